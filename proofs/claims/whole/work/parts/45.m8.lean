theorem chr_b : ∀ i, i < 21 → ∀ k, k < 8 → ((sBy i).getD k 0).toInt ≤ 127 := by decide +kernel
set_option maxHeartbeats 4000000 in
set_option maxRecDepth 100000 in
theorem c_X12_is (l : Launch) (dC : Nat → ClassId) (dI : Nat → Nat → Nat) (cy : Nat → ClassId) (sa sv : Nat → Nat) (fv : Value) (am : Nat → Nat) (tn : Nat) (zsz : Nat) (zfr : Nat) (zbe : Nat) (zha : Int32) (zva : Int32) (fk : Int32) (fp : Int32) (sn : Nat) (pn : Nat) (qn : Nat) (zss : Int32) (zsy : Int32) (zpy : Int32) (zfs : Int32) (zls : Int32) (an : Nat) (zw : Nat) (tb : Nat → Int32) (w : Nat) (hw : w < 10) (hby : byOK tb) (hsz : zsz ≤ 600) (hlk : lk tb zsz zfr zbe zha.toInt zva.toInt) : Met l yX12_is wsX12_is ({ frames := 4, cells := 0, slots := 0, locals := 85 }) (va_Pc [.ref (am 0), .ref (sa (w + 11))] (fun U => va_P (dC, dI) vwCl [(am 0, .inr (12, [.ref (am 1), .ref (am 2), .ref (am 3), .ref (am 4), .int (nI tn), .int (nI zsz), .int (nI zfr), .int (nI zbe), .int zha, .int zva, .int fk, .int fp, .ref (am 13), .int (nI sn), .ref (am 15), .ref (am 16), .ref (am 17), .ref (am 18), .ref (am 19), .int (nI pn), .int (nI qn), .ref (am 22), .ref (am 23), .ref (am 24), .ref (am 25), .ref (am 26), .ref (am 27), .ref (am 28), .ref (am 29), .ref (am 30), .ref (am 31), .ref (am 32), .ref (am 33), .ref (am 34), .int zss, .int zsy, .int zpy, .int zfs, .int zls, .int (nI an), .ref (am 41), .ref (am 42), .ref (am 43), .ref (am 44), .ref (am 45), .ref (am 46), .ref (am 47), .ref (am 48), .ref (am 49), .ref (am 50), .int (nI zw), .ref (am 52), .ref (am 53)])), (am 4, .inl (cy 3, 600, .inl (mTape tb)))] U.heap ∧ va_K (dC, dI) vwCl (tyL cy) U ∧ sW sa sv fv (fun _ => False) U U.heap)) (vp_Si (fun r => r = pI (isW tb zfr zbe w))) 0 0 (fun _ => False) := by
  refine Met.ofW (cc := cX12_is) (maxL := 4) (ret := (some .boolean)) (by decide) rfl ?_
  intro pp ee ss mm args below meth cc0 s₁ B hml hv
  obtain ⟨rfl, hP, hK, hE⟩ := hv
  have hx := B.exec
  have hb := B.bytes
  have hr := B.returns
  have hts := atoms_spec (ws := wsX12_is) B.pre
  have hown : ss.vm.findClass RX12 = some mm.cls := findClass_of_methodNamed B.named
  have hlocks := B.notSynchronized
  have hL0 := hts (.fieldLink RX12 39 "HereLivedModel" "hand" "I") (by decide +kernel)
  have hL1 := hts (.fieldLink RX12 28 "HereLivedModel" "tape" "[B") (by decide +kernel)
  have hL2 := hts (.fieldLink RX12 15 "HereLivedModel" "from" "I") (by decide +kernel)
  have hL3 := hts (.fieldLink RX12 32 "HereLivedModel" "behind" "I") (by decide +kernel)
  have hiX12 : ∀ w ∈ wsX120, w ∈ wsX12_is := by decide +kernel
  have hl := lv_entry ([.ref (am 0), .ref (sa (w + 11))]) (n := 4) (Nat.le_of_ble_eq_true rfl)
  rw [lg_entry_eq]
  generalize (lg_sl ([.ref (am 0), .ref (sa (w + 11))]) ++ List.replicate (4 - (lg_sl ([.ref (am 0), .ref (sa (w + 11))])).length) Slot.unset).toArray = ls at hl ⊢
  have hl : lv_has ls 4 [(0, .ref (am 0)), (1, .ref (sa (w + 11)))] := hl
  refine bw_Q (fun Q hQ => ?_)
  change W pp l ee { frames := 4, cells := 0, slots := 0, locals := 85 } ss mm _ below meth cc0 ss.heap [] 0 0 Q (F0 mm 0 ls [])
  have hl7 := sBy_len (w + 11) (by omega)
  obtain ⟨hw1, hw2⟩ := wd_eqM w hw
  obtain ⟨k1, k2, k3, k4, k5, k6⟩ := id hlk
  refine lv_aload_n hx hb dX12_is_0 rfl (lv_at hl 0 rfl) ?_
  refine va_get (D := (dC, dI)) (ci := 12) (v := .int zha) (C := RX12) (T := TX12) (N := 53) hx hb hts hiX12 hown hK hP 0 rfl rfl 8 (by decide) hL0 (fun _ h9 => h9) rfl dX12_is_1 ?_
  refine lv_iconst (v := 1) hx hb dX12_is_4 (by decide) ?_
  refine bw_icmp_ne (tgt := 28) (a := zha.toInt) (b := 1) hx hb dX12_is_5 (by decide) rfl rfl (fun c_1 => ?_) (fun c_1 => ?_)
  · skip
    refine lv_iconst (v := 0) hx hb dX12_is_28 (by decide) ?_
    refine lv_istore_n (lv' := [(2, .int 0), (0, .ref (am 0)), (1, .ref (sa (w + 11)))]) hx hb dX12_is_29 rfl hl (by decide) rfl (fun ls hl => ?_)
    refine lv_iconst (v := 0) hx hb dX12_is_30 (by decide) ?_
    refine lv_istore_n (lv' := [(3, .int 0), (2, .int 0), (0, .ref (am 0)), (1, .ref (sa (w + 11)))]) hx hb dX12_is_31 rfl hl (by decide) rfl (fun ls hl => ?_)
    have L_32 : ∀ (n9 : Nat), ∀ (k : Nat) (z : Int32), ((sBy (w + 11)).length - k) < n9 → (k ≤ (sBy (w + 11)).length) → (z = pI ((zha.toInt = 1 ∧ zbe = zfr + (sBy (w + 11)).length) ∧ ∀ j, j < k → (tb (zfr + j)).toInt = (((wdB w).getD j 0 : Nat) : Int))) → ∀ (ls : Array Slot), lv_has ls 4 [(0, .ref (am 0)), (1, .ref (sa (w + 11))), (2, .int z), (3, .int (nI k))] → W pp l ee { frames := 4, cells := 0, slots := 0, locals := 85 } ss mm (List.toArray [Value.ref (am 0), Value.ref (sa (w + 11))]) below meth cc0 ss.heap [] 0 0 Q (F0 mm 32 ls []) := by
      intro n9
      induction n9 with
      | zero => intro k z hm9; exact absurd hm9 (Nat.not_lt_zero _)
      | succ n9 ih32 =>
        intro k z hm32 hk hz
        intro ls hl
        refine lv_iload_n hx hb dX12_is_32 rfl (lv_at hl 3 rfl) ?_
        refine lv_aload_n hx hb dX12_is_33 rfl (lv_at hl 1 rfl) ?_
        refine vp_callSi (va_Run.run (va_runV (As := []) (rest := [.int (nI k)]) ⟨hx, hb, hml, hown, hts⟩ (c_J0_length_8abf5 l dC dI cy sa sv fv (w + 11) (by first | assumption | omega)) (cwV 0 hts gX12_is_J0_length_8abf5 rfl rfl rfl (by decide +kernel) ⟨Nat.le_of_ble_eq_true rfl, Nat.le_of_ble_eq_true rfl⟩) ⟨fun a U g mk q => by obtain ⟨q0, qP, qK, qE⟩ := q; exact ⟨q0, qP, va_K.moved (u := U) (U := U.calling g mk a) (Vm.Alike.refl U.vm) qK, sW.call qE g mk a⟩, sW.recv hE (by first | assumption | omega | decide), fun U hU hW => ⟨rfl, (fun k q h => by simp at h), va_K.moved hW.alike hK, hE.go hW hU⟩⟩ rfl rfl hl.1 rfl (lv_room (Nat.le_of_ble_eq_true rfl)) dX12_is_34 ⟨Nat.le_of_ble_eq_true rfl, Nat.le_of_ble_eq_true rfl⟩)) (fun r_2 hr_2 => ?_)
        rw [hr_2]
        refine bw_icmp_ge (tgt := 75) (a := ((k : Nat) : Int)) (b := (((sBy (w + 11)).length : Nat) : Int)) hx hb dX12_is_37 (by decide) (nI_toInt (by omega)) (nI_toInt (by omega)) (fun c_3 => ?_) (fun c_3 => ?_)
        · skip
          refine lv_iload_n hx hb dX12_is_75 rfl (lv_at hl 2 rfl) ?_
          refine bw_Qe hQ ?_
          have hpost : z = pI (isW tb zfr zbe w) := by
            have hend : isW tb zfr zbe w ↔ ((zha.toInt = 1 ∧ zbe = zfr + (sBy (w + 11)).length) ∧ ∀ j, j < (sBy (w + 11)).length → (tb (zfr + j)).toInt = (((wdB w).getD j 0 : Nat) : Int)) := by
              constructor
              · intro q
                exact ⟨⟨k6.2.1 (isW_sm hw q k2), by rw [hw1]; exact q.1⟩, fun j hj => q.2 j (by omega)⟩
              · intro q
                exact ⟨by have := q.1.2; omega, fun j hj => q.2 j (by omega)⟩
            first
              | (have e9 : k = (sBy (w + 11)).length := by omega
                 rw [hz, e9]; exact pI_cong hend.symm)
              | (have hno : ¬ ((zha.toInt = 1 ∧ zbe = zfr + (sBy (w + 11)).length) ∧ ∀ j, j < k → (tb (zfr + j)).toInt = (((wdB w).getD j 0 : Nat) : Int)) := pI_e0.mp (by rw [← hz]; exact c_z)
                 rw [hz]
                 exact (pI_f hno).trans (pI_f (fun q => hno ⟨(hend.mp q).1, fun j hj => (hend.mp q).2 j (by omega)⟩)).symm)
          exact W.zret (v := z) hx hb hr (by rw [hz]; unfold pI; split <;> rfl) (fun t9 ht hW => ⟨_, rfl, hpost, by rw [ht]⟩) (fun q h => by cases h) dX12_is_76
        · skip
          refine lv_iload_n hx hb dX12_is_40 rfl (lv_at hl 2 rfl) ?_
          refine bw_if_eq (tgt := 75) (a := z.toInt) hx hb dX12_is_41 (by decide) rfl (fun c_z => ?_) (fun c_z => ?_)
          · skip
            refine lv_iload_n hx hb dX12_is_75 rfl (lv_at hl 2 rfl) ?_
            refine bw_Qe hQ ?_
            have hpost : z = pI (isW tb zfr zbe w) := by
              have hend : isW tb zfr zbe w ↔ ((zha.toInt = 1 ∧ zbe = zfr + (sBy (w + 11)).length) ∧ ∀ j, j < (sBy (w + 11)).length → (tb (zfr + j)).toInt = (((wdB w).getD j 0 : Nat) : Int)) := by
                constructor
                · intro q
                  exact ⟨⟨k6.2.1 (isW_sm hw q k2), by rw [hw1]; exact q.1⟩, fun j hj => q.2 j (by omega)⟩
                · intro q
                  exact ⟨by have := q.1.2; omega, fun j hj => q.2 j (by omega)⟩
              first
                | (have e9 : k = (sBy (w + 11)).length := by omega
                   rw [hz, e9]; exact pI_cong hend.symm)
                | (have hno : ¬ ((zha.toInt = 1 ∧ zbe = zfr + (sBy (w + 11)).length) ∧ ∀ j, j < k → (tb (zfr + j)).toInt = (((wdB w).getD j 0 : Nat) : Int)) := pI_e0.mp (by rw [← hz]; exact c_z)
                   rw [hz]
                   exact (pI_f hno).trans (pI_f (fun q => hno ⟨(hend.mp q).1, fun j hj => (hend.mp q).2 j (by omega)⟩)).symm)
            exact W.zret (v := z) hx hb hr (by rw [hz]; unfold pI; split <;> rfl) (fun t9 ht hW => ⟨_, rfl, hpost, by rw [ht]⟩) (fun q h => by cases h) dX12_is_76
          · skip
            have hz0 : (zha.toInt = 1 ∧ zbe = zfr + (sBy (w + 11)).length) ∧ ∀ j, j < k → (tb (zfr + j)).toInt = (((wdB w).getD j 0 : Nat) : Int) := pI_ne.mp (by rw [← hz]; exact c_z)
            have hz2 := hz0.1
            have hmt := mT_or hby (zfr + k)
            have hb9 := hby (zfr + k)
            have hcw0 := hw2 k (by omega)
            have hcb : ((sBy (w + 11)).getD k 0).toInt ≤ 127 := chr_b (w + 11) (by omega) k (by omega)
            clear hz0
            refine lv_aload_n hx hb dX12_is_44 rfl (lv_at hl 0 rfl) ?_
            refine va_get (D := (dC, dI)) (ci := 12) (v := .ref (am 4)) (C := RX12) (T := TX12) (N := 53) hx hb hts hiX12 hown hK hP 0 rfl rfl 3 (by decide) hL1 (fun _ h9 => h9) rfl dX12_is_45 ?_
            refine lv_aload_n hx hb dX12_is_48 rfl (lv_at hl 0 rfl) ?_
            refine va_get (D := (dC, dI)) (ci := 12) (v := .int (nI zfr)) (C := RX12) (T := TX12) (N := 53) hx hb hts hiX12 hown hK hP 0 rfl rfl 6 (by decide) hL2 (fun _ h9 => h9) rfl dX12_is_49 ?_
            refine lv_iload_n hx hb dX12_is_52 rfl (lv_at hl 3 rfl) ?_
            refine lv_iadd hx hb dX12_is_53 ?_
            refine bw_re (show (nI zfr) + (nI k) = nI (zfr + k) from nI_add (zfr) (k)) ?_
            refine bw_bald hx hb hK hP 1 3 rfl rfl (j := (zfr + k)) (nI_toInt (by omega)) (by omega) dX12_is_54 ?_
            refine lv_aload_n hx hb dX12_is_55 rfl (lv_at hl 1 rfl) ?_
            refine lv_iload_n hx hb dX12_is_56 rfl (lv_at hl 3 rfl) ?_
            refine vp_callSi (va_Run.run (va_runV (As := [.int (nI k)]) (rest := [.int ((mTape tb) (zfr + k))]) ⟨hx, hb, hml, hown, hts⟩ (c_J0_charAt_5068e l dC dI cy sa sv fv (w + 11) k (by first | assumption | omega) (by first | assumption | omega)) (cwV 1 hts gX12_is_J0_charAt_5068e rfl rfl rfl (by decide +kernel) ⟨Nat.le_of_ble_eq_true rfl, Nat.le_of_ble_eq_true rfl⟩) ⟨fun a U g mk q => by obtain ⟨q0, qP, qK, qE⟩ := q; exact ⟨q0, qP, va_K.moved (u := U) (U := U.calling g mk a) (Vm.Alike.refl U.vm) qK, sW.call qE g mk a⟩, sW.recv hE (by first | assumption | omega | decide), fun U hU hW => ⟨rfl, (fun k q h => by simp at h), va_K.moved hW.alike hK, hE.go hW hU⟩⟩ rfl rfl hl.1 rfl (lv_room (Nat.le_of_ble_eq_true rfl)) dX12_is_57 ⟨Nat.le_of_ble_eq_true rfl, Nat.le_of_ble_eq_true rfl⟩)) (fun r_4 hr_4 => ?_)
            rw [hr_4]
            refine bw_icmp_ne (tgt := 67) (a := ((mTape tb) (zfr + k)).toInt) (b := ((sBy (w + 11)).getD k 0).toInt) hx hb dX12_is_60 (by decide) rfl rfl (fun c_5 => ?_) (fun c_5 => ?_)
            · skip
              refine lv_iconst (v := 0) hx hb dX12_is_67 (by decide) ?_
              refine lv_istore_n (lv' := [(2, .int 0), (0, .ref (am 0)), (1, .ref (sa (w + 11))), (3, .int (nI k))]) hx hb dX12_is_68 rfl hl (by decide) rfl (fun ls hl => ?_)
              refine lv_iinc (v := nI (k + 1)) (lv' := [(3, .int (nI (k + 1))), (2, .int 0), (0, .ref (am 0)), (1, .ref (sa (w + 11)))]) hx hb dX12_is_69 hl (k := 3) rfl (show nI k + Int32.ofInt 1 = nI (k + 1) from nI_add k 1) (by decide) rfl (fun ls hl => ?_)
              refine lv_goto (tgt := 32) hx hb dX12_is_72 (by decide) ?_
              have hI_hz : 0 = pI ((zha.toInt = 1 ∧ zbe = zfr + (sBy (w + 11)).length) ∧ ∀ j, j < (k + 1) → (tb (zfr + j)).toInt = (((wdB w).getD j 0 : Nat) : Int)) := by
                have hz1 : (zha.toInt = 1 ∧ zbe = zfr + (sBy (w + 11)).length) ∧ ∀ j, j < k → (tb (zfr + j)).toInt = (((wdB w).getD j 0 : Nat) : Int) := pI_ne.mp (by rw [← hz]; exact c_z)
                have hcw := hw2 k (by omega)
                first
                  | (refine (pI_t ⟨hz1.1, fun j hj => ?_⟩).symm
                     by_cases q : j = k
                     · rw [q]; omega
                     · exact hz1.2 j (by omega))
                  | exact (pI_f (fun q => absurd (q.2 k (by omega)) (by omega))).symm
              exact ih32 (k + 1) 0 (by omega) (by first | assumption | omega) hI_hz ls (lv_sub hl [2, 3, 1, 0] rfl)
            · skip
              refine lv_iconst (v := 1) hx hb dX12_is_63 (by decide) ?_
              refine lv_goto (tgt := 68) hx hb dX12_is_64 (by decide) ?_
              refine lv_istore_n (lv' := [(2, .int 1), (0, .ref (am 0)), (1, .ref (sa (w + 11))), (3, .int (nI k))]) hx hb dX12_is_68 rfl hl (by decide) rfl (fun ls hl => ?_)
              refine lv_iinc (v := nI (k + 1)) (lv' := [(3, .int (nI (k + 1))), (2, .int 1), (0, .ref (am 0)), (1, .ref (sa (w + 11)))]) hx hb dX12_is_69 hl (k := 3) rfl (show nI k + Int32.ofInt 1 = nI (k + 1) from nI_add k 1) (by decide) rfl (fun ls hl => ?_)
              refine lv_goto (tgt := 32) hx hb dX12_is_72 (by decide) ?_
              have hI_hz : 1 = pI ((zha.toInt = 1 ∧ zbe = zfr + (sBy (w + 11)).length) ∧ ∀ j, j < (k + 1) → (tb (zfr + j)).toInt = (((wdB w).getD j 0 : Nat) : Int)) := by
                have hz1 : (zha.toInt = 1 ∧ zbe = zfr + (sBy (w + 11)).length) ∧ ∀ j, j < k → (tb (zfr + j)).toInt = (((wdB w).getD j 0 : Nat) : Int) := pI_ne.mp (by rw [← hz]; exact c_z)
                have hcw := hw2 k (by omega)
                first
                  | (refine (pI_t ⟨hz1.1, fun j hj => ?_⟩).symm
                     by_cases q : j = k
                     · rw [q]; omega
                     · exact hz1.2 j (by omega))
                  | exact (pI_f (fun q => absurd (q.2 k (by omega)) (by omega))).symm
              exact ih32 (k + 1) 1 (by omega) (by first | assumption | omega) hI_hz ls (lv_sub hl [2, 3, 1, 0] rfl)
    have hI_hz : 0 = pI ((zha.toInt = 1 ∧ zbe = zfr + (sBy (w + 11)).length) ∧ ∀ j, j < 0 → (tb (zfr + j)).toInt = (((wdB w).getD j 0 : Nat) : Int)) := by
      first
        | exact (pI_t ⟨⟨by omega, by omega⟩, fun j hj => absurd hj (Nat.not_lt_zero _)⟩).symm
        | exact (pI_f (fun q => absurd q.1 (by omega))).symm
    exact L_32 (((sBy (w + 11)).length - 0) + 1) 0 0 (by omega) (by first | assumption | omega) hI_hz ls (lv_sub hl [2, 3, 1, 0] rfl)
  · skip
    refine lv_aload_n hx hb dX12_is_8 rfl (lv_at hl 0 rfl) ?_
    refine va_get (D := (dC, dI)) (ci := 12) (v := .int (nI zbe)) (C := RX12) (T := TX12) (N := 53) hx hb hts hiX12 hown hK hP 0 rfl rfl 7 (by decide) hL3 (fun _ h9 => h9) rfl dX12_is_9 ?_
    refine lv_aload_n hx hb dX12_is_12 rfl (lv_at hl 0 rfl) ?_
    refine va_get (D := (dC, dI)) (ci := 12) (v := .int (nI zfr)) (C := RX12) (T := TX12) (N := 53) hx hb hts hiX12 hown hK hP 0 rfl rfl 6 (by decide) hL2 (fun _ h9 => h9) rfl dX12_is_13 ?_
    refine lv_isub hx hb dX12_is_16 ?_
    refine bw_re (show (nI zbe) - (nI zfr) = nI (zbe - zfr) from pk_sub (a := zbe) (b := zfr) (by omega)) ?_
    refine lv_aload_n hx hb dX12_is_17 rfl (lv_at hl 1 rfl) ?_
    refine vp_callSi (va_Run.run (va_runV (As := []) (rest := [.int (nI (zbe - zfr))]) ⟨hx, hb, hml, hown, hts⟩ (c_J0_length_8abf5 l dC dI cy sa sv fv (w + 11) (by first | assumption | omega)) (cwV 0 hts gX12_is_J0_length_8abf5 rfl rfl rfl (by decide +kernel) ⟨Nat.le_of_ble_eq_true rfl, Nat.le_of_ble_eq_true rfl⟩) ⟨fun a U g mk q => by obtain ⟨q0, qP, qK, qE⟩ := q; exact ⟨q0, qP, va_K.moved (u := U) (U := U.calling g mk a) (Vm.Alike.refl U.vm) qK, sW.call qE g mk a⟩, sW.recv hE (by first | assumption | omega | decide), fun U hU hW => ⟨rfl, (fun k q h => by simp at h), va_K.moved hW.alike hK, hE.go hW hU⟩⟩ rfl rfl hl.1 rfl (lv_room (Nat.le_of_ble_eq_true rfl)) dX12_is_18 ⟨Nat.le_of_ble_eq_true rfl, Nat.le_of_ble_eq_true rfl⟩)) (fun r_6 hr_6 => ?_)
    rw [hr_6]
    refine bw_icmp_ne (tgt := 28) (a := ((zbe - zfr : Nat) : Int)) (b := (((sBy (w + 11)).length : Nat) : Int)) hx hb dX12_is_21 (by decide) (nI_toInt (by omega)) (nI_toInt (by omega)) (fun c_7 => ?_) (fun c_7 => ?_)
    · skip
      refine lv_iconst (v := 0) hx hb dX12_is_28 (by decide) ?_
      refine lv_istore_n (lv' := [(2, .int 0), (0, .ref (am 0)), (1, .ref (sa (w + 11)))]) hx hb dX12_is_29 rfl hl (by decide) rfl (fun ls hl => ?_)
      refine lv_iconst (v := 0) hx hb dX12_is_30 (by decide) ?_
      refine lv_istore_n (lv' := [(3, .int 0), (2, .int 0), (0, .ref (am 0)), (1, .ref (sa (w + 11)))]) hx hb dX12_is_31 rfl hl (by decide) rfl (fun ls hl => ?_)
      have L_32 : ∀ (n9 : Nat), ∀ (k : Nat) (z : Int32), ((sBy (w + 11)).length - k) < n9 → (k ≤ (sBy (w + 11)).length) → (z = pI ((zha.toInt = 1 ∧ zbe = zfr + (sBy (w + 11)).length) ∧ ∀ j, j < k → (tb (zfr + j)).toInt = (((wdB w).getD j 0 : Nat) : Int))) → ∀ (ls : Array Slot), lv_has ls 4 [(0, .ref (am 0)), (1, .ref (sa (w + 11))), (2, .int z), (3, .int (nI k))] → W pp l ee { frames := 4, cells := 0, slots := 0, locals := 85 } ss mm (List.toArray [Value.ref (am 0), Value.ref (sa (w + 11))]) below meth cc0 ss.heap [] 0 0 Q (F0 mm 32 ls []) := by
        intro n9
        induction n9 with
        | zero => intro k z hm9; exact absurd hm9 (Nat.not_lt_zero _)
        | succ n9 ih32 =>
          intro k z hm32 hk hz
          intro ls hl
          refine lv_iload_n hx hb dX12_is_32 rfl (lv_at hl 3 rfl) ?_
          refine lv_aload_n hx hb dX12_is_33 rfl (lv_at hl 1 rfl) ?_
          refine vp_callSi (va_Run.run (va_runV (As := []) (rest := [.int (nI k)]) ⟨hx, hb, hml, hown, hts⟩ (c_J0_length_8abf5 l dC dI cy sa sv fv (w + 11) (by first | assumption | omega)) (cwV 0 hts gX12_is_J0_length_8abf5 rfl rfl rfl (by decide +kernel) ⟨Nat.le_of_ble_eq_true rfl, Nat.le_of_ble_eq_true rfl⟩) ⟨fun a U g mk q => by obtain ⟨q0, qP, qK, qE⟩ := q; exact ⟨q0, qP, va_K.moved (u := U) (U := U.calling g mk a) (Vm.Alike.refl U.vm) qK, sW.call qE g mk a⟩, sW.recv hE (by first | assumption | omega | decide), fun U hU hW => ⟨rfl, (fun k q h => by simp at h), va_K.moved hW.alike hK, hE.go hW hU⟩⟩ rfl rfl hl.1 rfl (lv_room (Nat.le_of_ble_eq_true rfl)) dX12_is_34 ⟨Nat.le_of_ble_eq_true rfl, Nat.le_of_ble_eq_true rfl⟩)) (fun r_8 hr_8 => ?_)
          rw [hr_8]
          refine bw_icmp_ge (tgt := 75) (a := ((k : Nat) : Int)) (b := (((sBy (w + 11)).length : Nat) : Int)) hx hb dX12_is_37 (by decide) (nI_toInt (by omega)) (nI_toInt (by omega)) (fun c_9 => ?_) (fun c_9 => ?_)
          · skip
            refine lv_iload_n hx hb dX12_is_75 rfl (lv_at hl 2 rfl) ?_
            refine bw_Qe hQ ?_
            have hpost : z = pI (isW tb zfr zbe w) := by
              have hend : isW tb zfr zbe w ↔ ((zha.toInt = 1 ∧ zbe = zfr + (sBy (w + 11)).length) ∧ ∀ j, j < (sBy (w + 11)).length → (tb (zfr + j)).toInt = (((wdB w).getD j 0 : Nat) : Int)) := by
                constructor
                · intro q
                  exact ⟨⟨k6.2.1 (isW_sm hw q k2), by rw [hw1]; exact q.1⟩, fun j hj => q.2 j (by omega)⟩
                · intro q
                  exact ⟨by have := q.1.2; omega, fun j hj => q.2 j (by omega)⟩
              first
                | (have e9 : k = (sBy (w + 11)).length := by omega
                   rw [hz, e9]; exact pI_cong hend.symm)
                | (have hno : ¬ ((zha.toInt = 1 ∧ zbe = zfr + (sBy (w + 11)).length) ∧ ∀ j, j < k → (tb (zfr + j)).toInt = (((wdB w).getD j 0 : Nat) : Int)) := pI_e0.mp (by rw [← hz]; exact c_z)
                   rw [hz]
                   exact (pI_f hno).trans (pI_f (fun q => hno ⟨(hend.mp q).1, fun j hj => (hend.mp q).2 j (by omega)⟩)).symm)
            exact W.zret (v := z) hx hb hr (by rw [hz]; unfold pI; split <;> rfl) (fun t9 ht hW => ⟨_, rfl, hpost, by rw [ht]⟩) (fun q h => by cases h) dX12_is_76
          · skip
            refine lv_iload_n hx hb dX12_is_40 rfl (lv_at hl 2 rfl) ?_
            refine bw_if_eq (tgt := 75) (a := z.toInt) hx hb dX12_is_41 (by decide) rfl (fun c_z => ?_) (fun c_z => ?_)
            · skip
              refine lv_iload_n hx hb dX12_is_75 rfl (lv_at hl 2 rfl) ?_
              refine bw_Qe hQ ?_
              have hpost : z = pI (isW tb zfr zbe w) := by
                have hend : isW tb zfr zbe w ↔ ((zha.toInt = 1 ∧ zbe = zfr + (sBy (w + 11)).length) ∧ ∀ j, j < (sBy (w + 11)).length → (tb (zfr + j)).toInt = (((wdB w).getD j 0 : Nat) : Int)) := by
                  constructor
                  · intro q
                    exact ⟨⟨k6.2.1 (isW_sm hw q k2), by rw [hw1]; exact q.1⟩, fun j hj => q.2 j (by omega)⟩
                  · intro q
                    exact ⟨by have := q.1.2; omega, fun j hj => q.2 j (by omega)⟩
                first
                  | (have e9 : k = (sBy (w + 11)).length := by omega
                     rw [hz, e9]; exact pI_cong hend.symm)
                  | (have hno : ¬ ((zha.toInt = 1 ∧ zbe = zfr + (sBy (w + 11)).length) ∧ ∀ j, j < k → (tb (zfr + j)).toInt = (((wdB w).getD j 0 : Nat) : Int)) := pI_e0.mp (by rw [← hz]; exact c_z)
                     rw [hz]
                     exact (pI_f hno).trans (pI_f (fun q => hno ⟨(hend.mp q).1, fun j hj => (hend.mp q).2 j (by omega)⟩)).symm)
              exact W.zret (v := z) hx hb hr (by rw [hz]; unfold pI; split <;> rfl) (fun t9 ht hW => ⟨_, rfl, hpost, by rw [ht]⟩) (fun q h => by cases h) dX12_is_76
            · skip
              have hz0 : (zha.toInt = 1 ∧ zbe = zfr + (sBy (w + 11)).length) ∧ ∀ j, j < k → (tb (zfr + j)).toInt = (((wdB w).getD j 0 : Nat) : Int) := pI_ne.mp (by rw [← hz]; exact c_z)
              have hz2 := hz0.1
              have hmt := mT_or hby (zfr + k)
              have hb9 := hby (zfr + k)
              have hcw0 := hw2 k (by omega)
              have hcb : ((sBy (w + 11)).getD k 0).toInt ≤ 127 := chr_b (w + 11) (by omega) k (by omega)
              clear hz0
              refine lv_aload_n hx hb dX12_is_44 rfl (lv_at hl 0 rfl) ?_
              refine va_get (D := (dC, dI)) (ci := 12) (v := .ref (am 4)) (C := RX12) (T := TX12) (N := 53) hx hb hts hiX12 hown hK hP 0 rfl rfl 3 (by decide) hL1 (fun _ h9 => h9) rfl dX12_is_45 ?_
              refine lv_aload_n hx hb dX12_is_48 rfl (lv_at hl 0 rfl) ?_
              refine va_get (D := (dC, dI)) (ci := 12) (v := .int (nI zfr)) (C := RX12) (T := TX12) (N := 53) hx hb hts hiX12 hown hK hP 0 rfl rfl 6 (by decide) hL2 (fun _ h9 => h9) rfl dX12_is_49 ?_
              refine lv_iload_n hx hb dX12_is_52 rfl (lv_at hl 3 rfl) ?_
              refine lv_iadd hx hb dX12_is_53 ?_
              refine bw_re (show (nI zfr) + (nI k) = nI (zfr + k) from nI_add (zfr) (k)) ?_
              refine bw_bald hx hb hK hP 1 3 rfl rfl (j := (zfr + k)) (nI_toInt (by omega)) (by omega) dX12_is_54 ?_
              refine lv_aload_n hx hb dX12_is_55 rfl (lv_at hl 1 rfl) ?_
              refine lv_iload_n hx hb dX12_is_56 rfl (lv_at hl 3 rfl) ?_
              refine vp_callSi (va_Run.run (va_runV (As := [.int (nI k)]) (rest := [.int ((mTape tb) (zfr + k))]) ⟨hx, hb, hml, hown, hts⟩ (c_J0_charAt_5068e l dC dI cy sa sv fv (w + 11) k (by first | assumption | omega) (by first | assumption | omega)) (cwV 1 hts gX12_is_J0_charAt_5068e rfl rfl rfl (by decide +kernel) ⟨Nat.le_of_ble_eq_true rfl, Nat.le_of_ble_eq_true rfl⟩) ⟨fun a U g mk q => by obtain ⟨q0, qP, qK, qE⟩ := q; exact ⟨q0, qP, va_K.moved (u := U) (U := U.calling g mk a) (Vm.Alike.refl U.vm) qK, sW.call qE g mk a⟩, sW.recv hE (by first | assumption | omega | decide), fun U hU hW => ⟨rfl, (fun k q h => by simp at h), va_K.moved hW.alike hK, hE.go hW hU⟩⟩ rfl rfl hl.1 rfl (lv_room (Nat.le_of_ble_eq_true rfl)) dX12_is_57 ⟨Nat.le_of_ble_eq_true rfl, Nat.le_of_ble_eq_true rfl⟩)) (fun r_10 hr_10 => ?_)
              rw [hr_10]
              refine bw_icmp_ne (tgt := 67) (a := ((mTape tb) (zfr + k)).toInt) (b := ((sBy (w + 11)).getD k 0).toInt) hx hb dX12_is_60 (by decide) rfl rfl (fun c_11 => ?_) (fun c_11 => ?_)
              · skip
                refine lv_iconst (v := 0) hx hb dX12_is_67 (by decide) ?_
                refine lv_istore_n (lv' := [(2, .int 0), (0, .ref (am 0)), (1, .ref (sa (w + 11))), (3, .int (nI k))]) hx hb dX12_is_68 rfl hl (by decide) rfl (fun ls hl => ?_)
                refine lv_iinc (v := nI (k + 1)) (lv' := [(3, .int (nI (k + 1))), (2, .int 0), (0, .ref (am 0)), (1, .ref (sa (w + 11)))]) hx hb dX12_is_69 hl (k := 3) rfl (show nI k + Int32.ofInt 1 = nI (k + 1) from nI_add k 1) (by decide) rfl (fun ls hl => ?_)
                refine lv_goto (tgt := 32) hx hb dX12_is_72 (by decide) ?_
                have hI_hz : 0 = pI ((zha.toInt = 1 ∧ zbe = zfr + (sBy (w + 11)).length) ∧ ∀ j, j < (k + 1) → (tb (zfr + j)).toInt = (((wdB w).getD j 0 : Nat) : Int)) := by
                  have hz1 : (zha.toInt = 1 ∧ zbe = zfr + (sBy (w + 11)).length) ∧ ∀ j, j < k → (tb (zfr + j)).toInt = (((wdB w).getD j 0 : Nat) : Int) := pI_ne.mp (by rw [← hz]; exact c_z)
                  have hcw := hw2 k (by omega)
                  first
                    | (refine (pI_t ⟨hz1.1, fun j hj => ?_⟩).symm
                       by_cases q : j = k
                       · rw [q]; omega
                       · exact hz1.2 j (by omega))
                    | exact (pI_f (fun q => absurd (q.2 k (by omega)) (by omega))).symm
                exact ih32 (k + 1) 0 (by omega) (by first | assumption | omega) hI_hz ls (lv_sub hl [2, 3, 1, 0] rfl)
              · skip
                refine lv_iconst (v := 1) hx hb dX12_is_63 (by decide) ?_
                refine lv_goto (tgt := 68) hx hb dX12_is_64 (by decide) ?_
                refine lv_istore_n (lv' := [(2, .int 1), (0, .ref (am 0)), (1, .ref (sa (w + 11))), (3, .int (nI k))]) hx hb dX12_is_68 rfl hl (by decide) rfl (fun ls hl => ?_)
                refine lv_iinc (v := nI (k + 1)) (lv' := [(3, .int (nI (k + 1))), (2, .int 1), (0, .ref (am 0)), (1, .ref (sa (w + 11)))]) hx hb dX12_is_69 hl (k := 3) rfl (show nI k + Int32.ofInt 1 = nI (k + 1) from nI_add k 1) (by decide) rfl (fun ls hl => ?_)
                refine lv_goto (tgt := 32) hx hb dX12_is_72 (by decide) ?_
                have hI_hz : 1 = pI ((zha.toInt = 1 ∧ zbe = zfr + (sBy (w + 11)).length) ∧ ∀ j, j < (k + 1) → (tb (zfr + j)).toInt = (((wdB w).getD j 0 : Nat) : Int)) := by
                  have hz1 : (zha.toInt = 1 ∧ zbe = zfr + (sBy (w + 11)).length) ∧ ∀ j, j < k → (tb (zfr + j)).toInt = (((wdB w).getD j 0 : Nat) : Int) := pI_ne.mp (by rw [← hz]; exact c_z)
                  have hcw := hw2 k (by omega)
                  first
                    | (refine (pI_t ⟨hz1.1, fun j hj => ?_⟩).symm
                       by_cases q : j = k
                       · rw [q]; omega
                       · exact hz1.2 j (by omega))
                    | exact (pI_f (fun q => absurd (q.2 k (by omega)) (by omega))).symm
                exact ih32 (k + 1) 1 (by omega) (by first | assumption | omega) hI_hz ls (lv_sub hl [2, 3, 1, 0] rfl)
      have hI_hz : 0 = pI ((zha.toInt = 1 ∧ zbe = zfr + (sBy (w + 11)).length) ∧ ∀ j, j < 0 → (tb (zfr + j)).toInt = (((wdB w).getD j 0 : Nat) : Int)) := by
        first
          | exact (pI_t ⟨⟨by omega, by omega⟩, fun j hj => absurd hj (Nat.not_lt_zero _)⟩).symm
          | exact (pI_f (fun q => absurd q.1 (by omega))).symm
      exact L_32 (((sBy (w + 11)).length - 0) + 1) 0 0 (by omega) (by first | assumption | omega) hI_hz ls (lv_sub hl [2, 3, 1, 0] rfl)
    · skip
      refine lv_iconst (v := 1) hx hb dX12_is_24 (by decide) ?_
      refine lv_goto (tgt := 29) hx hb dX12_is_25 (by decide) ?_
      refine lv_istore_n (lv' := [(2, .int 1), (0, .ref (am 0)), (1, .ref (sa (w + 11)))]) hx hb dX12_is_29 rfl hl (by decide) rfl (fun ls hl => ?_)
      refine lv_iconst (v := 0) hx hb dX12_is_30 (by decide) ?_
      refine lv_istore_n (lv' := [(3, .int 0), (2, .int 1), (0, .ref (am 0)), (1, .ref (sa (w + 11)))]) hx hb dX12_is_31 rfl hl (by decide) rfl (fun ls hl => ?_)
      have L_32 : ∀ (n9 : Nat), ∀ (k : Nat) (z : Int32), ((sBy (w + 11)).length - k) < n9 → (k ≤ (sBy (w + 11)).length) → (z = pI ((zha.toInt = 1 ∧ zbe = zfr + (sBy (w + 11)).length) ∧ ∀ j, j < k → (tb (zfr + j)).toInt = (((wdB w).getD j 0 : Nat) : Int))) → ∀ (ls : Array Slot), lv_has ls 4 [(0, .ref (am 0)), (1, .ref (sa (w + 11))), (2, .int z), (3, .int (nI k))] → W pp l ee { frames := 4, cells := 0, slots := 0, locals := 85 } ss mm (List.toArray [Value.ref (am 0), Value.ref (sa (w + 11))]) below meth cc0 ss.heap [] 0 0 Q (F0 mm 32 ls []) := by
        intro n9
        induction n9 with
        | zero => intro k z hm9; exact absurd hm9 (Nat.not_lt_zero _)
        | succ n9 ih32 =>
          intro k z hm32 hk hz
          intro ls hl
          refine lv_iload_n hx hb dX12_is_32 rfl (lv_at hl 3 rfl) ?_
          refine lv_aload_n hx hb dX12_is_33 rfl (lv_at hl 1 rfl) ?_
          refine vp_callSi (va_Run.run (va_runV (As := []) (rest := [.int (nI k)]) ⟨hx, hb, hml, hown, hts⟩ (c_J0_length_8abf5 l dC dI cy sa sv fv (w + 11) (by first | assumption | omega)) (cwV 0 hts gX12_is_J0_length_8abf5 rfl rfl rfl (by decide +kernel) ⟨Nat.le_of_ble_eq_true rfl, Nat.le_of_ble_eq_true rfl⟩) ⟨fun a U g mk q => by obtain ⟨q0, qP, qK, qE⟩ := q; exact ⟨q0, qP, va_K.moved (u := U) (U := U.calling g mk a) (Vm.Alike.refl U.vm) qK, sW.call qE g mk a⟩, sW.recv hE (by first | assumption | omega | decide), fun U hU hW => ⟨rfl, (fun k q h => by simp at h), va_K.moved hW.alike hK, hE.go hW hU⟩⟩ rfl rfl hl.1 rfl (lv_room (Nat.le_of_ble_eq_true rfl)) dX12_is_34 ⟨Nat.le_of_ble_eq_true rfl, Nat.le_of_ble_eq_true rfl⟩)) (fun r_12 hr_12 => ?_)
          rw [hr_12]
          refine bw_icmp_ge (tgt := 75) (a := ((k : Nat) : Int)) (b := (((sBy (w + 11)).length : Nat) : Int)) hx hb dX12_is_37 (by decide) (nI_toInt (by omega)) (nI_toInt (by omega)) (fun c_13 => ?_) (fun c_13 => ?_)
          · skip
            refine lv_iload_n hx hb dX12_is_75 rfl (lv_at hl 2 rfl) ?_
            refine bw_Qe hQ ?_
            have hpost : z = pI (isW tb zfr zbe w) := by
              have hend : isW tb zfr zbe w ↔ ((zha.toInt = 1 ∧ zbe = zfr + (sBy (w + 11)).length) ∧ ∀ j, j < (sBy (w + 11)).length → (tb (zfr + j)).toInt = (((wdB w).getD j 0 : Nat) : Int)) := by
                constructor
                · intro q
                  exact ⟨⟨k6.2.1 (isW_sm hw q k2), by rw [hw1]; exact q.1⟩, fun j hj => q.2 j (by omega)⟩
                · intro q
                  exact ⟨by have := q.1.2; omega, fun j hj => q.2 j (by omega)⟩
              first
                | (have e9 : k = (sBy (w + 11)).length := by omega
                   rw [hz, e9]; exact pI_cong hend.symm)
                | (have hno : ¬ ((zha.toInt = 1 ∧ zbe = zfr + (sBy (w + 11)).length) ∧ ∀ j, j < k → (tb (zfr + j)).toInt = (((wdB w).getD j 0 : Nat) : Int)) := pI_e0.mp (by rw [← hz]; exact c_z)
                   rw [hz]
                   exact (pI_f hno).trans (pI_f (fun q => hno ⟨(hend.mp q).1, fun j hj => (hend.mp q).2 j (by omega)⟩)).symm)
            exact W.zret (v := z) hx hb hr (by rw [hz]; unfold pI; split <;> rfl) (fun t9 ht hW => ⟨_, rfl, hpost, by rw [ht]⟩) (fun q h => by cases h) dX12_is_76
          · skip
            refine lv_iload_n hx hb dX12_is_40 rfl (lv_at hl 2 rfl) ?_
            refine bw_if_eq (tgt := 75) (a := z.toInt) hx hb dX12_is_41 (by decide) rfl (fun c_z => ?_) (fun c_z => ?_)
            · skip
              refine lv_iload_n hx hb dX12_is_75 rfl (lv_at hl 2 rfl) ?_
              refine bw_Qe hQ ?_
              have hpost : z = pI (isW tb zfr zbe w) := by
                have hend : isW tb zfr zbe w ↔ ((zha.toInt = 1 ∧ zbe = zfr + (sBy (w + 11)).length) ∧ ∀ j, j < (sBy (w + 11)).length → (tb (zfr + j)).toInt = (((wdB w).getD j 0 : Nat) : Int)) := by
                  constructor
                  · intro q
                    exact ⟨⟨k6.2.1 (isW_sm hw q k2), by rw [hw1]; exact q.1⟩, fun j hj => q.2 j (by omega)⟩
                  · intro q
                    exact ⟨by have := q.1.2; omega, fun j hj => q.2 j (by omega)⟩
                first
                  | (have e9 : k = (sBy (w + 11)).length := by omega
                     rw [hz, e9]; exact pI_cong hend.symm)
                  | (have hno : ¬ ((zha.toInt = 1 ∧ zbe = zfr + (sBy (w + 11)).length) ∧ ∀ j, j < k → (tb (zfr + j)).toInt = (((wdB w).getD j 0 : Nat) : Int)) := pI_e0.mp (by rw [← hz]; exact c_z)
                     rw [hz]
                     exact (pI_f hno).trans (pI_f (fun q => hno ⟨(hend.mp q).1, fun j hj => (hend.mp q).2 j (by omega)⟩)).symm)
              exact W.zret (v := z) hx hb hr (by rw [hz]; unfold pI; split <;> rfl) (fun t9 ht hW => ⟨_, rfl, hpost, by rw [ht]⟩) (fun q h => by cases h) dX12_is_76
            · skip
              have hz0 : (zha.toInt = 1 ∧ zbe = zfr + (sBy (w + 11)).length) ∧ ∀ j, j < k → (tb (zfr + j)).toInt = (((wdB w).getD j 0 : Nat) : Int) := pI_ne.mp (by rw [← hz]; exact c_z)
              have hz2 := hz0.1
              have hmt := mT_or hby (zfr + k)
              have hb9 := hby (zfr + k)
              have hcw0 := hw2 k (by omega)
              have hcb : ((sBy (w + 11)).getD k 0).toInt ≤ 127 := chr_b (w + 11) (by omega) k (by omega)
              clear hz0
              refine lv_aload_n hx hb dX12_is_44 rfl (lv_at hl 0 rfl) ?_
              refine va_get (D := (dC, dI)) (ci := 12) (v := .ref (am 4)) (C := RX12) (T := TX12) (N := 53) hx hb hts hiX12 hown hK hP 0 rfl rfl 3 (by decide) hL1 (fun _ h9 => h9) rfl dX12_is_45 ?_
              refine lv_aload_n hx hb dX12_is_48 rfl (lv_at hl 0 rfl) ?_
              refine va_get (D := (dC, dI)) (ci := 12) (v := .int (nI zfr)) (C := RX12) (T := TX12) (N := 53) hx hb hts hiX12 hown hK hP 0 rfl rfl 6 (by decide) hL2 (fun _ h9 => h9) rfl dX12_is_49 ?_
              refine lv_iload_n hx hb dX12_is_52 rfl (lv_at hl 3 rfl) ?_
              refine lv_iadd hx hb dX12_is_53 ?_
              refine bw_re (show (nI zfr) + (nI k) = nI (zfr + k) from nI_add (zfr) (k)) ?_
              refine bw_bald hx hb hK hP 1 3 rfl rfl (j := (zfr + k)) (nI_toInt (by omega)) (by omega) dX12_is_54 ?_
              refine lv_aload_n hx hb dX12_is_55 rfl (lv_at hl 1 rfl) ?_
              refine lv_iload_n hx hb dX12_is_56 rfl (lv_at hl 3 rfl) ?_
              refine vp_callSi (va_Run.run (va_runV (As := [.int (nI k)]) (rest := [.int ((mTape tb) (zfr + k))]) ⟨hx, hb, hml, hown, hts⟩ (c_J0_charAt_5068e l dC dI cy sa sv fv (w + 11) k (by first | assumption | omega) (by first | assumption | omega)) (cwV 1 hts gX12_is_J0_charAt_5068e rfl rfl rfl (by decide +kernel) ⟨Nat.le_of_ble_eq_true rfl, Nat.le_of_ble_eq_true rfl⟩) ⟨fun a U g mk q => by obtain ⟨q0, qP, qK, qE⟩ := q; exact ⟨q0, qP, va_K.moved (u := U) (U := U.calling g mk a) (Vm.Alike.refl U.vm) qK, sW.call qE g mk a⟩, sW.recv hE (by first | assumption | omega | decide), fun U hU hW => ⟨rfl, (fun k q h => by simp at h), va_K.moved hW.alike hK, hE.go hW hU⟩⟩ rfl rfl hl.1 rfl (lv_room (Nat.le_of_ble_eq_true rfl)) dX12_is_57 ⟨Nat.le_of_ble_eq_true rfl, Nat.le_of_ble_eq_true rfl⟩)) (fun r_14 hr_14 => ?_)
              rw [hr_14]
              refine bw_icmp_ne (tgt := 67) (a := ((mTape tb) (zfr + k)).toInt) (b := ((sBy (w + 11)).getD k 0).toInt) hx hb dX12_is_60 (by decide) rfl rfl (fun c_15 => ?_) (fun c_15 => ?_)
              · skip
                refine lv_iconst (v := 0) hx hb dX12_is_67 (by decide) ?_
                refine lv_istore_n (lv' := [(2, .int 0), (0, .ref (am 0)), (1, .ref (sa (w + 11))), (3, .int (nI k))]) hx hb dX12_is_68 rfl hl (by decide) rfl (fun ls hl => ?_)
                refine lv_iinc (v := nI (k + 1)) (lv' := [(3, .int (nI (k + 1))), (2, .int 0), (0, .ref (am 0)), (1, .ref (sa (w + 11)))]) hx hb dX12_is_69 hl (k := 3) rfl (show nI k + Int32.ofInt 1 = nI (k + 1) from nI_add k 1) (by decide) rfl (fun ls hl => ?_)
                refine lv_goto (tgt := 32) hx hb dX12_is_72 (by decide) ?_
                have hI_hz : 0 = pI ((zha.toInt = 1 ∧ zbe = zfr + (sBy (w + 11)).length) ∧ ∀ j, j < (k + 1) → (tb (zfr + j)).toInt = (((wdB w).getD j 0 : Nat) : Int)) := by
                  have hz1 : (zha.toInt = 1 ∧ zbe = zfr + (sBy (w + 11)).length) ∧ ∀ j, j < k → (tb (zfr + j)).toInt = (((wdB w).getD j 0 : Nat) : Int) := pI_ne.mp (by rw [← hz]; exact c_z)
                  have hcw := hw2 k (by omega)
                  first
                    | (refine (pI_t ⟨hz1.1, fun j hj => ?_⟩).symm
                       by_cases q : j = k
                       · rw [q]; omega
                       · exact hz1.2 j (by omega))
                    | exact (pI_f (fun q => absurd (q.2 k (by omega)) (by omega))).symm
                exact ih32 (k + 1) 0 (by omega) (by first | assumption | omega) hI_hz ls (lv_sub hl [2, 3, 1, 0] rfl)
              · skip
                refine lv_iconst (v := 1) hx hb dX12_is_63 (by decide) ?_
                refine lv_goto (tgt := 68) hx hb dX12_is_64 (by decide) ?_
                refine lv_istore_n (lv' := [(2, .int 1), (0, .ref (am 0)), (1, .ref (sa (w + 11))), (3, .int (nI k))]) hx hb dX12_is_68 rfl hl (by decide) rfl (fun ls hl => ?_)
                refine lv_iinc (v := nI (k + 1)) (lv' := [(3, .int (nI (k + 1))), (2, .int 1), (0, .ref (am 0)), (1, .ref (sa (w + 11)))]) hx hb dX12_is_69 hl (k := 3) rfl (show nI k + Int32.ofInt 1 = nI (k + 1) from nI_add k 1) (by decide) rfl (fun ls hl => ?_)
                refine lv_goto (tgt := 32) hx hb dX12_is_72 (by decide) ?_
                have hI_hz : 1 = pI ((zha.toInt = 1 ∧ zbe = zfr + (sBy (w + 11)).length) ∧ ∀ j, j < (k + 1) → (tb (zfr + j)).toInt = (((wdB w).getD j 0 : Nat) : Int)) := by
                  have hz1 : (zha.toInt = 1 ∧ zbe = zfr + (sBy (w + 11)).length) ∧ ∀ j, j < k → (tb (zfr + j)).toInt = (((wdB w).getD j 0 : Nat) : Int) := pI_ne.mp (by rw [← hz]; exact c_z)
                  have hcw := hw2 k (by omega)
                  first
                    | (refine (pI_t ⟨hz1.1, fun j hj => ?_⟩).symm
                       by_cases q : j = k
                       · rw [q]; omega
                       · exact hz1.2 j (by omega))
                    | exact (pI_f (fun q => absurd (q.2 k (by omega)) (by omega))).symm
                exact ih32 (k + 1) 1 (by omega) (by first | assumption | omega) hI_hz ls (lv_sub hl [2, 3, 1, 0] rfl)
      have hI_hz : 1 = pI ((zha.toInt = 1 ∧ zbe = zfr + (sBy (w + 11)).length) ∧ ∀ j, j < 0 → (tb (zfr + j)).toInt = (((wdB w).getD j 0 : Nat) : Int)) := by
        first
          | exact (pI_t ⟨⟨by omega, by omega⟩, fun j hj => absurd hj (Nat.not_lt_zero _)⟩).symm
          | exact (pI_f (fun q => absurd q.1 (by omega))).symm
      exact L_32 (((sBy (w + 11)).length - 0) + 1) 0 1 (by omega) (by first | assumption | omega) hI_hz ls (lv_sub hl [2, 3, 1, 0] rfl)

set_option maxHeartbeats 4000000 in
set_option maxRecDepth 100000 in
theorem c_X12_key (l : Launch) (dC : Nat → ClassId) (dI : Nat → Nat → Nat) (cy : Nat → ClassId) (sa sv : Nat → Nat) (fv : Value) (am : Nat → Nat) (tn : Nat) (zsz : Nat) (zfr : Nat) (zbe : Nat) (zha : Int32) (zva : Int32) (fk : Int32) (fp : Int32) (sn : Nat) (pn : Nat) (qn : Nat) (zss : Int32) (zsy : Int32) (zpy : Int32) (zfs : Int32) (zls : Int32) (an : Nat) (zw : Nat) (tb : Nat → Int32) (hby : byOK tb) (hsz : zsz ≤ 600) (hlk : lk tb zsz zfr zbe zha.toInt zva.toInt) : Met l yX12_key wsX12_key ({ frames := 5, cells := 0, slots := 0, locals := 108 }) (va_Pc [.ref (am 0)] (fun U => va_P (dC, dI) vwCl [(am 0, .inr (12, [.ref (am 1), .ref (am 2), .ref (am 3), .ref (am 4), .int (nI tn), .int (nI zsz), .int (nI zfr), .int (nI zbe), .int zha, .int zva, .int fk, .int fp, .ref (am 13), .int (nI sn), .ref (am 15), .ref (am 16), .ref (am 17), .ref (am 18), .ref (am 19), .int (nI pn), .int (nI qn), .ref (am 22), .ref (am 23), .ref (am 24), .ref (am 25), .ref (am 26), .ref (am 27), .ref (am 28), .ref (am 29), .ref (am 30), .ref (am 31), .ref (am 32), .ref (am 33), .ref (am 34), .int zss, .int zsy, .int zpy, .int zfs, .int zls, .int (nI an), .ref (am 41), .ref (am 42), .ref (am 43), .ref (am 44), .ref (am 45), .ref (am 46), .ref (am 47), .ref (am 48), .ref (am 49), .ref (am 50), .int (nI zw), .ref (am 52), .ref (am 53)])), (am 4, .inl (cy 3, 600, .inl (mTape tb)))] U.heap ∧ va_K (dC, dI) vwCl (tyL cy) U ∧ sW sa sv fv (fun _ => False) U U.heap)) (vp_Si (fun r => r.toInt = kwTo tb zfr zbe 8)) 0 0 (fun _ => False) := by
  refine Met.ofW (cc := cX12_key) (maxL := 1) (ret := (some .int)) (by decide) rfl ?_
  intro pp ee ss mm args below meth cc0 s₁ B hml hv
  obtain ⟨rfl, hP, hK, hE⟩ := hv
  have hx := B.exec
  have hb := B.bytes
  have hr := B.returns
  have hts := atoms_spec (ws := wsX12_key) B.pre
  have hown : ss.vm.findClass RX12 = some mm.cls := findClass_of_methodNamed B.named
  have hlocks := B.notSynchronized
  have hl := lv_entry ([.ref (am 0)]) (n := 1) (Nat.le_of_ble_eq_true rfl)
  rw [lg_entry_eq]
  generalize (lg_sl ([.ref (am 0)]) ++ List.replicate (1 - (lg_sl ([.ref (am 0)])).length) Slot.unset).toArray = ls at hl ⊢
  have hl : lv_has ls 1 [(0, .ref (am 0))] := hl
  refine bw_Q (fun Q hQ => ?_)
  change W pp l ee { frames := 5, cells := 0, slots := 0, locals := 108 } ss mm _ below meth cc0 ss.heap [] 0 0 Q (F0 mm 0 ls [])
  refine lv_aload_n hx hb dX12_key_0 rfl (lv_at hl 0 rfl) ?_
  refine va_ldcS hx hb hown (show vk_R RX12 70 "dead" (sa 11) ss from (hE.1 11 (by decide)).1) dX12_key_1 ?_
  have hPc : va_P (dC, dI) vwCl [(am 0, .inr (12, [.ref (am 1), .ref (am 2), .ref (am 3), .ref (am 4), .int (nI tn), .int (nI zsz), .int (nI zfr), .int (nI zbe), .int zha, .int zva, .int fk, .int fp, .ref (am 13), .int (nI sn), .ref (am 15), .ref (am 16), .ref (am 17), .ref (am 18), .ref (am 19), .int (nI pn), .int (nI qn), .ref (am 22), .ref (am 23), .ref (am 24), .ref (am 25), .ref (am 26), .ref (am 27), .ref (am 28), .ref (am 29), .ref (am 30), .ref (am 31), .ref (am 32), .ref (am 33), .ref (am 34), .int zss, .int zsy, .int zpy, .int zfs, .int zls, .int (nI an), .ref (am 41), .ref (am 42), .ref (am 43), .ref (am 44), .ref (am 45), .ref (am 46), .ref (am 47), .ref (am 48), .ref (am 49), .ref (am 50), .int (nI zw), .ref (am 52), .ref (am 53)])), (am 4, .inl (cy 3, 600, .inl (mTape tb)))] ss.heap := hP.sub [0, 1] rfl
  refine vp_callSi (va_Run.run (va_runV (As := [.ref (sa 11)]) (rest := []) ⟨hx, hb, hml, hown, hts⟩ (c_X12_is l dC dI cy sa sv fv am tn zsz zfr zbe zha zva fk fp sn pn qn zss zsy zpy zfs zls an zw tb 0 (by first | assumption | omega) (by first | assumption | omega) (by first | assumption | omega) (by first | assumption | omega)) (cwV 1 hts gX12_key_X12_is rfl rfl rfl (by decide +kernel) ⟨Nat.le_of_ble_eq_true rfl, Nat.le_of_ble_eq_true rfl⟩) ⟨fun a U g mk q => by obtain ⟨q0, qP, qK, qE⟩ := q; exact ⟨q0, qP, va_K.moved (u := U) (U := U.calling g mk a) (Vm.Alike.refl U.vm) qK, sW.call qE g mk a⟩, va_recv hK hPc (ci := 12) (q0 := 0) rfl rfl, fun U hU hW => ⟨rfl, by rw [hU]; exact hPc, va_K.moved hW.alike hK, hE.go hW hU⟩⟩ rfl rfl hl.1 rfl (lv_room (Nat.le_of_ble_eq_true rfl)) dX12_key_3 ⟨Nat.le_of_ble_eq_true rfl, Nat.le_of_ble_eq_true rfl⟩)) (fun r_1 hr_1 => ?_)
  refine bw_ifeqP (tgt := 11) hx hb dX12_key_6 (by decide) hr_1 (fun c_0 => ?_) (fun c_0 => ?_)
  · skip
    refine lv_aload_n hx hb dX12_key_11 rfl (lv_at hl 0 rfl) ?_
    refine va_ldcS hx hb hown (show vk_R RX12 76 "lived" (sa 12) ss from (hE.1 12 (by decide)).1) dX12_key_12 ?_
    have hPc : va_P (dC, dI) vwCl [(am 0, .inr (12, [.ref (am 1), .ref (am 2), .ref (am 3), .ref (am 4), .int (nI tn), .int (nI zsz), .int (nI zfr), .int (nI zbe), .int zha, .int zva, .int fk, .int fp, .ref (am 13), .int (nI sn), .ref (am 15), .ref (am 16), .ref (am 17), .ref (am 18), .ref (am 19), .int (nI pn), .int (nI qn), .ref (am 22), .ref (am 23), .ref (am 24), .ref (am 25), .ref (am 26), .ref (am 27), .ref (am 28), .ref (am 29), .ref (am 30), .ref (am 31), .ref (am 32), .ref (am 33), .ref (am 34), .int zss, .int zsy, .int zpy, .int zfs, .int zls, .int (nI an), .ref (am 41), .ref (am 42), .ref (am 43), .ref (am 44), .ref (am 45), .ref (am 46), .ref (am 47), .ref (am 48), .ref (am 49), .ref (am 50), .int (nI zw), .ref (am 52), .ref (am 53)])), (am 4, .inl (cy 3, 600, .inl (mTape tb)))] ss.heap := hP.sub [0, 1] rfl
    refine vp_callSi (va_Run.run (va_runV (As := [.ref (sa 12)]) (rest := []) ⟨hx, hb, hml, hown, hts⟩ (c_X12_is l dC dI cy sa sv fv am tn zsz zfr zbe zha zva fk fp sn pn qn zss zsy zpy zfs zls an zw tb 1 (by first | assumption | omega) (by first | assumption | omega) (by first | assumption | omega) (by first | assumption | omega)) (cwV 1 hts gX12_key_X12_is rfl rfl rfl (by decide +kernel) ⟨Nat.le_of_ble_eq_true rfl, Nat.le_of_ble_eq_true rfl⟩) ⟨fun a U g mk q => by obtain ⟨q0, qP, qK, qE⟩ := q; exact ⟨q0, qP, va_K.moved (u := U) (U := U.calling g mk a) (Vm.Alike.refl U.vm) qK, sW.call qE g mk a⟩, va_recv hK hPc (ci := 12) (q0 := 0) rfl rfl, fun U hU hW => ⟨rfl, by rw [hU]; exact hPc, va_K.moved hW.alike hK, hE.go hW hU⟩⟩ rfl rfl hl.1 rfl (lv_room (Nat.le_of_ble_eq_true rfl)) dX12_key_14 ⟨Nat.le_of_ble_eq_true rfl, Nat.le_of_ble_eq_true rfl⟩)) (fun r_2 hr_2 => ?_)
    refine bw_ifeqP (tgt := 22) hx hb dX12_key_17 (by decide) hr_2 (fun c_1 => ?_) (fun c_1 => ?_)
    · skip
      refine lv_aload_n hx hb dX12_key_22 rfl (lv_at hl 0 rfl) ?_
      refine va_ldcS hx hb hown (show vk_R RX12 78 "sources" (sa 13) ss from (hE.1 13 (by decide)).1) dX12_key_23 ?_
      have hPc : va_P (dC, dI) vwCl [(am 0, .inr (12, [.ref (am 1), .ref (am 2), .ref (am 3), .ref (am 4), .int (nI tn), .int (nI zsz), .int (nI zfr), .int (nI zbe), .int zha, .int zva, .int fk, .int fp, .ref (am 13), .int (nI sn), .ref (am 15), .ref (am 16), .ref (am 17), .ref (am 18), .ref (am 19), .int (nI pn), .int (nI qn), .ref (am 22), .ref (am 23), .ref (am 24), .ref (am 25), .ref (am 26), .ref (am 27), .ref (am 28), .ref (am 29), .ref (am 30), .ref (am 31), .ref (am 32), .ref (am 33), .ref (am 34), .int zss, .int zsy, .int zpy, .int zfs, .int zls, .int (nI an), .ref (am 41), .ref (am 42), .ref (am 43), .ref (am 44), .ref (am 45), .ref (am 46), .ref (am 47), .ref (am 48), .ref (am 49), .ref (am 50), .int (nI zw), .ref (am 52), .ref (am 53)])), (am 4, .inl (cy 3, 600, .inl (mTape tb)))] ss.heap := hP.sub [0, 1] rfl
      refine vp_callSi (va_Run.run (va_runV (As := [.ref (sa 13)]) (rest := []) ⟨hx, hb, hml, hown, hts⟩ (c_X12_is l dC dI cy sa sv fv am tn zsz zfr zbe zha zva fk fp sn pn qn zss zsy zpy zfs zls an zw tb 2 (by first | assumption | omega) (by first | assumption | omega) (by first | assumption | omega) (by first | assumption | omega)) (cwV 1 hts gX12_key_X12_is rfl rfl rfl (by decide +kernel) ⟨Nat.le_of_ble_eq_true rfl, Nat.le_of_ble_eq_true rfl⟩) ⟨fun a U g mk q => by obtain ⟨q0, qP, qK, qE⟩ := q; exact ⟨q0, qP, va_K.moved (u := U) (U := U.calling g mk a) (Vm.Alike.refl U.vm) qK, sW.call qE g mk a⟩, va_recv hK hPc (ci := 12) (q0 := 0) rfl rfl, fun U hU hW => ⟨rfl, by rw [hU]; exact hPc, va_K.moved hW.alike hK, hE.go hW hU⟩⟩ rfl rfl hl.1 rfl (lv_room (Nat.le_of_ble_eq_true rfl)) dX12_key_25 ⟨Nat.le_of_ble_eq_true rfl, Nat.le_of_ble_eq_true rfl⟩)) (fun r_3 hr_3 => ?_)
      refine bw_ifeqP (tgt := 33) hx hb dX12_key_28 (by decide) hr_3 (fun c_2 => ?_) (fun c_2 => ?_)
      · skip
        refine lv_aload_n hx hb dX12_key_33 rfl (lv_at hl 0 rfl) ?_
        refine va_ldcS hx hb hown (show vk_R RX12 80 "span" (sa 14) ss from (hE.1 14 (by decide)).1) dX12_key_34 ?_
        have hPc : va_P (dC, dI) vwCl [(am 0, .inr (12, [.ref (am 1), .ref (am 2), .ref (am 3), .ref (am 4), .int (nI tn), .int (nI zsz), .int (nI zfr), .int (nI zbe), .int zha, .int zva, .int fk, .int fp, .ref (am 13), .int (nI sn), .ref (am 15), .ref (am 16), .ref (am 17), .ref (am 18), .ref (am 19), .int (nI pn), .int (nI qn), .ref (am 22), .ref (am 23), .ref (am 24), .ref (am 25), .ref (am 26), .ref (am 27), .ref (am 28), .ref (am 29), .ref (am 30), .ref (am 31), .ref (am 32), .ref (am 33), .ref (am 34), .int zss, .int zsy, .int zpy, .int zfs, .int zls, .int (nI an), .ref (am 41), .ref (am 42), .ref (am 43), .ref (am 44), .ref (am 45), .ref (am 46), .ref (am 47), .ref (am 48), .ref (am 49), .ref (am 50), .int (nI zw), .ref (am 52), .ref (am 53)])), (am 4, .inl (cy 3, 600, .inl (mTape tb)))] ss.heap := hP.sub [0, 1] rfl
        refine vp_callSi (va_Run.run (va_runV (As := [.ref (sa 14)]) (rest := []) ⟨hx, hb, hml, hown, hts⟩ (c_X12_is l dC dI cy sa sv fv am tn zsz zfr zbe zha zva fk fp sn pn qn zss zsy zpy zfs zls an zw tb 3 (by first | assumption | omega) (by first | assumption | omega) (by first | assumption | omega) (by first | assumption | omega)) (cwV 1 hts gX12_key_X12_is rfl rfl rfl (by decide +kernel) ⟨Nat.le_of_ble_eq_true rfl, Nat.le_of_ble_eq_true rfl⟩) ⟨fun a U g mk q => by obtain ⟨q0, qP, qK, qE⟩ := q; exact ⟨q0, qP, va_K.moved (u := U) (U := U.calling g mk a) (Vm.Alike.refl U.vm) qK, sW.call qE g mk a⟩, va_recv hK hPc (ci := 12) (q0 := 0) rfl rfl, fun U hU hW => ⟨rfl, by rw [hU]; exact hPc, va_K.moved hW.alike hK, hE.go hW hU⟩⟩ rfl rfl hl.1 rfl (lv_room (Nat.le_of_ble_eq_true rfl)) dX12_key_36 ⟨Nat.le_of_ble_eq_true rfl, Nat.le_of_ble_eq_true rfl⟩)) (fun r_4 hr_4 => ?_)
        refine bw_ifeqP (tgt := 44) hx hb dX12_key_39 (by decide) hr_4 (fun c_3 => ?_) (fun c_3 => ?_)
        · skip
          refine lv_aload_n hx hb dX12_key_44 rfl (lv_at hl 0 rfl) ?_
          refine va_ldcS hx hb hown (show vk_R RX12 82 "one" (sa 15) ss from (hE.1 15 (by decide)).1) dX12_key_45 ?_
          have hPc : va_P (dC, dI) vwCl [(am 0, .inr (12, [.ref (am 1), .ref (am 2), .ref (am 3), .ref (am 4), .int (nI tn), .int (nI zsz), .int (nI zfr), .int (nI zbe), .int zha, .int zva, .int fk, .int fp, .ref (am 13), .int (nI sn), .ref (am 15), .ref (am 16), .ref (am 17), .ref (am 18), .ref (am 19), .int (nI pn), .int (nI qn), .ref (am 22), .ref (am 23), .ref (am 24), .ref (am 25), .ref (am 26), .ref (am 27), .ref (am 28), .ref (am 29), .ref (am 30), .ref (am 31), .ref (am 32), .ref (am 33), .ref (am 34), .int zss, .int zsy, .int zpy, .int zfs, .int zls, .int (nI an), .ref (am 41), .ref (am 42), .ref (am 43), .ref (am 44), .ref (am 45), .ref (am 46), .ref (am 47), .ref (am 48), .ref (am 49), .ref (am 50), .int (nI zw), .ref (am 52), .ref (am 53)])), (am 4, .inl (cy 3, 600, .inl (mTape tb)))] ss.heap := hP.sub [0, 1] rfl
          refine vp_callSi (va_Run.run (va_runV (As := [.ref (sa 15)]) (rest := []) ⟨hx, hb, hml, hown, hts⟩ (c_X12_is l dC dI cy sa sv fv am tn zsz zfr zbe zha zva fk fp sn pn qn zss zsy zpy zfs zls an zw tb 4 (by first | assumption | omega) (by first | assumption | omega) (by first | assumption | omega) (by first | assumption | omega)) (cwV 1 hts gX12_key_X12_is rfl rfl rfl (by decide +kernel) ⟨Nat.le_of_ble_eq_true rfl, Nat.le_of_ble_eq_true rfl⟩) ⟨fun a U g mk q => by obtain ⟨q0, qP, qK, qE⟩ := q; exact ⟨q0, qP, va_K.moved (u := U) (U := U.calling g mk a) (Vm.Alike.refl U.vm) qK, sW.call qE g mk a⟩, va_recv hK hPc (ci := 12) (q0 := 0) rfl rfl, fun U hU hW => ⟨rfl, by rw [hU]; exact hPc, va_K.moved hW.alike hK, hE.go hW hU⟩⟩ rfl rfl hl.1 rfl (lv_room (Nat.le_of_ble_eq_true rfl)) dX12_key_47 ⟨Nat.le_of_ble_eq_true rfl, Nat.le_of_ble_eq_true rfl⟩)) (fun r_5 hr_5 => ?_)
          refine bw_ifeqP (tgt := 55) hx hb dX12_key_50 (by decide) hr_5 (fun c_4 => ?_) (fun c_4 => ?_)
          · skip
            refine lv_aload_n hx hb dX12_key_55 rfl (lv_at hl 0 rfl) ?_
            refine va_ldcS hx hb hown (show vk_R RX12 84 "votes" (sa 16) ss from (hE.1 16 (by decide)).1) dX12_key_56 ?_
            have hPc : va_P (dC, dI) vwCl [(am 0, .inr (12, [.ref (am 1), .ref (am 2), .ref (am 3), .ref (am 4), .int (nI tn), .int (nI zsz), .int (nI zfr), .int (nI zbe), .int zha, .int zva, .int fk, .int fp, .ref (am 13), .int (nI sn), .ref (am 15), .ref (am 16), .ref (am 17), .ref (am 18), .ref (am 19), .int (nI pn), .int (nI qn), .ref (am 22), .ref (am 23), .ref (am 24), .ref (am 25), .ref (am 26), .ref (am 27), .ref (am 28), .ref (am 29), .ref (am 30), .ref (am 31), .ref (am 32), .ref (am 33), .ref (am 34), .int zss, .int zsy, .int zpy, .int zfs, .int zls, .int (nI an), .ref (am 41), .ref (am 42), .ref (am 43), .ref (am 44), .ref (am 45), .ref (am 46), .ref (am 47), .ref (am 48), .ref (am 49), .ref (am 50), .int (nI zw), .ref (am 52), .ref (am 53)])), (am 4, .inl (cy 3, 600, .inl (mTape tb)))] ss.heap := hP.sub [0, 1] rfl
            refine vp_callSi (va_Run.run (va_runV (As := [.ref (sa 16)]) (rest := []) ⟨hx, hb, hml, hown, hts⟩ (c_X12_is l dC dI cy sa sv fv am tn zsz zfr zbe zha zva fk fp sn pn qn zss zsy zpy zfs zls an zw tb 5 (by first | assumption | omega) (by first | assumption | omega) (by first | assumption | omega) (by first | assumption | omega)) (cwV 1 hts gX12_key_X12_is rfl rfl rfl (by decide +kernel) ⟨Nat.le_of_ble_eq_true rfl, Nat.le_of_ble_eq_true rfl⟩) ⟨fun a U g mk q => by obtain ⟨q0, qP, qK, qE⟩ := q; exact ⟨q0, qP, va_K.moved (u := U) (U := U.calling g mk a) (Vm.Alike.refl U.vm) qK, sW.call qE g mk a⟩, va_recv hK hPc (ci := 12) (q0 := 0) rfl rfl, fun U hU hW => ⟨rfl, by rw [hU]; exact hPc, va_K.moved hW.alike hK, hE.go hW hU⟩⟩ rfl rfl hl.1 rfl (lv_room (Nat.le_of_ble_eq_true rfl)) dX12_key_58 ⟨Nat.le_of_ble_eq_true rfl, Nat.le_of_ble_eq_true rfl⟩)) (fun r_6 hr_6 => ?_)
            refine bw_ifeqP (tgt := 66) hx hb dX12_key_61 (by decide) hr_6 (fun c_5 => ?_) (fun c_5 => ?_)
            · skip
              refine lv_aload_n hx hb dX12_key_66 rfl (lv_at hl 0 rfl) ?_
              refine va_ldcS hx hb hown (show vk_R RX12 86 "down" (sa 17) ss from (hE.1 17 (by decide)).1) dX12_key_67 ?_
              have hPc : va_P (dC, dI) vwCl [(am 0, .inr (12, [.ref (am 1), .ref (am 2), .ref (am 3), .ref (am 4), .int (nI tn), .int (nI zsz), .int (nI zfr), .int (nI zbe), .int zha, .int zva, .int fk, .int fp, .ref (am 13), .int (nI sn), .ref (am 15), .ref (am 16), .ref (am 17), .ref (am 18), .ref (am 19), .int (nI pn), .int (nI qn), .ref (am 22), .ref (am 23), .ref (am 24), .ref (am 25), .ref (am 26), .ref (am 27), .ref (am 28), .ref (am 29), .ref (am 30), .ref (am 31), .ref (am 32), .ref (am 33), .ref (am 34), .int zss, .int zsy, .int zpy, .int zfs, .int zls, .int (nI an), .ref (am 41), .ref (am 42), .ref (am 43), .ref (am 44), .ref (am 45), .ref (am 46), .ref (am 47), .ref (am 48), .ref (am 49), .ref (am 50), .int (nI zw), .ref (am 52), .ref (am 53)])), (am 4, .inl (cy 3, 600, .inl (mTape tb)))] ss.heap := hP.sub [0, 1] rfl
              refine vp_callSi (va_Run.run (va_runV (As := [.ref (sa 17)]) (rest := []) ⟨hx, hb, hml, hown, hts⟩ (c_X12_is l dC dI cy sa sv fv am tn zsz zfr zbe zha zva fk fp sn pn qn zss zsy zpy zfs zls an zw tb 6 (by first | assumption | omega) (by first | assumption | omega) (by first | assumption | omega) (by first | assumption | omega)) (cwV 1 hts gX12_key_X12_is rfl rfl rfl (by decide +kernel) ⟨Nat.le_of_ble_eq_true rfl, Nat.le_of_ble_eq_true rfl⟩) ⟨fun a U g mk q => by obtain ⟨q0, qP, qK, qE⟩ := q; exact ⟨q0, qP, va_K.moved (u := U) (U := U.calling g mk a) (Vm.Alike.refl U.vm) qK, sW.call qE g mk a⟩, va_recv hK hPc (ci := 12) (q0 := 0) rfl rfl, fun U hU hW => ⟨rfl, by rw [hU]; exact hPc, va_K.moved hW.alike hK, hE.go hW hU⟩⟩ rfl rfl hl.1 rfl (lv_room (Nat.le_of_ble_eq_true rfl)) dX12_key_69 ⟨Nat.le_of_ble_eq_true rfl, Nat.le_of_ble_eq_true rfl⟩)) (fun r_7 hr_7 => ?_)
              refine bw_ifeqP (tgt := 78) hx hb dX12_key_72 (by decide) hr_7 (fun c_6 => ?_) (fun c_6 => ?_)
              · skip
                refine lv_aload_n hx hb dX12_key_78 rfl (lv_at hl 0 rfl) ?_
                refine va_ldcS hx hb hown (show vk_R RX12 88 "theme" (sa 18) ss from (hE.1 18 (by decide)).1) dX12_key_79 ?_
                have hPc : va_P (dC, dI) vwCl [(am 0, .inr (12, [.ref (am 1), .ref (am 2), .ref (am 3), .ref (am 4), .int (nI tn), .int (nI zsz), .int (nI zfr), .int (nI zbe), .int zha, .int zva, .int fk, .int fp, .ref (am 13), .int (nI sn), .ref (am 15), .ref (am 16), .ref (am 17), .ref (am 18), .ref (am 19), .int (nI pn), .int (nI qn), .ref (am 22), .ref (am 23), .ref (am 24), .ref (am 25), .ref (am 26), .ref (am 27), .ref (am 28), .ref (am 29), .ref (am 30), .ref (am 31), .ref (am 32), .ref (am 33), .ref (am 34), .int zss, .int zsy, .int zpy, .int zfs, .int zls, .int (nI an), .ref (am 41), .ref (am 42), .ref (am 43), .ref (am 44), .ref (am 45), .ref (am 46), .ref (am 47), .ref (am 48), .ref (am 49), .ref (am 50), .int (nI zw), .ref (am 52), .ref (am 53)])), (am 4, .inl (cy 3, 600, .inl (mTape tb)))] ss.heap := hP.sub [0, 1] rfl
                refine vp_callSi (va_Run.run (va_runV (As := [.ref (sa 18)]) (rest := []) ⟨hx, hb, hml, hown, hts⟩ (c_X12_is l dC dI cy sa sv fv am tn zsz zfr zbe zha zva fk fp sn pn qn zss zsy zpy zfs zls an zw tb 7 (by first | assumption | omega) (by first | assumption | omega) (by first | assumption | omega) (by first | assumption | omega)) (cwV 1 hts gX12_key_X12_is rfl rfl rfl (by decide +kernel) ⟨Nat.le_of_ble_eq_true rfl, Nat.le_of_ble_eq_true rfl⟩) ⟨fun a U g mk q => by obtain ⟨q0, qP, qK, qE⟩ := q; exact ⟨q0, qP, va_K.moved (u := U) (U := U.calling g mk a) (Vm.Alike.refl U.vm) qK, sW.call qE g mk a⟩, va_recv hK hPc (ci := 12) (q0 := 0) rfl rfl, fun U hU hW => ⟨rfl, by rw [hU]; exact hPc, va_K.moved hW.alike hK, hE.go hW hU⟩⟩ rfl rfl hl.1 rfl (lv_room (Nat.le_of_ble_eq_true rfl)) dX12_key_81 ⟨Nat.le_of_ble_eq_true rfl, Nat.le_of_ble_eq_true rfl⟩)) (fun r_8 hr_8 => ?_)
                refine bw_ifeqP (tgt := 92) hx hb dX12_key_84 (by decide) hr_8 (fun c_7 => ?_) (fun c_7 => ?_)
                · skip
                  refine lv_iconst (v := (-1)) hx hb dX12_key_92 (by decide) ?_
                  refine bw_Qe hQ ?_
                  have hpost : ((-1) : Int32).toInt = kwTo tb zfr zbe 8 := by
                    first
                      | (refine (kw_is (k := 7) (by omega) (fun m hm => ?_) c_7).symm
                         rcases (show m = 0 ∨ m = 1 ∨ m = 2 ∨ m = 3 ∨ m = 4 ∨ m = 5 ∨ m = 6 by omega) with e | e | e | e | e | e | e <;> subst e <;> assumption)
                      | (refine (kw_none 8 (fun m hm => ?_)).symm
                         rcases (show m = 0 ∨ m = 1 ∨ m = 2 ∨ m = 3 ∨ m = 4 ∨ m = 5 ∨ m = 6 ∨ m = 7 by omega) with e | e | e | e | e | e | e | e <;> subst e <;> assumption)
                  exact W.iret (v := (-1)) hx hb hr (fun t9 ht hW => ⟨_, rfl, hpost, by rw [ht]⟩) (fun q h => by cases h) dX12_key_93
                · skip
                  refine lv_bipush (v := 7) hx hb dX12_key_87 (by decide) ?_
                  refine lv_goto (tgt := 93) hx hb dX12_key_89 (by decide) ?_
                  refine bw_Qe hQ ?_
                  have hpost : (7 : Int32).toInt = kwTo tb zfr zbe 8 := by
                    first
                      | (refine (kw_is (k := 7) (by omega) (fun m hm => ?_) c_7).symm
                         rcases (show m = 0 ∨ m = 1 ∨ m = 2 ∨ m = 3 ∨ m = 4 ∨ m = 5 ∨ m = 6 by omega) with e | e | e | e | e | e | e <;> subst e <;> assumption)
                      | (refine (kw_none 8 (fun m hm => ?_)).symm
                         rcases (show m = 0 ∨ m = 1 ∨ m = 2 ∨ m = 3 ∨ m = 4 ∨ m = 5 ∨ m = 6 ∨ m = 7 by omega) with e | e | e | e | e | e | e | e <;> subst e <;> assumption)
                  exact W.iret (v := 7) hx hb hr (fun t9 ht hW => ⟨_, rfl, hpost, by rw [ht]⟩) (fun q h => by cases h) dX12_key_93
              · skip
                refine lv_bipush (v := 6) hx hb dX12_key_75 (by decide) ?_
                refine bw_Qe hQ ?_
                have hpost : (6 : Int32).toInt = kwTo tb zfr zbe 8 := by
                  refine (kw_is (k := 6) (by omega) (fun m hm => ?_) c_6).symm
                  rcases (show m = 0 ∨ m = 1 ∨ m = 2 ∨ m = 3 ∨ m = 4 ∨ m = 5 by omega) with e | e | e | e | e | e <;> subst e <;> assumption
                exact W.iret (v := 6) hx hb hr (fun t9 ht hW => ⟨_, rfl, hpost, by rw [ht]⟩) (fun q h => by cases h) dX12_key_77
            · skip
              refine lv_iconst (v := 5) hx hb dX12_key_64 (by decide) ?_
              refine bw_Qe hQ ?_
              have hpost : (5 : Int32).toInt = kwTo tb zfr zbe 8 := by
                refine (kw_is (k := 5) (by omega) (fun m hm => ?_) c_5).symm
                rcases (show m = 0 ∨ m = 1 ∨ m = 2 ∨ m = 3 ∨ m = 4 by omega) with e | e | e | e | e <;> subst e <;> assumption
              exact W.iret (v := 5) hx hb hr (fun t9 ht hW => ⟨_, rfl, hpost, by rw [ht]⟩) (fun q h => by cases h) dX12_key_65
          · skip
            refine lv_iconst (v := 4) hx hb dX12_key_53 (by decide) ?_
            refine bw_Qe hQ ?_
            have hpost : (4 : Int32).toInt = kwTo tb zfr zbe 8 := by
              refine (kw_is (k := 4) (by omega) (fun m hm => ?_) c_4).symm
              rcases (show m = 0 ∨ m = 1 ∨ m = 2 ∨ m = 3 by omega) with e | e | e | e <;> subst e <;> assumption
            exact W.iret (v := 4) hx hb hr (fun t9 ht hW => ⟨_, rfl, hpost, by rw [ht]⟩) (fun q h => by cases h) dX12_key_54
        · skip
          refine lv_iconst (v := 3) hx hb dX12_key_42 (by decide) ?_
          refine bw_Qe hQ ?_
          have hpost : (3 : Int32).toInt = kwTo tb zfr zbe 8 := by
            refine (kw_is (k := 3) (by omega) (fun m hm => ?_) c_3).symm
            rcases (show m = 0 ∨ m = 1 ∨ m = 2 by omega) with e | e | e <;> subst e <;> assumption
          exact W.iret (v := 3) hx hb hr (fun t9 ht hW => ⟨_, rfl, hpost, by rw [ht]⟩) (fun q h => by cases h) dX12_key_43
      · skip
        refine lv_iconst (v := 2) hx hb dX12_key_31 (by decide) ?_
        refine bw_Qe hQ ?_
        have hpost : (2 : Int32).toInt = kwTo tb zfr zbe 8 := by
          refine (kw_is (k := 2) (by omega) (fun m hm => ?_) c_2).symm
          rcases (show m = 0 ∨ m = 1 by omega) with e | e <;> subst e <;> assumption
        exact W.iret (v := 2) hx hb hr (fun t9 ht hW => ⟨_, rfl, hpost, by rw [ht]⟩) (fun q h => by cases h) dX12_key_32
    · skip
      refine lv_iconst (v := 1) hx hb dX12_key_20 (by decide) ?_
      refine bw_Qe hQ ?_
      have hpost : (1 : Int32).toInt = kwTo tb zfr zbe 8 := by
        refine (kw_is (k := 1) (by omega) (fun m hm => ?_) c_1).symm
        rcases (show m = 0 by omega) with e <;> subst e <;> assumption
      exact W.iret (v := 1) hx hb hr (fun t9 ht hW => ⟨_, rfl, hpost, by rw [ht]⟩) (fun q h => by cases h) dX12_key_21
  · skip
    refine lv_iconst (v := 0) hx hb dX12_key_9 (by decide) ?_
    refine bw_Qe hQ ?_
    have hpost : (0 : Int32).toInt = kwTo tb zfr zbe 8 := by
      exact (kw_is (by omega) (fun m hm => absurd hm (Nat.not_lt_zero _)) c_0).symm
    exact W.iret (v := 0) hx hb hr (fun t9 ht hW => ⟨_, rfl, hpost, by rw [ht]⟩) (fun q h => by cases h) dX12_key_10

set_option maxHeartbeats 4000000 in
set_option maxRecDepth 100000 in
theorem c_X12_begin (l : Launch) (dC : Nat → ClassId) (dI : Nat → Nat → Nat) (cy : Nat → ClassId) (am : Nat → Nat) (tn : Nat) (zsz : Nat) (zfr : Nat) (zbe : Nat) (zha : Int32) (zva : Int32) (fk : Int32) (fp : Int32) (sn : Nat) (pn : Nat) (qn : Nat) (zss : Int32) (zsy : Int32) (zpy : Int32) (zfs : Int32) (zls : Int32) (an : Nat) (zw : Nat) (sz : Nat)  : Met l yX12_begin wsX12_begin ({ frames := 0, cells := 0, slots := 0, locals := 0 }) (va_Pc [.ref (am 0)] (fun U => U.heap.size = sz ∧ va_P (dC, dI) vwCl [(am 0, .inr (12, [.ref (am 1), .ref (am 2), .ref (am 3), .ref (am 4), .int (nI tn), .int (nI zsz), .int (nI zfr), .int (nI zbe), .int zha, .int zva, .int fk, .int fp, .ref (am 13), .int (nI sn), .ref (am 15), .ref (am 16), .ref (am 17), .ref (am 18), .ref (am 19), .int (nI pn), .int (nI qn), .ref (am 22), .ref (am 23), .ref (am 24), .ref (am 25), .ref (am 26), .ref (am 27), .ref (am 28), .ref (am 29), .ref (am 30), .ref (am 31), .ref (am 32), .ref (am 33), .ref (am 34), .int zss, .int zsy, .int zpy, .int zfs, .int zls, .int (nI an), .ref (am 41), .ref (am 42), .ref (am 43), .ref (am 44), .ref (am 45), .ref (am 46), .ref (am 47), .ref (am 48), .ref (am 49), .ref (am 50), .int (nI zw), .ref (am 52), .ref (am 53)]))] U.heap ∧ va_K (dC, dI) vwCl (tyL cy) U ∧ va_D (fun _ => True) [(am 0, .inr (12, [.ref (am 1), .ref (am 2), .ref (am 3), .ref (am 4), .int (nI tn), .int (nI zsz), .int (nI zfr), .int (nI zbe), .int zha, .int zva, .int fk, .int fp, .ref (am 13), .int (nI sn), .ref (am 15), .ref (am 16), .ref (am 17), .ref (am 18), .ref (am 19), .int (nI pn), .int (nI qn), .ref (am 22), .ref (am 23), .ref (am 24), .ref (am 25), .ref (am 26), .ref (am 27), .ref (am 28), .ref (am 29), .ref (am 30), .ref (am 31), .ref (am 32), .ref (am 33), .ref (am 34), .int zss, .int zsy, .int zpy, .int zfs, .int zls, .int (nI an), .ref (am 41), .ref (am 42), .ref (am 43), .ref (am 44), .ref (am 45), .ref (am 46), .ref (am 47), .ref (am 48), .ref (am 49), .ref (am 50), .int (nI zw), .ref (am 52), .ref (am 53)]))])) (va_Qv (S := Unit) (fun _ => True) (fun _ => fun t => va_P (dC, dI) vwCl [(am 0, .inr (12, [.ref (am 1), .ref (am 2), .ref (am 3), .ref (am 4), .int (nI 0), .int (nI tn), .int (nI zfr), .int (nI 0), .int zha, .int zva, .int fk, .int fp, .ref (am 13), .int (nI sn), .ref (am 15), .ref (am 16), .ref (am 17), .ref (am 18), .ref (am 19), .int (nI pn), .int (nI qn), .ref (am 22), .ref (am 23), .ref (am 24), .ref (am 25), .ref (am 26), .ref (am 27), .ref (am 28), .ref (am 29), .ref (am 30), .ref (am 31), .ref (am 32), .ref (am 33), .ref (am 34), .int zss, .int zsy, .int zpy, .int zfs, .int zls, .int (nI an), .ref (am 41), .ref (am 42), .ref (am 43), .ref (am 44), .ref (am 45), .ref (am 46), .ref (am 47), .ref (am 48), .ref (am 49), .ref (am 50), .int (nI zw), .ref (am 52), .ref (am 53)]))] t.heap ∧ va_K (dC, dI) vwCl (tyL cy) t ∧ va_D (va_A [(am 0, .inr (12, [.ref (am 1), .ref (am 2), .ref (am 3), .ref (am 4), .int (nI tn), .int (nI zsz), .int (nI zfr), .int (nI zbe), .int zha, .int zva, .int fk, .int fp, .ref (am 13), .int (nI sn), .ref (am 15), .ref (am 16), .ref (am 17), .ref (am 18), .ref (am 19), .int (nI pn), .int (nI qn), .ref (am 22), .ref (am 23), .ref (am 24), .ref (am 25), .ref (am 26), .ref (am 27), .ref (am 28), .ref (am 29), .ref (am 30), .ref (am 31), .ref (am 32), .ref (am 33), .ref (am 34), .int zss, .int zsy, .int zpy, .int zfs, .int zls, .int (nI an), .ref (am 41), .ref (am 42), .ref (am 43), .ref (am 44), .ref (am 45), .ref (am 46), .ref (am 47), .ref (am 48), .ref (am 49), .ref (am 50), .int (nI zw), .ref (am 52), .ref (am 53)]))] sz) [(am 0, .inr (12, [.ref (am 1), .ref (am 2), .ref (am 3), .ref (am 4), .int (nI 0), .int (nI tn), .int (nI zfr), .int (nI 0), .int zha, .int zva, .int fk, .int fp, .ref (am 13), .int (nI sn), .ref (am 15), .ref (am 16), .ref (am 17), .ref (am 18), .ref (am 19), .int (nI pn), .int (nI qn), .ref (am 22), .ref (am 23), .ref (am 24), .ref (am 25), .ref (am 26), .ref (am 27), .ref (am 28), .ref (am 29), .ref (am 30), .ref (am 31), .ref (am 32), .ref (am 33), .ref (am 34), .int zss, .int zsy, .int zpy, .int zfs, .int zls, .int (nI an), .ref (am 41), .ref (am 42), .ref (am 43), .ref (am 44), .ref (am 45), .ref (am 46), .ref (am 47), .ref (am 48), .ref (am 49), .ref (am 50), .int (nI zw), .ref (am 52), .ref (am 53)]))]) (va_A [(am 0, .inr (12, [.ref (am 1), .ref (am 2), .ref (am 3), .ref (am 4), .int (nI tn), .int (nI zsz), .int (nI zfr), .int (nI zbe), .int zha, .int zva, .int fk, .int fp, .ref (am 13), .int (nI sn), .ref (am 15), .ref (am 16), .ref (am 17), .ref (am 18), .ref (am 19), .int (nI pn), .int (nI qn), .ref (am 22), .ref (am 23), .ref (am 24), .ref (am 25), .ref (am 26), .ref (am 27), .ref (am 28), .ref (am 29), .ref (am 30), .ref (am 31), .ref (am 32), .ref (am 33), .ref (am 34), .int zss, .int zsy, .int zpy, .int zfs, .int zls, .int (nI an), .ref (am 41), .ref (am 42), .ref (am 43), .ref (am 44), .ref (am 45), .ref (am 46), .ref (am 47), .ref (am 48), .ref (am 49), .ref (am 50), .int (nI zw), .ref (am 52), .ref (am 53)]))] sz)) 0 0 (va_A [(am 0, .inr (12, [.ref (am 1), .ref (am 2), .ref (am 3), .ref (am 4), .int (nI tn), .int (nI zsz), .int (nI zfr), .int (nI zbe), .int zha, .int zva, .int fk, .int fp, .ref (am 13), .int (nI sn), .ref (am 15), .ref (am 16), .ref (am 17), .ref (am 18), .ref (am 19), .int (nI pn), .int (nI qn), .ref (am 22), .ref (am 23), .ref (am 24), .ref (am 25), .ref (am 26), .ref (am 27), .ref (am 28), .ref (am 29), .ref (am 30), .ref (am 31), .ref (am 32), .ref (am 33), .ref (am 34), .int zss, .int zsy, .int zpy, .int zfs, .int zls, .int (nI an), .ref (am 41), .ref (am 42), .ref (am 43), .ref (am 44), .ref (am 45), .ref (am 46), .ref (am 47), .ref (am 48), .ref (am 49), .ref (am 50), .int (nI zw), .ref (am 52), .ref (am 53)]))] sz) := by
  refine Met.ofW (cc := cX12_begin) (maxL := 1) (ret := none) (by decide) rfl ?_
  intro pp ee ss mm args below meth cc0 s₁ B hml hv
  obtain ⟨rfl, hsz, hP, hK, hD0⟩ := hv
  have hx := B.exec
  have hb := B.bytes
  have hr := B.returns
  have hts := atoms_spec (ws := wsX12_begin) B.pre
  have hown : ss.vm.findClass RX12 = some mm.cls := findClass_of_methodNamed B.named
  have hlocks := B.notSynchronized
  have hL0 := hts (.fieldLink RX12 116 "HereLivedModel" "taped" "I") (by decide +kernel)
  have hL1 := hts (.fieldLink RX12 25 "HereLivedModel" "size" "I") (by decide +kernel)
  have hL2 := hts (.fieldLink RX12 32 "HereLivedModel" "behind" "I") (by decide +kernel)
  have hiX12 : ∀ w ∈ wsX120, w ∈ wsX12_begin := by decide +kernel
  subst hsz
  have hD := hD0.self (sz := ss.heap.size)
  generalize hAe : va_A [(am 0, .inr (12, [.ref (am 1), .ref (am 2), .ref (am 3), .ref (am 4), .int (nI tn), .int (nI zsz), .int (nI zfr), .int (nI zbe), .int zha, .int zva, .int fk, .int fp, .ref (am 13), .int (nI sn), .ref (am 15), .ref (am 16), .ref (am 17), .ref (am 18), .ref (am 19), .int (nI pn), .int (nI qn), .ref (am 22), .ref (am 23), .ref (am 24), .ref (am 25), .ref (am 26), .ref (am 27), .ref (am 28), .ref (am 29), .ref (am 30), .ref (am 31), .ref (am 32), .ref (am 33), .ref (am 34), .int zss, .int zsy, .int zpy, .int zfs, .int zls, .int (nI an), .ref (am 41), .ref (am 42), .ref (am 43), .ref (am 44), .ref (am 45), .ref (am 46), .ref (am 47), .ref (am 48), .ref (am 49), .ref (am 50), .int (nI zw), .ref (am 52), .ref (am 53)]))] ss.heap.size = A at hD ⊢
  have hA : ∀ q : Nat, ss.heap.size ≤ q → A q := fun q h => by rw [← hAe]; exact Or.inr h
  have hS : va_S A ss.heap ss.heap [] := va_S.rf
  have hP : va_P (dC, dI) vwCl [(am 0, .inr (12, [.ref (am 1), .ref (am 2), .ref (am 3), .ref (am 4), .int (nI tn), .int (nI zsz), .int (nI zfr), .int (nI zbe), .int zha, .int zva, .int fk, .int fp, .ref (am 13), .int (nI sn), .ref (am 15), .ref (am 16), .ref (am 17), .ref (am 18), .ref (am 19), .int (nI pn), .int (nI qn), .ref (am 22), .ref (am 23), .ref (am 24), .ref (am 25), .ref (am 26), .ref (am 27), .ref (am 28), .ref (am 29), .ref (am 30), .ref (am 31), .ref (am 32), .ref (am 33), .ref (am 34), .int zss, .int zsy, .int zpy, .int zfs, .int zls, .int (nI an), .ref (am 41), .ref (am 42), .ref (am 43), .ref (am 44), .ref (am 45), .ref (am 46), .ref (am 47), .ref (am 48), .ref (am 49), .ref (am 50), .int (nI zw), .ref (am 52), .ref (am 53)]))] ss.heap := hP
  have hl := lv_entry ([.ref (am 0)]) (n := 1) (Nat.le_of_ble_eq_true rfl)
  rw [lg_entry_eq]
  generalize (lg_sl ([.ref (am 0)]) ++ List.replicate (1 - (lg_sl ([.ref (am 0)])).length) Slot.unset).toArray = ls at hl ⊢
  have hl : lv_has ls 1 [(0, .ref (am 0))] := hl
  refine bw_Q (fun Q hQ => ?_)
  refine bw_H0 (fun H locs eH eL => ?_)
  have hS : va_S A ss.heap H locs := by rw [eH, eL]; exact hS
  have hP : va_P (dC, dI) vwCl [(am 0, .inr (12, [.ref (am 1), .ref (am 2), .ref (am 3), .ref (am 4), .int (nI tn), .int (nI zsz), .int (nI zfr), .int (nI zbe), .int zha, .int zva, .int fk, .int fp, .ref (am 13), .int (nI sn), .ref (am 15), .ref (am 16), .ref (am 17), .ref (am 18), .ref (am 19), .int (nI pn), .int (nI qn), .ref (am 22), .ref (am 23), .ref (am 24), .ref (am 25), .ref (am 26), .ref (am 27), .ref (am 28), .ref (am 29), .ref (am 30), .ref (am 31), .ref (am 32), .ref (am 33), .ref (am 34), .int zss, .int zsy, .int zpy, .int zfs, .int zls, .int (nI an), .ref (am 41), .ref (am 42), .ref (am 43), .ref (am 44), .ref (am 45), .ref (am 46), .ref (am 47), .ref (am 48), .ref (am 49), .ref (am 50), .int (nI zw), .ref (am 52), .ref (am 53)]))] H := by rw [eH]; exact hP
  change W pp l ee { frames := 0, cells := 0, slots := 0, locals := 0 } ss mm _ below meth cc0 H locs 0 0 Q (F0 mm 0 ls [])
  refine lv_aload_n hx hb dX12_begin_0 rfl (lv_at hl 0 rfl) ?_
  refine lv_aload_n hx hb dX12_begin_1 rfl (lv_at hl 0 rfl) ?_
  refine va_get (D := (dC, dI)) (ci := 12) (v := .int (nI tn)) (C := RX12) (T := TX12) (N := 53) hx hb hts hiX12 hown hK hP 0 rfl rfl 4 (by decide) hL0 (fun _ h9 => h9) rfl dX12_begin_2 ?_
  refine va_put (D := (dC, dI)) (ci := 12) (v := .int (nI tn)) (ty := (tyX12 5)) (C := RX12) (T := TX12) (N := 53) hx hb hts hiX12 tyX12 tyX12_ok nmX12 hown hK hP hD hS 0 rfl rfl 5 (by decide) hL1 (fun _ h9 => h9) rfl (by decide +kernel) rfl rfl (Nat.le_of_ble_eq_true rfl) dX12_begin_5 (fun H locs hP hD hS => ?_)
  have hP : va_P (dC, dI) vwCl [(am 0, .inr (12, [.ref (am 1), .ref (am 2), .ref (am 3), .ref (am 4), .int (nI tn), .int (nI tn), .int (nI zfr), .int (nI zbe), .int zha, .int zva, .int fk, .int fp, .ref (am 13), .int (nI sn), .ref (am 15), .ref (am 16), .ref (am 17), .ref (am 18), .ref (am 19), .int (nI pn), .int (nI qn), .ref (am 22), .ref (am 23), .ref (am 24), .ref (am 25), .ref (am 26), .ref (am 27), .ref (am 28), .ref (am 29), .ref (am 30), .ref (am 31), .ref (am 32), .ref (am 33), .ref (am 34), .int zss, .int zsy, .int zpy, .int zfs, .int zls, .int (nI an), .ref (am 41), .ref (am 42), .ref (am 43), .ref (am 44), .ref (am 45), .ref (am 46), .ref (am 47), .ref (am 48), .ref (am 49), .ref (am 50), .int (nI zw), .ref (am 52), .ref (am 53)]))] H := hP
  have hD : va_D A [(am 0, .inr (12, [.ref (am 1), .ref (am 2), .ref (am 3), .ref (am 4), .int (nI tn), .int (nI tn), .int (nI zfr), .int (nI zbe), .int zha, .int zva, .int fk, .int fp, .ref (am 13), .int (nI sn), .ref (am 15), .ref (am 16), .ref (am 17), .ref (am 18), .ref (am 19), .int (nI pn), .int (nI qn), .ref (am 22), .ref (am 23), .ref (am 24), .ref (am 25), .ref (am 26), .ref (am 27), .ref (am 28), .ref (am 29), .ref (am 30), .ref (am 31), .ref (am 32), .ref (am 33), .ref (am 34), .int zss, .int zsy, .int zpy, .int zfs, .int zls, .int (nI an), .ref (am 41), .ref (am 42), .ref (am 43), .ref (am 44), .ref (am 45), .ref (am 46), .ref (am 47), .ref (am 48), .ref (am 49), .ref (am 50), .int (nI zw), .ref (am 52), .ref (am 53)]))] := hD
  refine lv_aload_n hx hb dX12_begin_8 rfl (lv_at hl 0 rfl) ?_
  refine lv_iconst (v := 0) hx hb dX12_begin_9 (by decide) ?_
  refine va_put (D := (dC, dI)) (ci := 12) (v := .int 0) (ty := (tyX12 4)) (C := RX12) (T := TX12) (N := 53) hx hb hts hiX12 tyX12 tyX12_ok nmX12 hown hK hP hD hS 0 rfl rfl 4 (by decide) hL0 (fun _ h9 => h9) rfl (by decide +kernel) rfl rfl (Nat.le_of_ble_eq_true rfl) dX12_begin_10 (fun H locs hP hD hS => ?_)
  have hP : va_P (dC, dI) vwCl [(am 0, .inr (12, [.ref (am 1), .ref (am 2), .ref (am 3), .ref (am 4), .int 0, .int (nI tn), .int (nI zfr), .int (nI zbe), .int zha, .int zva, .int fk, .int fp, .ref (am 13), .int (nI sn), .ref (am 15), .ref (am 16), .ref (am 17), .ref (am 18), .ref (am 19), .int (nI pn), .int (nI qn), .ref (am 22), .ref (am 23), .ref (am 24), .ref (am 25), .ref (am 26), .ref (am 27), .ref (am 28), .ref (am 29), .ref (am 30), .ref (am 31), .ref (am 32), .ref (am 33), .ref (am 34), .int zss, .int zsy, .int zpy, .int zfs, .int zls, .int (nI an), .ref (am 41), .ref (am 42), .ref (am 43), .ref (am 44), .ref (am 45), .ref (am 46), .ref (am 47), .ref (am 48), .ref (am 49), .ref (am 50), .int (nI zw), .ref (am 52), .ref (am 53)]))] H := hP
  have hD : va_D A [(am 0, .inr (12, [.ref (am 1), .ref (am 2), .ref (am 3), .ref (am 4), .int 0, .int (nI tn), .int (nI zfr), .int (nI zbe), .int zha, .int zva, .int fk, .int fp, .ref (am 13), .int (nI sn), .ref (am 15), .ref (am 16), .ref (am 17), .ref (am 18), .ref (am 19), .int (nI pn), .int (nI qn), .ref (am 22), .ref (am 23), .ref (am 24), .ref (am 25), .ref (am 26), .ref (am 27), .ref (am 28), .ref (am 29), .ref (am 30), .ref (am 31), .ref (am 32), .ref (am 33), .ref (am 34), .int zss, .int zsy, .int zpy, .int zfs, .int zls, .int (nI an), .ref (am 41), .ref (am 42), .ref (am 43), .ref (am 44), .ref (am 45), .ref (am 46), .ref (am 47), .ref (am 48), .ref (am 49), .ref (am 50), .int (nI zw), .ref (am 52), .ref (am 53)]))] := hD
  refine lv_aload_n hx hb dX12_begin_13 rfl (lv_at hl 0 rfl) ?_
  refine lv_iconst (v := 0) hx hb dX12_begin_14 (by decide) ?_
  refine va_put (D := (dC, dI)) (ci := 12) (v := .int 0) (ty := (tyX12 7)) (C := RX12) (T := TX12) (N := 53) hx hb hts hiX12 tyX12 tyX12_ok nmX12 hown hK hP hD hS 0 rfl rfl 7 (by decide) hL2 (fun _ h9 => h9) rfl (by decide +kernel) rfl rfl (Nat.le_of_ble_eq_true rfl) dX12_begin_15 (fun H locs hP hD hS => ?_)
  have hP : va_P (dC, dI) vwCl [(am 0, .inr (12, [.ref (am 1), .ref (am 2), .ref (am 3), .ref (am 4), .int 0, .int (nI tn), .int (nI zfr), .int 0, .int zha, .int zva, .int fk, .int fp, .ref (am 13), .int (nI sn), .ref (am 15), .ref (am 16), .ref (am 17), .ref (am 18), .ref (am 19), .int (nI pn), .int (nI qn), .ref (am 22), .ref (am 23), .ref (am 24), .ref (am 25), .ref (am 26), .ref (am 27), .ref (am 28), .ref (am 29), .ref (am 30), .ref (am 31), .ref (am 32), .ref (am 33), .ref (am 34), .int zss, .int zsy, .int zpy, .int zfs, .int zls, .int (nI an), .ref (am 41), .ref (am 42), .ref (am 43), .ref (am 44), .ref (am 45), .ref (am 46), .ref (am 47), .ref (am 48), .ref (am 49), .ref (am 50), .int (nI zw), .ref (am 52), .ref (am 53)]))] H := hP
  have hD : va_D A [(am 0, .inr (12, [.ref (am 1), .ref (am 2), .ref (am 3), .ref (am 4), .int 0, .int (nI tn), .int (nI zfr), .int 0, .int zha, .int zva, .int fk, .int fp, .ref (am 13), .int (nI sn), .ref (am 15), .ref (am 16), .ref (am 17), .ref (am 18), .ref (am 19), .int (nI pn), .int (nI qn), .ref (am 22), .ref (am 23), .ref (am 24), .ref (am 25), .ref (am 26), .ref (am 27), .ref (am 28), .ref (am 29), .ref (am 30), .ref (am 31), .ref (am 32), .ref (am 33), .ref (am 34), .int zss, .int zsy, .int zpy, .int zfs, .int zls, .int (nI an), .ref (am 41), .ref (am 42), .ref (am 43), .ref (am 44), .ref (am 45), .ref (am 46), .ref (am 47), .ref (am 48), .ref (am 49), .ref (am 50), .int (nI zw), .ref (am 52), .ref (am 53)]))] := hD
  refine bw_Qe hQ ?_
  have hP9 : va_P (dC, dI) vwCl [(am 0, .inr (12, [.ref (am 1), .ref (am 2), .ref (am 3), .ref (am 4), .int (nI 0), .int (nI tn), .int (nI zfr), .int (nI 0), .int zha, .int zva, .int fk, .int fp, .ref (am 13), .int (nI sn), .ref (am 15), .ref (am 16), .ref (am 17), .ref (am 18), .ref (am 19), .int (nI pn), .int (nI qn), .ref (am 22), .ref (am 23), .ref (am 24), .ref (am 25), .ref (am 26), .ref (am 27), .ref (am 28), .ref (am 29), .ref (am 30), .ref (am 31), .ref (am 32), .ref (am 33), .ref (am 34), .int zss, .int zsy, .int zpy, .int zfs, .int zls, .int (nI an), .ref (am 41), .ref (am 42), .ref (am 43), .ref (am 44), .ref (am 45), .ref (am 46), .ref (am 47), .ref (am 48), .ref (am 49), .ref (am 50), .int (nI zw), .ref (am 52), .ref (am 53)]))] H := hP.sub [0] rfl
  have hD9 : va_D A [(am 0, .inr (12, [.ref (am 1), .ref (am 2), .ref (am 3), .ref (am 4), .int (nI 0), .int (nI tn), .int (nI zfr), .int (nI 0), .int zha, .int zva, .int fk, .int fp, .ref (am 13), .int (nI sn), .ref (am 15), .ref (am 16), .ref (am 17), .ref (am 18), .ref (am 19), .int (nI pn), .int (nI qn), .ref (am 22), .ref (am 23), .ref (am 24), .ref (am 25), .ref (am 26), .ref (am 27), .ref (am 28), .ref (am 29), .ref (am 30), .ref (am 31), .ref (am 32), .ref (am 33), .ref (am 34), .int zss, .int zsy, .int zpy, .int zfs, .int zls, .int (nI an), .ref (am 41), .ref (am 42), .ref (am 43), .ref (am 44), .ref (am 45), .ref (am 46), .ref (am 47), .ref (am 48), .ref (am 49), .ref (am 50), .int (nI zw), .ref (am 52), .ref (am 53)]))] := hD.sub [0] (by decide) rfl
  have hpost : True := by
    trivial
  exact W.vret hx hb hr (fun t9 ht hW => ⟨⟨(), rfl, hpost, by rw [ht]; exact hP9, va_K.moved hW.alike hK, hD9⟩, hS.F ht⟩) hS.2.2 dX12_begin_18

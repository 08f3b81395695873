/-! one year, one bit, the lowest bit -/
theorem one_year {r : Int64} {y : Int} {P : Int → Prop} (h : ∀ b : Nat, lb r b = true ↔ y + b ≤ y ∧ P (y + b)) : r ≠ 0 ↔ P y := by
  constructor
  · intro hr
    obtain ⟨i, hi, hb⟩ := lb_ne0 hr
    have h2 := (h i).mp hb
    have e : i = 0 := by omega
    subst e
    have h3 := h2.2
    rwa [show y + ((0 : Nat) : Int) = y by omega] at h3
  · intro hp hr
    have h2 := (h 0).mpr ⟨by omega, by rwa [show y + ((0 : Nat) : Int) = y by omega]⟩
    rw [hr, lb_0] at h2
    cases h2
theorem sSu1_pos {nb fr tt st nu : Nat → Int32} {n s : Nat} {t m : Int32} {y : Int} (hok : sOK nb fr tt n) (hs : s < n) (h : sSu1 nb fr tt st nu s t m y) : sPos nb fr tt st nu s t m y := by
  obtain ⟨k, hk, hk1, hk8, ho⟩ := hok.2.2 s hs
  unfold sSu1 sSurTo at h
  unfold sPos sPosTo
  rw [kn_nI hk hk8] at h ⊢
  obtain ⟨i, h1, h2, h3, h4⟩ := h
  refine ⟨i, h1, h2, h3, ?_⟩
  unfold sSur at h4
  unfold sMay
  have q1 := ho i h1 h2
  refine ⟨by omega, fun q => ?_⟩
  have q2 := ho (i + 1) (by omega) q
  have q3 := h4.2 q
  omega
theorem sOnly_one {nb fr tt st nu : Nat → Int32} {n s s2 : Nat} {t m : Int32} {y : Int} (hok : sOK nb fr tt n) (hs : s < n) (hs2 : s2 < n) (h : sOnly nb fr tt st nu n s t m y) (h2 : sOnly nb fr tt st nu n s2 t m y) : s = s2 :=
  Classical.byContradiction fun q => h.2 s2 hs2 (fun e => q e.symm) (sSu1_pos hok hs2 h2.1)
/-- the lowest bit of a number -/
theorem low_bit {x : Int64} (h : x ≠ 0) : ∃ t, t < 64 ∧ lb x t = true ∧ ∀ i, i < t → lb x i = false := by
  obtain ⟨i, hi, hb⟩ := lb_ne0 h
  obtain ⟨t, ht, hm⟩ := pk_least (fun i => lb x i = true) ⟨i, hb⟩
  exact ⟨t, lb_lt ht, ht, fun j hj => by
    cases hq : lb x j with
    | false => rfl
    | true => exact absurd hq (hm j hj)⟩
/-- x & (x - 1) is x without its lowest bit -/
theorem low_off {x : Int64} {t : Nat} (ht : t < 64) (h1 : lb x t = true) (h2 : ∀ i, i < t → lb x i = false) (i : Nat) : lb (x &&& (x - 1)) i = (lb x i && !decide (i = t)) := by
  obtain ⟨n, hn, rfl⟩ := wb_of x
  have hb : ∀ i, lb (lN n) i = n.testBit i := lb_lN hn
  -- n = 2^t * (2u + 1)
  have hmod : n % 2 ^ t = 0 := by
    apply Nat.eq_of_testBit_eq
    intro j
    rw [Nat.zero_testBit, Nat.testBit_mod_two_pow]
    by_cases q : j < t
    · have := h2 j q; rw [hb] at this; simp [q, this]
    · simp [q]
  have hdiv : n / 2 ^ t % 2 = 1 := by
    have := h1
    rw [hb, Nat.testBit_eq_decide_div_mod_eq] at this
    exact of_decide_eq_true this
  obtain ⟨u, hu⟩ : ∃ u, n = 2 ^ t * (2 * u + 1) := by
    refine ⟨n / 2 ^ t / 2, ?_⟩
    have q1 : n / 2 ^ t = 2 * (n / 2 ^ t / 2) + 1 := by omega
    have q2 := Nat.div_add_mod n (2 ^ t)
    rw [hmod, Nat.add_zero] at q2
    rw [← q1]; exact q2.symm
  have hp : 1 ≤ 2 ^ t := Nat.one_le_two_pow
  have hn1 : n - 1 = 2 ^ t * (2 * u) + (2 ^ t - 1) := by
    rw [hu, Nat.mul_add, Nat.mul_one]; omega
  have hpos : 1 ≤ n := by rw [hu]; exact Nat.mul_pos hp (by omega)
  have e1 : lN n - 1 = lN (n - 1) := lN_sub hpos
  rw [lb_and, e1, hb, lb_lN (show n - 1 < 2 ^ 64 by omega)]
  have q1 : (n - 1).testBit i = if i < t then true else (2 * u).testBit (i - t) := by
    rw [hn1, Nat.testBit_two_pow_mul_add _ (by omega)]
    by_cases q : i < t
    · rw [if_pos q, if_pos q, Nat.testBit_two_pow_sub_one]; simp [q]
    · rw [if_neg q, if_neg q]
  have q2 : n.testBit i = if i < t then false else (2 * u + 1).testBit (i - t) := by
    rw [hu, Nat.testBit_two_pow_mul]
    by_cases q : i < t
    · simp [q]; omega
    · simp [q]; omega
  rw [q1, q2]
  by_cases q : i < t
  · rw [if_pos q, if_pos q]; rfl
  · rw [if_neg q, if_neg q]
    by_cases q3 : i = t
    · subst q3; simp
    · obtain ⟨d, hd⟩ : ∃ d, i - t = d + 1 := ⟨i - t - 1, by omega⟩
      rw [hd]
      have z1 : (2 * u + 1).testBit (d + 1) = u.testBit d := by rw [Nat.testBit_succ]; congr 1; omega
      have z2 : (2 * u).testBit (d + 1) = u.testBit d := by rw [Nat.testBit_succ]; congr 1; omega
      rw [z1, z2]
      simp [q3]
/-- one bit alone -/
theorem one_bit {x : Int64} (h : x ≠ 0) (h2 : x &&& (x - 1) = 0) : ∃ t, t < 64 ∧ lb x t = true ∧ ∀ i, lb x i = true → i = t := by
  obtain ⟨t, ht, h3, h4⟩ := low_bit h
  refine ⟨t, ht, h3, fun i hi => Classical.byContradiction fun q => ?_⟩
  have := low_off ht h3 h4 i
  rw [h2, lb_0, hi] at this
  simp [q] at this
theorem two_bits {x : Int64} (h2 : x &&& (x - 1) ≠ 0) : ∃ t i, lb x t = true ∧ lb x i = true ∧ i ≠ t := by
  have h : x ≠ 0 := fun q => h2 (by rw [q]; decide)
  obtain ⟨t, ht, h3, h4⟩ := low_bit h
  obtain ⟨i, hi, hb⟩ := lb_ne0 h2
  rw [low_off ht h3 h4 i, Bool.and_eq_true] at hb
  refine ⟨t, i, h3, hb.1, ?_⟩
  have := hb.2
  simpa using this
theorem lb_at0 (x : Int64) {n : Nat} (hn : n < 64) : (x >>> ((nI n).toInt64 &&& 63)) &&& 1 = 0 ↔ lb x n = false := by
  rw [lb_and1, lb_sshr n hn x (by omega), Nat.add_zero]
set_option maxHeartbeats 4000000 in
set_option maxRecDepth 100000 in
theorem c_X10_possible (l : Launch) (dC : Nat → ClassId) (dI : Nat → Nat → Nat) (cy : Nat → ClassId) (ad : Nat → Nat) (sn : Nat) (nb : Nat → Int32) (fr : Nat → Int32) (tt : Nat → Int32) (st : Nat → Int32) (nu : Nat → Int32) (t : Int32) (m : Int32) (y : Int32) (hall : sOK nb fr tt sn) : Met l yX10_possible wsX10_possible ({ frames := 2, cells := 0, slots := 0, locals := 55 }) (va_Pc [.ref (ad 0), .int t, .int m, .int y] (fun U => va_P (dC, dI) vwCl [(ad 0, .inr (10, [.ref (ad 1), .ref (ad 3), .ref (ad 9), .ref (ad 14), .ref (ad 22), .ref (ad 25), .ref (ad 27), .ref (ad 30), .ref (ad 41), .ref (ad 43)])), (ad 3, .inr (6, [.ref (ad 4), .ref (ad 5), .ref (ad 6), .ref (ad 7), .ref (ad 8), .int (nI sn)])), (ad 4, .inl (cy 0, 40, .inl nb)), (ad 5, .inl (cy 0, 320, .inl fr)), (ad 6, .inl (cy 0, 320, .inl tt)), (ad 7, .inl (cy 0, 320, .inl st)), (ad 8, .inl (cy 0, 320, .inl nu))] U.heap ∧ va_K (dC, dI) vwCl (tyL cy) U)) (vp_Sl (fun r => (((0 ≤ t.toInt ∧ t.toInt ≤ 9 ∧ 1 ≤ m.toInt ∧ m.toInt ≤ 999) ∧ (1500 ≤ y.toInt ∧ y.toInt ≤ 2100)) → ∀ b : Nat, lb r b = true ↔ b < sn ∧ sPos nb fr tt st nu b t m y.toInt) ∧ (¬ ((0 ≤ t.toInt ∧ t.toInt ≤ 9 ∧ 1 ≤ m.toInt ∧ m.toInt ≤ 999) ∧ (1500 ≤ y.toInt ∧ y.toInt ≤ 2100)) → r = -2))) 0 0 (fun _ => False) := by
  refine Met.ofW (cc := cX10_possible) (maxL := 7) (ret := (some .long)) (by decide) rfl ?_
  intro pp ee ss mm args below meth cc0 s₁ B hml hv
  obtain ⟨rfl, hP, hK⟩ := hv
  have hx := B.exec
  have hb := B.bytes
  have hr := B.returns
  have hts := atoms_spec (ws := wsX10_possible) B.pre
  have hown : ss.vm.findClass RX10 = some mm.cls := findClass_of_methodNamed B.named
  have hlocks := B.notSynchronized
  have hL0 := hts (.constantLong RX10 123 (-2)) (by decide +kernel)
  have hL1 := hts (.fieldLink RX10 19 "HereLived" "sites" "LHereLived$Sites;") (by decide +kernel)
  have hL2 := hts (.fieldLink RX10 98 "HereLived$Sites" "size" "I") (by decide +kernel)
  have hiX10 : ∀ w ∈ wsX100, w ∈ wsX10_possible := by decide +kernel
  have hiX6 : ∀ w ∈ wsX60, w ∈ wsX10_possible := by decide +kernel
  have hl := lv_entry ([.ref (ad 0), .int t, .int m, .int y]) (n := 7) (Nat.le_of_ble_eq_true rfl)
  rw [lg_entry_eq]
  generalize (lg_sl ([.ref (ad 0), .int t, .int m, .int y]) ++ List.replicate (7 - (lg_sl ([.ref (ad 0), .int t, .int m, .int y])).length) Slot.unset).toArray = ls at hl ⊢
  have hl : lv_has ls 7 [(0, .ref (ad 0)), (1, .int t), (2, .int m), (3, .int y)] := hl
  refine bw_Q (fun Q hQ => ?_)
  change W pp l ee { frames := 2, cells := 0, slots := 0, locals := 55 } ss mm _ below meth cc0 ss.heap [] 0 0 Q (F0 mm 0 ls [])
  have h40 := hall.1
  refine lv_iload_n hx hb dX10_possible_0 rfl (lv_at hl 1 rfl) ?_
  refine lv_iload_n hx hb dX10_possible_1 rfl (lv_at hl 2 rfl) ?_
  refine vp_callSi (va_Run.run (va_runS (As := [.int t, .int m]) (rest := []) ⟨hx, hb, hml, hown, hts⟩ (c_X10_isAddress l dC dI cy t m) (va_cwS 2 hts gX10_possible_X10_isAddress rfl rfl rfl (by decide +kernel) ⟨Nat.le_of_ble_eq_true rfl, Nat.le_of_ble_eq_true rfl⟩) ⟨fun a U g mk q => q, fun U hU hW => ⟨rfl, trivial⟩⟩ rfl rfl hl.1 rfl (lv_room (Nat.le_of_ble_eq_true rfl)) dX10_possible_2 ⟨Nat.le_of_ble_eq_true rfl, Nat.le_of_ble_eq_true rfl⟩)) (fun r_1 hr_1 => ?_)
  refine bw_ifeqB (tgt := 15) hx hb dX10_possible_5 (by decide) hr_1 (fun c_2 => ?_) (fun c_2 => ?_)
  · skip
    refine lv_ldc2 hx hb hown hL0 dX10_possible_15 ?_
    subst hQ
    have hpost : (((0 ≤ t.toInt ∧ t.toInt ≤ 9 ∧ 1 ≤ m.toInt ∧ m.toInt ≤ 999) ∧ (1500 ≤ y.toInt ∧ y.toInt ≤ 2100)) → ∀ b : Nat, lb ((-2) : Int64) b = true ↔ b < sn ∧ sPos nb fr tt st nu b t m y.toInt) ∧ (¬ ((0 ≤ t.toInt ∧ t.toInt ≤ 9 ∧ 1 ≤ m.toInt ∧ m.toInt ≤ 999) ∧ (1500 ≤ y.toInt ∧ y.toInt ≤ 2100)) → ((-2) : Int64) = -2) := by
      refine ⟨fun h9 => ?_, fun h9 => ?_⟩
      · exfalso; omega
      · rfl
    exact W.lret (v := (-2)) hx hb hr (fun t9 ht hW => ⟨_, rfl, hpost, by rw [ht]⟩) (fun q h => by cases h) dX10_possible_18
  · skip
    refine lv_iload_n hx hb dX10_possible_8 rfl (lv_at hl 3 rfl) ?_
    refine vp_callSi (va_Run.run (va_runS (As := [.int y]) (rest := []) ⟨hx, hb, hml, hown, hts⟩ (c_X10_isYear l dC dI cy y) (va_cwS 1 hts gX10_possible_X10_isYear rfl rfl rfl (by decide +kernel) ⟨Nat.le_of_ble_eq_true rfl, Nat.le_of_ble_eq_true rfl⟩) ⟨fun a U g mk q => q, fun U hU hW => ⟨rfl, trivial⟩⟩ rfl rfl hl.1 rfl (lv_room (Nat.le_of_ble_eq_true rfl)) dX10_possible_9 ⟨Nat.le_of_ble_eq_true rfl, Nat.le_of_ble_eq_true rfl⟩)) (fun r_3 hr_3 => ?_)
    refine bw_ifneB (tgt := 19) hx hb dX10_possible_12 (by decide) hr_3 (fun c_4 => ?_) (fun c_4 => ?_)
    · skip
      refine lv_lconst (v := 0) hx hb dX10_possible_19 (by decide) ?_
      refine lv_lstore (lv' := [(4, .long 0), (0, .ref (ad 0)), (1, .int t), (2, .int m), (3, .int y)]) hx hb dX10_possible_20 hl (by decide) rfl (fun ls hl => ?_)
      refine lv_iconst (v := 0) hx hb dX10_possible_22 (by decide) ?_
      refine lv_istore (lv' := [(6, .int 0), (4, .long 0), (0, .ref (ad 0)), (1, .int t), (2, .int m), (3, .int y)]) hx hb dX10_possible_23 hl (by decide) rfl (fun ls hl => ?_)
      have L_25 : ∀ (n9 : Nat), ∀ (s : Nat) (ys : Int64), (sn - s) < n9 → (s ≤ sn) → (∀ b : Nat, lb ys b = true ↔ b < s ∧ sPos nb fr tt st nu b t m y.toInt) → ∀ (ls : Array Slot), lv_has ls 7 [(0, .ref (ad 0)), (1, .int t), (2, .int m), (3, .int y), (4, .long ys), (6, .int (nI s))] → W pp l ee { frames := 2, cells := 0, slots := 0, locals := 55 } ss mm (List.toArray [Value.ref (ad 0), Value.int t, Value.int m, Value.int y]) below meth cc0 ss.heap [] 0 0 Q (F0 mm 25 ls []) := by
        intro n9
        induction n9 with
        | zero => intro s ys hm9; exact absurd hm9 (Nat.not_lt_zero _)
        | succ n9 ih25 =>
          intro s ys hm25 hs hys
          intro ls hl
          refine lv_iload hx hb dX10_possible_25 (lv_at hl 5 rfl) ?_
          refine lv_aload_n hx hb dX10_possible_27 rfl (lv_at hl 0 rfl) ?_
          refine va_get (D := (dC, dI)) (ci := 10) (v := .ref (ad 3)) (C := RX10) (T := TX10) (N := 10) hx hb hts hiX10 hown hK hP 0 rfl rfl 1 (by decide) hL1 (fun _ h9 => h9) rfl dX10_possible_28 ?_
          refine va_get (D := (dC, dI)) (ci := 6) (v := .int (nI sn)) (C := RX6) (T := TX6) (N := 6) hx hb hts hiX6 hown hK hP 1 rfl rfl 5 (by decide) hL2 (fun _ h9 => h9) rfl dX10_possible_31 ?_
          refine bw_icmp_ge (tgt := 70) (a := ((s : Nat) : Int)) (b := ((sn : Nat) : Int)) hx hb dX10_possible_34 (by decide) (nI_toInt (by omega)) (nI_toInt (by omega)) (fun c_5 => ?_) (fun c_5 => ?_)
          · skip
            refine lv_lload hx hb dX10_possible_70 (lv_at hl 4 rfl) ?_
            subst hQ
            have hpost : (((0 ≤ t.toInt ∧ t.toInt ≤ 9 ∧ 1 ≤ m.toInt ∧ m.toInt ≤ 999) ∧ (1500 ≤ y.toInt ∧ y.toInt ≤ 2100)) → ∀ b : Nat, lb (ys : Int64) b = true ↔ b < sn ∧ sPos nb fr tt st nu b t m y.toInt) ∧ (¬ ((0 ≤ t.toInt ∧ t.toInt ≤ 9 ∧ 1 ≤ m.toInt ∧ m.toInt ≤ 999) ∧ (1500 ≤ y.toInt ∧ y.toInt ≤ 2100)) → (ys : Int64) = -2) := by
              have e9 : s = sn := by omega
              subst e9
              exact ⟨fun _ => hys, fun h9 => absurd (by omega) h9⟩
            exact W.lret (v := ys) hx hb hr (fun t9 ht hW => ⟨_, rfl, hpost, by rw [ht]⟩) (fun q h => by cases h) dX10_possible_72
          · skip
            obtain ⟨k, hk, hk1, hk8, hok⟩ := hall.2.2 s (by omega)
            refine lv_aload_n hx hb dX10_possible_37 rfl (lv_at hl 0 rfl) ?_
            refine va_get (D := (dC, dI)) (ci := 10) (v := .ref (ad 3)) (C := RX10) (T := TX10) (N := 10) hx hb hts hiX10 hown hK hP 0 rfl rfl 1 (by decide) hL1 (fun _ h9 => h9) rfl dX10_possible_38 ?_
            refine lv_iload hx hb dX10_possible_41 (lv_at hl 5 rfl) ?_
            refine lv_iload_n hx hb dX10_possible_43 rfl (lv_at hl 1 rfl) ?_
            refine lv_iload_n hx hb dX10_possible_44 rfl (lv_at hl 2 rfl) ?_
            refine lv_iload_n hx hb dX10_possible_45 rfl (lv_at hl 3 rfl) ?_
            refine lv_iload_n hx hb dX10_possible_46 rfl (lv_at hl 3 rfl) ?_
            have hPc : va_P (dC, dI) vwCl [(ad 3, .inr (6, [.ref (ad 4), .ref (ad 5), .ref (ad 6), .ref (ad 7), .ref (ad 8), .int (nI sn)])), (ad 4, .inl (cy 0, 40, .inl nb)), (ad 5, .inl (cy 0, 320, .inl fr)), (ad 6, .inl (cy 0, 320, .inl tt)), (ad 7, .inl (cy 0, 320, .inl st)), (ad 8, .inl (cy 0, 320, .inl nu))] ss.heap := hP.sub [1, 2, 3, 4, 5, 6] rfl
            refine vp_callSl (va_Run.run (va_runV (As := [.int (nI s), .int t, .int m, .int y, .int y]) (rest := []) ⟨hx, hb, hml, hown, hts⟩ (c_X6_yearsMaybe l dC dI cy ad sn nb fr tt st nu s k t m y y (by first | assumption | omega) (by first | assumption | omega) (by first | assumption | omega) (by first | assumption | omega) (by first | assumption | omega) (by first | assumption | omega) (by first | assumption | omega)) (cwV 5 hts gX10_possible_X6_yearsMaybe rfl rfl rfl (by decide +kernel) ⟨Nat.le_of_ble_eq_true rfl, Nat.le_of_ble_eq_true rfl⟩) ⟨fun a U g mk q => by obtain ⟨q0, qP, qK⟩ := q; exact ⟨q0, qP, va_K.moved (u := U) (U := U.calling g mk a) (Vm.Alike.refl U.vm) qK⟩, va_recv hK hPc (ci := 6) (q0 := 0) rfl rfl, fun U hU hW => ⟨rfl, by rw [hU]; exact hPc, va_K.moved hW.alike hK⟩⟩ rfl rfl hl.1 rfl (lv_room (Nat.le_of_ble_eq_true rfl)) dX10_possible_47 ⟨Nat.le_of_ble_eq_true rfl, Nat.le_of_ble_eq_true rfl⟩)) (fun rm_ hrm_ => ?_)
            refine lv_lconst (v := 0) hx hb dX10_possible_50 (by decide) ?_
            refine bw_lcmpE hx hb dX10_possible_51 (fun zq tzq => ?_)
            refine bw_if_eq (tgt := 64) (a := zq.toInt) hx hb dX10_possible_52 (by decide) rfl (fun c_z => ?_) (fun c_z => ?_)
            · skip
              refine lv_iinc (v := nI (s + 1)) (lv' := [(6, .int (nI (s + 1))), (0, .ref (ad 0)), (1, .int t), (2, .int m), (3, .int y), (4, .long ys)]) hx hb dX10_possible_64 hl (k := 5) rfl (show nI s + Int32.ofInt 1 = nI (s + 1) from nI_add s 1) (by decide) rfl (fun ls hl => ?_)
              refine lv_goto (tgt := 25) hx hb dX10_possible_67 (by decide) ?_
              have hI_hys : ∀ b : Nat, lb ys b = true ↔ b < (s + 1) ∧ sPos nb fr tt st nu b t m y.toInt := by
                first
                  | (have hyes : sPos nb fr tt st nu s t m y.toInt := (one_year hrm_).mp (fun q => c_z (tzq.mpr q))
                     intro b
                     by_cases hb64 : b < 64
                     · rw [ewo, ewa, lb_or, Bool.or_eq_true, hys b, lb_one_shl s (by omega) hb64]
                       constructor
                       · rintro (q | q)
                         · exact ⟨by omega, q.2⟩
                         · have e9 : b = s := of_decide_eq_true q
                           subst e9
                           exact ⟨by omega, hyes⟩
                       · rintro ⟨q1, q2⟩
                         by_cases e9 : b = s
                         · exact Or.inr (decide_eq_true e9)
                         · exact Or.inl ⟨by omega, q2⟩
                     · rw [lb_big (by omega)]
                       constructor
                       · intro q; cases q
                       · rintro ⟨q, -⟩; omega)
                  | (have hno : ¬ sPos nb fr tt st nu s t m y.toInt := fun q => (one_year hrm_).mpr q (tzq.mp c_z)
                     intro b
                     rw [hys b]
                     constructor
                     · rintro ⟨q1, q2⟩; exact ⟨by omega, q2⟩
                     · rintro ⟨q1, q2⟩
                       refine ⟨?_, q2⟩
                       by_cases e9 : b = s
                       · subst e9; exact absurd q2 hno
                       · omega)
              exact ih25 (s + 1) ys (by omega) (by first | assumption | omega) hI_hys ls (lv_sub hl [1, 2, 3, 4, 5, 0] rfl)
            · skip
              refine lv_lload hx hb dX10_possible_55 (lv_at hl 4 rfl) ?_
              refine lv_lconst (v := 1) hx hb dX10_possible_57 (by decide) ?_
              refine lv_iload hx hb dX10_possible_58 (lv_at hl 5 rfl) ?_
              refine lv_lshl hx hb dX10_possible_60 rfl ?_
              refine lv_topl (fun wa ewa => ?_)
              refine lv_lor hx hb dX10_possible_61 ?_
              refine lv_topl (fun wo ewo => ?_)
              refine lv_lstore (lv' := [(4, .long wo), (0, .ref (ad 0)), (1, .int t), (2, .int m), (3, .int y), (6, .int (nI s))]) hx hb dX10_possible_62 hl (by decide) rfl (fun ls hl => ?_)
              refine lv_iinc (v := nI (s + 1)) (lv' := [(6, .int (nI (s + 1))), (4, .long wo), (0, .ref (ad 0)), (1, .int t), (2, .int m), (3, .int y)]) hx hb dX10_possible_64 hl (k := 5) rfl (show nI s + Int32.ofInt 1 = nI (s + 1) from nI_add s 1) (by decide) rfl (fun ls hl => ?_)
              refine lv_goto (tgt := 25) hx hb dX10_possible_67 (by decide) ?_
              have hI_hys : ∀ b : Nat, lb wo b = true ↔ b < (s + 1) ∧ sPos nb fr tt st nu b t m y.toInt := by
                first
                  | (have hyes : sPos nb fr tt st nu s t m y.toInt := (one_year hrm_).mp (fun q => c_z (tzq.mpr q))
                     intro b
                     by_cases hb64 : b < 64
                     · rw [ewo, ewa, lb_or, Bool.or_eq_true, hys b, lb_one_shl s (by omega) hb64]
                       constructor
                       · rintro (q | q)
                         · exact ⟨by omega, q.2⟩
                         · have e9 : b = s := of_decide_eq_true q
                           subst e9
                           exact ⟨by omega, hyes⟩
                       · rintro ⟨q1, q2⟩
                         by_cases e9 : b = s
                         · exact Or.inr (decide_eq_true e9)
                         · exact Or.inl ⟨by omega, q2⟩
                     · rw [lb_big (by omega)]
                       constructor
                       · intro q; cases q
                       · rintro ⟨q, -⟩; omega)
                  | (have hno : ¬ sPos nb fr tt st nu s t m y.toInt := fun q => (one_year hrm_).mpr q (tzq.mp c_z)
                     intro b
                     rw [hys b]
                     constructor
                     · rintro ⟨q1, q2⟩; exact ⟨by omega, q2⟩
                     · rintro ⟨q1, q2⟩
                       refine ⟨?_, q2⟩
                       by_cases e9 : b = s
                       · subst e9; exact absurd q2 hno
                       · omega)
              exact ih25 (s + 1) wo (by omega) (by first | assumption | omega) hI_hys ls (lv_sub hl [2, 3, 4, 5, 1, 0] rfl)
      have hI_hys : ∀ b : Nat, lb 0 b = true ↔ b < 0 ∧ sPos nb fr tt st nu b t m y.toInt := by
        intro b
        rw [lb_0]
        exact ⟨(fun q => by cases q), (fun q => absurd q.1 (Nat.not_lt_zero _))⟩
      exact L_25 ((sn - 0) + 1) 0 0 (by omega) (by first | assumption | omega) hI_hys ls (lv_sub hl [2, 3, 4, 5, 1, 0] rfl)
    · skip
      refine lv_ldc2 hx hb hown hL0 dX10_possible_15 ?_
      subst hQ
      have hpost : (((0 ≤ t.toInt ∧ t.toInt ≤ 9 ∧ 1 ≤ m.toInt ∧ m.toInt ≤ 999) ∧ (1500 ≤ y.toInt ∧ y.toInt ≤ 2100)) → ∀ b : Nat, lb ((-2) : Int64) b = true ↔ b < sn ∧ sPos nb fr tt st nu b t m y.toInt) ∧ (¬ ((0 ≤ t.toInt ∧ t.toInt ≤ 9 ∧ 1 ≤ m.toInt ∧ m.toInt ≤ 999) ∧ (1500 ≤ y.toInt ∧ y.toInt ≤ 2100)) → ((-2) : Int64) = -2) := by
        refine ⟨fun h9 => ?_, fun h9 => ?_⟩
        · exfalso; omega
        · rfl
      exact W.lret (v := (-2)) hx hb hr (fun t9 ht hW => ⟨_, rfl, hpost, by rw [ht]⟩) (fun q h => by cases h) dX10_possible_18

set_option maxHeartbeats 4000000 in
set_option maxRecDepth 100000 in
theorem c_X10_surely (l : Launch) (dC : Nat → ClassId) (dI : Nat → Nat → Nat) (cy : Nat → ClassId) (ad : Nat → Nat) (sn : Nat) (nb : Nat → Int32) (fr : Nat → Int32) (tt : Nat → Int32) (st : Nat → Int32) (nu : Nat → Int32) (t : Int32) (m : Int32) (y : Int32) (hall : sOK nb fr tt sn) : Met l yX10_surely wsX10_surely ({ frames := 3, cells := 0, slots := 0, locals := 85 }) (va_Pc [.ref (ad 0), .int t, .int m, .int y] (fun U => va_P (dC, dI) vwCl [(ad 0, .inr (10, [.ref (ad 1), .ref (ad 3), .ref (ad 9), .ref (ad 14), .ref (ad 22), .ref (ad 25), .ref (ad 27), .ref (ad 30), .ref (ad 41), .ref (ad 43)])), (ad 3, .inr (6, [.ref (ad 4), .ref (ad 5), .ref (ad 6), .ref (ad 7), .ref (ad 8), .int (nI sn)])), (ad 4, .inl (cy 0, 40, .inl nb)), (ad 5, .inl (cy 0, 320, .inl fr)), (ad 6, .inl (cy 0, 320, .inl tt)), (ad 7, .inl (cy 0, 320, .inl st)), (ad 8, .inl (cy 0, 320, .inl nu))] U.heap ∧ va_K (dC, dI) vwCl (tyL cy) U)) (vp_Si (fun r => (((0 ≤ t.toInt ∧ t.toInt ≤ 9 ∧ 1 ≤ m.toInt ∧ m.toInt ≤ 999) ∧ (1500 ≤ y.toInt ∧ y.toInt ≤ 2100)) → ((∃ s9, s9 < sn ∧ r = nI s9 ∧ sOnly nb fr tt st nu sn s9 t m y.toInt) ∨ (r = -1 ∧ ∀ s9, s9 < sn → ¬ sOnly nb fr tt st nu sn s9 t m y.toInt))) ∧ (¬ ((0 ≤ t.toInt ∧ t.toInt ≤ 9 ∧ 1 ≤ m.toInt ∧ m.toInt ≤ 999) ∧ (1500 ≤ y.toInt ∧ y.toInt ≤ 2100)) → r = -2))) 0 0 (fun _ => False) := by
  refine Met.ofW (cc := cX10_surely) (maxL := 5) (ret := (some .int)) (by decide) rfl ?_
  intro pp ee ss mm args below meth cc0 s₁ B hml hv
  obtain ⟨rfl, hP, hK⟩ := hv
  have hx := B.exec
  have hb := B.bytes
  have hr := B.returns
  have hts := atoms_spec (ws := wsX10_surely) B.pre
  have hown : ss.vm.findClass RX10 = some mm.cls := findClass_of_methodNamed B.named
  have hlocks := B.notSynchronized
  have hL0 := hts (.fieldLink RX10 19 "HereLived" "sites" "LHereLived$Sites;") (by decide +kernel)
  have hL1 := hts (.fieldLink RX10 98 "HereLived$Sites" "size" "I") (by decide +kernel)
  have hiX10 : ∀ w ∈ wsX100, w ∈ wsX10_surely := by decide +kernel
  have hiX6 : ∀ w ∈ wsX60, w ∈ wsX10_surely := by decide +kernel
  have hl := lv_entry ([.ref (ad 0), .int t, .int m, .int y]) (n := 5) (Nat.le_of_ble_eq_true rfl)
  rw [lg_entry_eq]
  generalize (lg_sl ([.ref (ad 0), .int t, .int m, .int y]) ++ List.replicate (5 - (lg_sl ([.ref (ad 0), .int t, .int m, .int y])).length) Slot.unset).toArray = ls at hl ⊢
  have hl : lv_has ls 5 [(0, .ref (ad 0)), (1, .int t), (2, .int m), (3, .int y)] := hl
  refine bw_Q (fun Q hQ => ?_)
  change W pp l ee { frames := 3, cells := 0, slots := 0, locals := 85 } ss mm _ below meth cc0 ss.heap [] 0 0 Q (F0 mm 0 ls [])
  have h40 := hall.1
  refine lv_iload_n hx hb dX10_surely_0 rfl (lv_at hl 1 rfl) ?_
  refine lv_iload_n hx hb dX10_surely_1 rfl (lv_at hl 2 rfl) ?_
  refine vp_callSi (va_Run.run (va_runS (As := [.int t, .int m]) (rest := []) ⟨hx, hb, hml, hown, hts⟩ (c_X10_isAddress l dC dI cy t m) (va_cwS 2 hts gX10_surely_X10_isAddress rfl rfl rfl (by decide +kernel) ⟨Nat.le_of_ble_eq_true rfl, Nat.le_of_ble_eq_true rfl⟩) ⟨fun a U g mk q => q, fun U hU hW => ⟨rfl, trivial⟩⟩ rfl rfl hl.1 rfl (lv_room (Nat.le_of_ble_eq_true rfl)) dX10_surely_2 ⟨Nat.le_of_ble_eq_true rfl, Nat.le_of_ble_eq_true rfl⟩)) (fun r_1 hr_1 => ?_)
  refine bw_ifeqB (tgt := 15) hx hb dX10_surely_5 (by decide) hr_1 (fun c_2 => ?_) (fun c_2 => ?_)
  · skip
    refine lv_bipush (v := (-2)) hx hb dX10_surely_15 (by decide) ?_
    subst hQ
    have hpost : (((0 ≤ t.toInt ∧ t.toInt ≤ 9 ∧ 1 ≤ m.toInt ∧ m.toInt ≤ 999) ∧ (1500 ≤ y.toInt ∧ y.toInt ≤ 2100)) → ((∃ s9, s9 < sn ∧ ((-2) : Int32) = nI s9 ∧ sOnly nb fr tt st nu sn s9 t m y.toInt) ∨ (((-2) : Int32) = -1 ∧ ∀ s9, s9 < sn → ¬ sOnly nb fr tt st nu sn s9 t m y.toInt))) ∧ (¬ ((0 ≤ t.toInt ∧ t.toInt ≤ 9 ∧ 1 ≤ m.toInt ∧ m.toInt ≤ 999) ∧ (1500 ≤ y.toInt ∧ y.toInt ≤ 2100)) → ((-2) : Int32) = -2) := by
      refine ⟨fun h9 => ?_, fun h9 => ?_⟩
      · exfalso; omega
      · rfl
    exact W.iret (v := (-2)) hx hb hr (fun t9 ht hW => ⟨_, rfl, hpost, by rw [ht]⟩) (fun q h => by cases h) dX10_surely_17
  · skip
    refine lv_iload_n hx hb dX10_surely_8 rfl (lv_at hl 3 rfl) ?_
    refine vp_callSi (va_Run.run (va_runS (As := [.int y]) (rest := []) ⟨hx, hb, hml, hown, hts⟩ (c_X10_isYear l dC dI cy y) (va_cwS 1 hts gX10_surely_X10_isYear rfl rfl rfl (by decide +kernel) ⟨Nat.le_of_ble_eq_true rfl, Nat.le_of_ble_eq_true rfl⟩) ⟨fun a U g mk q => q, fun U hU hW => ⟨rfl, trivial⟩⟩ rfl rfl hl.1 rfl (lv_room (Nat.le_of_ble_eq_true rfl)) dX10_surely_9 ⟨Nat.le_of_ble_eq_true rfl, Nat.le_of_ble_eq_true rfl⟩)) (fun r_3 hr_3 => ?_)
    refine bw_ifneB (tgt := 18) hx hb dX10_surely_12 (by decide) hr_3 (fun c_4 => ?_) (fun c_4 => ?_)
    · skip
      refine lv_iconst (v := 0) hx hb dX10_surely_18 (by decide) ?_
      refine lv_istore (lv' := [(4, .int 0), (0, .ref (ad 0)), (1, .int t), (2, .int m), (3, .int y)]) hx hb dX10_surely_19 hl (by decide) rfl (fun ls hl => ?_)
      have L_21 : ∀ (n9 : Nat), ∀ (s : Nat), (sn - s) < n9 → (s ≤ sn) → (∀ s1, s1 < s → ¬ sOnly nb fr tt st nu sn s1 t m y.toInt) → ∀ (ls : Array Slot), lv_has ls 5 [(0, .ref (ad 0)), (1, .int t), (2, .int m), (3, .int y), (4, .int (nI s))] → W pp l ee { frames := 3, cells := 0, slots := 0, locals := 85 } ss mm (List.toArray [Value.ref (ad 0), Value.int t, Value.int m, Value.int y]) below meth cc0 ss.heap [] 0 0 Q (F0 mm 21 ls []) := by
        intro n9
        induction n9 with
        | zero => intro s hm9; exact absurd hm9 (Nat.not_lt_zero _)
        | succ n9 ih21 =>
          intro s hm21 hs hno
          intro ls hl
          refine lv_iload hx hb dX10_surely_21 (lv_at hl 4 rfl) ?_
          refine lv_aload_n hx hb dX10_surely_23 rfl (lv_at hl 0 rfl) ?_
          refine va_get (D := (dC, dI)) (ci := 10) (v := .ref (ad 3)) (C := RX10) (T := TX10) (N := 10) hx hb hts hiX10 hown hK hP 0 rfl rfl 1 (by decide) hL0 (fun _ h9 => h9) rfl dX10_surely_24 ?_
          refine va_get (D := (dC, dI)) (ci := 6) (v := .int (nI sn)) (C := RX6) (T := TX6) (N := 6) hx hb hts hiX6 hown hK hP 1 rfl rfl 5 (by decide) hL1 (fun _ h9 => h9) rfl dX10_surely_27 ?_
          refine bw_icmp_ge (tgt := 60) (a := ((s : Nat) : Int)) (b := ((sn : Nat) : Int)) hx hb dX10_surely_30 (by decide) (nI_toInt (by omega)) (nI_toInt (by omega)) (fun c_5 => ?_) (fun c_5 => ?_)
          · skip
            refine lv_iconst (v := (-1)) hx hb dX10_surely_60 (by decide) ?_
            subst hQ
            have hpost : (((0 ≤ t.toInt ∧ t.toInt ≤ 9 ∧ 1 ≤ m.toInt ∧ m.toInt ≤ 999) ∧ (1500 ≤ y.toInt ∧ y.toInt ≤ 2100)) → ((∃ s9, s9 < sn ∧ ((-1) : Int32) = nI s9 ∧ sOnly nb fr tt st nu sn s9 t m y.toInt) ∨ (((-1) : Int32) = -1 ∧ ∀ s9, s9 < sn → ¬ sOnly nb fr tt st nu sn s9 t m y.toInt))) ∧ (¬ ((0 ≤ t.toInt ∧ t.toInt ≤ 9 ∧ 1 ≤ m.toInt ∧ m.toInt ≤ 999) ∧ (1500 ≤ y.toInt ∧ y.toInt ≤ 2100)) → ((-1) : Int32) = -2) := by
              have e9 : s = sn := by omega
              subst e9
              exact ⟨fun _ => Or.inr ⟨rfl, hno⟩, fun h9 => absurd (by omega) h9⟩
            exact W.iret (v := (-1)) hx hb hr (fun t9 ht hW => ⟨_, rfl, hpost, by rw [ht]⟩) (fun q h => by cases h) dX10_surely_61
          · skip
            obtain ⟨k, hk, hk1, hk8, hok⟩ := hall.2.2 s (by omega)
            refine lv_aload_n hx hb dX10_surely_33 rfl (lv_at hl 0 rfl) ?_
            refine va_get (D := (dC, dI)) (ci := 10) (v := .ref (ad 3)) (C := RX10) (T := TX10) (N := 10) hx hb hts hiX10 hown hK hP 0 rfl rfl 1 (by decide) hL0 (fun _ h9 => h9) rfl dX10_surely_34 ?_
            refine lv_iload hx hb dX10_surely_37 (lv_at hl 4 rfl) ?_
            refine lv_iload_n hx hb dX10_surely_39 rfl (lv_at hl 1 rfl) ?_
            refine lv_iload_n hx hb dX10_surely_40 rfl (lv_at hl 2 rfl) ?_
            refine lv_iload_n hx hb dX10_surely_41 rfl (lv_at hl 3 rfl) ?_
            refine lv_iload_n hx hb dX10_surely_42 rfl (lv_at hl 3 rfl) ?_
            have hPc : va_P (dC, dI) vwCl [(ad 3, .inr (6, [.ref (ad 4), .ref (ad 5), .ref (ad 6), .ref (ad 7), .ref (ad 8), .int (nI sn)])), (ad 4, .inl (cy 0, 40, .inl nb)), (ad 5, .inl (cy 0, 320, .inl fr)), (ad 6, .inl (cy 0, 320, .inl tt)), (ad 7, .inl (cy 0, 320, .inl st)), (ad 8, .inl (cy 0, 320, .inl nu))] ss.heap := hP.sub [1, 2, 3, 4, 5, 6] rfl
            refine vp_callSl (va_Run.run (va_runV (As := [.int (nI s), .int t, .int m, .int y, .int y]) (rest := []) ⟨hx, hb, hml, hown, hts⟩ (c_X6_yearsSurely l dC dI cy ad sn nb fr tt st nu s k t m y y (by first | assumption | omega) (by first | assumption | omega) (by first | assumption | omega) (by first | assumption | omega) (by first | assumption | omega) (by first | assumption | omega) (by first | assumption | omega) (by first | assumption | omega) (by first | assumption | omega)) (cwV 5 hts gX10_surely_X6_yearsSurely rfl rfl rfl (by decide +kernel) ⟨Nat.le_of_ble_eq_true rfl, Nat.le_of_ble_eq_true rfl⟩) ⟨fun a U g mk q => by obtain ⟨q0, qP, qK⟩ := q; exact ⟨q0, qP, va_K.moved (u := U) (U := U.calling g mk a) (Vm.Alike.refl U.vm) qK⟩, va_recv hK hPc (ci := 6) (q0 := 0) rfl rfl, fun U hU hW => ⟨rfl, by rw [hU]; exact hPc, va_K.moved hW.alike hK⟩⟩ rfl rfl hl.1 rfl (lv_room (Nat.le_of_ble_eq_true rfl)) dX10_surely_43 ⟨Nat.le_of_ble_eq_true rfl, Nat.le_of_ble_eq_true rfl⟩)) (fun rm_ hrm_ => ?_)
            refine lv_lconst (v := 0) hx hb dX10_surely_46 (by decide) ?_
            refine bw_lcmpE hx hb dX10_surely_47 (fun zq tzq => ?_)
            refine bw_if_eq (tgt := 54) (a := zq.toInt) hx hb dX10_surely_48 (by decide) rfl (fun c_z => ?_) (fun c_z => ?_)
            · skip
              refine lv_iinc (v := nI (s + 1)) (lv' := [(4, .int (nI (s + 1))), (0, .ref (ad 0)), (1, .int t), (2, .int m), (3, .int y)]) hx hb dX10_surely_54 hl (k := 4) rfl (show nI s + Int32.ofInt 1 = nI (s + 1) from nI_add s 1) (by decide) rfl (fun ls hl => ?_)
              refine lv_goto (tgt := 21) hx hb dX10_surely_57 (by decide) ?_
              have hI_hno : ∀ s1, s1 < (s + 1) → ¬ sOnly nb fr tt st nu sn s1 t m y.toInt := by
                have q5 : rm_ ≠ 0 ↔ sOnly nb fr tt st nu sn s t m y.toInt := one_year (P := fun z => sOnly nb fr tt st nu sn s t m z) hrm_
                intro s1 h1 h2
                by_cases e9 : s1 = s
                · subst e9; exact q5.mpr h2 (tzq.mp c_z)
                · exact hno s1 (by omega) h2
              exact ih21 (s + 1) (by omega) (by first | assumption | omega) hI_hno ls (lv_sub hl [1, 2, 3, 4, 0] rfl)
            · skip
              refine lv_iload hx hb dX10_surely_51 (lv_at hl 4 rfl) ?_
              subst hQ
              have hpost : (((0 ≤ t.toInt ∧ t.toInt ≤ 9 ∧ 1 ≤ m.toInt ∧ m.toInt ≤ 999) ∧ (1500 ≤ y.toInt ∧ y.toInt ≤ 2100)) → ((∃ s9, s9 < sn ∧ (nI s) = nI s9 ∧ sOnly nb fr tt st nu sn s9 t m y.toInt) ∨ ((nI s) = -1 ∧ ∀ s9, s9 < sn → ¬ sOnly nb fr tt st nu sn s9 t m y.toInt))) ∧ (¬ ((0 ≤ t.toInt ∧ t.toInt ≤ 9 ∧ 1 ≤ m.toInt ∧ m.toInt ≤ 999) ∧ (1500 ≤ y.toInt ∧ y.toInt ≤ 2100)) → (nI s) = -2) := by
                have q5 : rm_ ≠ 0 ↔ sOnly nb fr tt st nu sn s t m y.toInt := one_year (P := fun z => sOnly nb fr tt st nu sn s t m z) hrm_
                exact ⟨fun _ => Or.inl ⟨s, by omega, rfl, q5.mp (fun q => c_z (tzq.mpr q))⟩, fun h9 => absurd (by omega) h9⟩
              exact W.iret (v := nI s) hx hb hr (fun t9 ht hW => ⟨_, rfl, hpost, by rw [ht]⟩) (fun q h => by cases h) dX10_surely_53
      have hI_hno : ∀ s1, s1 < 0 → ¬ sOnly nb fr tt st nu sn s1 t m y.toInt := by
        exact fun s1 h1 => absurd h1 (Nat.not_lt_zero _)
      exact L_21 ((sn - 0) + 1) 0 (by omega) (by first | assumption | omega) hI_hno ls (lv_sub hl [1, 2, 3, 4, 0] rfl)
    · skip
      refine lv_bipush (v := (-2)) hx hb dX10_surely_15 (by decide) ?_
      subst hQ
      have hpost : (((0 ≤ t.toInt ∧ t.toInt ≤ 9 ∧ 1 ≤ m.toInt ∧ m.toInt ≤ 999) ∧ (1500 ≤ y.toInt ∧ y.toInt ≤ 2100)) → ((∃ s9, s9 < sn ∧ ((-2) : Int32) = nI s9 ∧ sOnly nb fr tt st nu sn s9 t m y.toInt) ∨ (((-2) : Int32) = -1 ∧ ∀ s9, s9 < sn → ¬ sOnly nb fr tt st nu sn s9 t m y.toInt))) ∧ (¬ ((0 ≤ t.toInt ∧ t.toInt ≤ 9 ∧ 1 ≤ m.toInt ∧ m.toInt ≤ 999) ∧ (1500 ≤ y.toInt ∧ y.toInt ≤ 2100)) → ((-2) : Int32) = -2) := by
        refine ⟨fun h9 => ?_, fun h9 => ?_⟩
        · exfalso; omega
        · rfl
      exact W.iret (v := (-2)) hx hb hr (fun t9 ht hW => ⟨_, rfl, hpost, by rw [ht]⟩) (fun q h => by cases h) dX10_surely_17

set_option maxHeartbeats 4000000 in
set_option maxRecDepth 100000 in
theorem c_X12_hasNext (l : Launch) (dC : Nat → ClassId) (dI : Nat → Nat → Nat) (cy : Nat → ClassId) (am : Nat → Nat) (tn : Nat) (zsz : Nat) (zfr : Nat) (zbe : Nat) (zha : Int32) (zva : Int32) (fk : Int32) (fp : Int32) (sn : Nat) (pn : Nat) (qn : Nat) (zss : Int32) (zsy : Int32) (zpy : Int32) (zfs : Int32) (zls : Int32) (an : Nat) (zw : Nat) (nb : Nat → Int32) (s : Nat) (i : Nat) (k : Nat) (hs : s < 40) (hk : nb s = nI k) (hik : i < k) (hk8 : k ≤ 8) : Met l yX12_hasNext wsX12_hasNext ({ frames := 0, cells := 0, slots := 0, locals := 0 }) (va_Pc [.ref (am 0), .int (nI s), .int (nI i)] (fun U => va_P (dC, dI) vwCl [(am 0, .inr (12, [.ref (am 1), .ref (am 2), .ref (am 3), .ref (am 4), .int (nI tn), .int (nI zsz), .int (nI zfr), .int (nI zbe), .int zha, .int zva, .int fk, .int fp, .ref (am 13), .int (nI sn), .ref (am 15), .ref (am 16), .ref (am 17), .ref (am 18), .ref (am 19), .int (nI pn), .int (nI qn), .ref (am 22), .ref (am 23), .ref (am 24), .ref (am 25), .ref (am 26), .ref (am 27), .ref (am 28), .ref (am 29), .ref (am 30), .ref (am 31), .ref (am 32), .ref (am 33), .ref (am 34), .int zss, .int zsy, .int zpy, .int zfs, .int zls, .int (nI an), .ref (am 41), .ref (am 42), .ref (am 43), .ref (am 44), .ref (am 45), .ref (am 46), .ref (am 47), .ref (am 48), .ref (am 49), .ref (am 50), .int (nI zw), .ref (am 52), .ref (am 53)])), (am 15, .inl (cy 0, 40, .inl nb))] U.heap ∧ va_K (dC, dI) vwCl (tyL cy) U)) (vp_Si (fun r => r = if i + 1 < k then 1 else 0)) 0 0 (fun _ => False) := by
  refine Met.ofW (cc := cX12_hasNext) (maxL := 3) (ret := (some .boolean)) (by decide) rfl ?_
  intro pp ee ss mm args below meth cc0 s₁ B hml hv
  obtain ⟨rfl, hP, hK⟩ := hv
  have hx := B.exec
  have hb := B.bytes
  have hr := B.returns
  have hts := atoms_spec (ws := wsX12_hasNext) B.pre
  have hown : ss.vm.findClass RX12 = some mm.cls := findClass_of_methodNamed B.named
  have hlocks := B.notSynchronized
  have hL0 := hts (.fieldLink RX12 130 "HereLivedModel" "changes" "[I") (by decide +kernel)
  have hiX12 : ∀ w ∈ wsX120, w ∈ wsX12_hasNext := by decide +kernel
  have hl := lv_entry ([.ref (am 0), .int (nI s), .int (nI i)]) (n := 3) (Nat.le_of_ble_eq_true rfl)
  rw [lg_entry_eq]
  generalize (lg_sl ([.ref (am 0), .int (nI s), .int (nI i)]) ++ List.replicate (3 - (lg_sl ([.ref (am 0), .int (nI s), .int (nI i)])).length) Slot.unset).toArray = ls at hl ⊢
  have hl : lv_has ls 3 [(0, .ref (am 0)), (1, .int (nI s)), (2, .int (nI i))] := hl
  refine bw_Q (fun Q hQ => ?_)
  change W pp l ee { frames := 0, cells := 0, slots := 0, locals := 0 } ss mm _ below meth cc0 ss.heap [] 0 0 Q (F0 mm 0 ls [])
  refine lv_iload_n hx hb dX12_hasNext_0 rfl (lv_at hl 2 rfl) ?_
  refine lv_aload_n hx hb dX12_hasNext_1 rfl (lv_at hl 0 rfl) ?_
  refine va_get (D := (dC, dI)) (ci := 12) (v := .ref (am 15)) (C := RX12) (T := TX12) (N := 53) hx hb hts hiX12 hown hK hP 0 rfl rfl 14 (by decide) hL0 (fun _ h9 => h9) rfl dX12_hasNext_2 ?_
  refine lv_iload_n hx hb dX12_hasNext_5 rfl (lv_at hl 1 rfl) ?_
  refine bw_iald hx hb hK hP 1 0 rfl rfl (j := s) (nI_toInt (by omega)) (by omega) dX12_hasNext_6 ?_
  refine bw_re (show nb s = nI k from hk) ?_
  refine lv_iconst (v := 1) hx hb dX12_hasNext_7 (by decide) ?_
  refine lv_isub hx hb dX12_hasNext_8 ?_
  refine bw_re (show (nI k) - 1 = nI (k - 1) from pk_sub (a := k) (b := 1) (by omega)) ?_
  refine bw_icmp_ge (tgt := 16) (a := ((i : Nat) : Int)) (b := ((k - 1 : Nat) : Int)) hx hb dX12_hasNext_9 (by decide) (nI_toInt (by omega)) (nI_toInt (by omega)) (fun c_1 => ?_) (fun c_1 => ?_)
  · skip
    refine lv_iconst (v := 0) hx hb dX12_hasNext_16 (by decide) ?_
    subst hQ
    have hpost : (0 : Int32) = if i + 1 < k then 1 else 0 := by
      first | rw [if_pos (by omega)] | rw [if_neg (by omega)]
    exact W.zret (v := 0) hx hb hr (by rfl) (fun t9 ht hW => ⟨_, rfl, hpost, by rw [ht]⟩) (fun q h => by cases h) dX12_hasNext_17
  · skip
    refine lv_iconst (v := 1) hx hb dX12_hasNext_12 (by decide) ?_
    refine lv_goto (tgt := 17) hx hb dX12_hasNext_13 (by decide) ?_
    subst hQ
    have hpost : (1 : Int32) = if i + 1 < k then 1 else 0 := by
      first | rw [if_pos (by omega)] | rw [if_neg (by omega)]
    exact W.zret (v := 1) hx hb hr (by rfl) (fun t9 ht hW => ⟨_, rfl, hpost, by rw [ht]⟩) (fun q h => by cases h) dX12_hasNext_17

set_option maxHeartbeats 4000000 in
set_option maxRecDepth 100000 in
theorem c_X12_mayHold (l : Launch) (dC : Nat → ClassId) (dI : Nat → Nat → Nat) (cy : Nat → ClassId) (am : Nat → Nat) (tn : Nat) (zsz : Nat) (zfr : Nat) (zbe : Nat) (zha : Int32) (zva : Int32) (fk : Int32) (fp : Int32) (sn : Nat) (pn : Nat) (qn : Nat) (zss : Int32) (zsy : Int32) (zpy : Int32) (zfs : Int32) (zls : Int32) (an : Nat) (zw : Nat) (nb : Nat → Int32) (fr : Nat → Int32) (tt : Nat → Int32) (s : Nat) (i : Nat) (k : Nat) (y : Int32) (hs : s < 40) (hk : nb s = nI k) (hik : i < k) (hk8 : k ≤ 8) : Met l yX12_mayHold wsX12_mayHold ({ frames := 1, cells := 0, slots := 0, locals := 22 }) (va_Pc [.ref (am 0), .int (nI s), .int (nI i), .int y] (fun U => va_P (dC, dI) vwCl [(am 0, .inr (12, [.ref (am 1), .ref (am 2), .ref (am 3), .ref (am 4), .int (nI tn), .int (nI zsz), .int (nI zfr), .int (nI zbe), .int zha, .int zva, .int fk, .int fp, .ref (am 13), .int (nI sn), .ref (am 15), .ref (am 16), .ref (am 17), .ref (am 18), .ref (am 19), .int (nI pn), .int (nI qn), .ref (am 22), .ref (am 23), .ref (am 24), .ref (am 25), .ref (am 26), .ref (am 27), .ref (am 28), .ref (am 29), .ref (am 30), .ref (am 31), .ref (am 32), .ref (am 33), .ref (am 34), .int zss, .int zsy, .int zpy, .int zfs, .int zls, .int (nI an), .ref (am 41), .ref (am 42), .ref (am 43), .ref (am 44), .ref (am 45), .ref (am 46), .ref (am 47), .ref (am 48), .ref (am 49), .ref (am 50), .int (nI zw), .ref (am 52), .ref (am 53)])), (am 15, .inl (cy 0, 40, .inl nb)), (am 16, .inl (cy 0, 320, .inl fr)), (am 17, .inl (cy 0, 320, .inl tt))] U.heap ∧ va_K (dC, dI) vwCl (tyL cy) U)) (vp_Si (fun r => r = pI (sMay fr tt (s * 8 + k) (s * 8 + i) y.toInt))) 0 0 (fun _ => False) := by
  refine Met.ofW (cc := cX12_mayHold) (maxL := 5) (ret := (some .boolean)) (by decide) rfl ?_
  intro pp ee ss mm args below meth cc0 s₁ B hml hv
  obtain ⟨rfl, hP, hK⟩ := hv
  have hx := B.exec
  have hb := B.bytes
  have hr := B.returns
  have hts := atoms_spec (ws := wsX12_mayHold) B.pre
  have hown : ss.vm.findClass RX12 = some mm.cls := findClass_of_methodNamed B.named
  have hlocks := B.notSynchronized
  have hL0 := hts (.fieldLink RX12 133 "HereLivedModel" "since" "[I") (by decide +kernel)
  have hL1 := hts (.fieldLink RX12 136 "HereLivedModel" "until" "[I") (by decide +kernel)
  have hiX12 : ∀ w ∈ wsX120, w ∈ wsX12_mayHold := by decide +kernel
  have hl := lv_entry ([.ref (am 0), .int (nI s), .int (nI i), .int y]) (n := 5) (Nat.le_of_ble_eq_true rfl)
  rw [lg_entry_eq]
  generalize (lg_sl ([.ref (am 0), .int (nI s), .int (nI i), .int y]) ++ List.replicate (5 - (lg_sl ([.ref (am 0), .int (nI s), .int (nI i), .int y])).length) Slot.unset).toArray = ls at hl ⊢
  have hl : lv_has ls 5 [(0, .ref (am 0)), (1, .int (nI s)), (2, .int (nI i)), (3, .int y)] := hl
  refine bw_Q (fun Q hQ => ?_)
  change W pp l ee { frames := 1, cells := 0, slots := 0, locals := 22 } ss mm _ below meth cc0 ss.heap [] 0 0 Q (F0 mm 0 ls [])
  refine lv_bipush (v := 8) hx hb dX12_mayHold_0 (by decide) ?_
  refine lv_iload_n hx hb dX12_mayHold_2 rfl (lv_at hl 1 rfl) ?_
  refine lv_imul hx hb dX12_mayHold_3 ?_
  refine bw_re (show 8 * (nI s) = nI (8 * s) from pk_mul (8) (s)) ?_
  refine lv_iload_n hx hb dX12_mayHold_4 rfl (lv_at hl 2 rfl) ?_
  refine lv_iadd hx hb dX12_mayHold_5 ?_
  refine bw_re (show (nI (8 * s)) + (nI i) = nI (8 * s + i) from nI_add (8 * s) (i)) ?_
  refine lv_istore (lv' := [(4, .int (nI (8 * s + i))), (0, .ref (am 0)), (1, .int (nI s)), (2, .int (nI i)), (3, .int y)]) hx hb dX12_mayHold_6 hl (by decide) rfl (fun ls hl => ?_)
  refine lv_aload_n hx hb dX12_mayHold_8 rfl (lv_at hl 1 rfl) ?_
  refine va_get (D := (dC, dI)) (ci := 12) (v := .ref (am 16)) (C := RX12) (T := TX12) (N := 53) hx hb hts hiX12 hown hK hP 0 rfl rfl 15 (by decide) hL0 (fun _ h9 => h9) rfl dX12_mayHold_9 ?_
  refine lv_iload hx hb dX12_mayHold_12 (lv_at hl 0 rfl) ?_
  refine bw_iald hx hb hK hP 2 0 rfl rfl (j := (s * 8 + i)) ((nI_toInt (by omega)).trans (by omega)) (by omega) dX12_mayHold_14 ?_
  refine lv_iload_n hx hb dX12_mayHold_15 rfl (lv_at hl 4 rfl) ?_
  refine bw_icmp_gt (tgt := 45) (a := (fr (s * 8 + i)).toInt) (b := y.toInt) hx hb dX12_mayHold_16 (by decide) rfl rfl (fun c_1 => ?_) (fun c_1 => ?_)
  · skip
    refine lv_iconst (v := 0) hx hb dX12_mayHold_45 (by decide) ?_
    subst hQ
    have hpost : (0 : Int32) = pI (sMay fr tt (s * 8 + k) (s * 8 + i) y.toInt) := by
      first
        | exact (pI_t (by unfold sMay; omega)).symm
        | exact (pI_f (by unfold sMay; omega)).symm
    exact W.zret (v := 0) hx hb hr (by rfl) (fun t9 ht hW => ⟨_, rfl, hpost, by rw [ht]⟩) (fun q h => by cases h) dX12_mayHold_46
  · skip
    refine lv_aload_n hx hb dX12_mayHold_19 rfl (lv_at hl 1 rfl) ?_
    refine lv_iload_n hx hb dX12_mayHold_20 rfl (lv_at hl 2 rfl) ?_
    refine lv_iload_n hx hb dX12_mayHold_21 rfl (lv_at hl 3 rfl) ?_
    have hPc : va_P (dC, dI) vwCl [(am 0, .inr (12, [.ref (am 1), .ref (am 2), .ref (am 3), .ref (am 4), .int (nI tn), .int (nI zsz), .int (nI zfr), .int (nI zbe), .int zha, .int zva, .int fk, .int fp, .ref (am 13), .int (nI sn), .ref (am 15), .ref (am 16), .ref (am 17), .ref (am 18), .ref (am 19), .int (nI pn), .int (nI qn), .ref (am 22), .ref (am 23), .ref (am 24), .ref (am 25), .ref (am 26), .ref (am 27), .ref (am 28), .ref (am 29), .ref (am 30), .ref (am 31), .ref (am 32), .ref (am 33), .ref (am 34), .int zss, .int zsy, .int zpy, .int zfs, .int zls, .int (nI an), .ref (am 41), .ref (am 42), .ref (am 43), .ref (am 44), .ref (am 45), .ref (am 46), .ref (am 47), .ref (am 48), .ref (am 49), .ref (am 50), .int (nI zw), .ref (am 52), .ref (am 53)])), (am 15, .inl (cy 0, 40, .inl nb))] ss.heap := hP.sub [0, 1] rfl
    refine vp_callSi (va_Run.run (va_runV (As := [.int (nI s), .int (nI i)]) (rest := []) ⟨hx, hb, hml, hown, hts⟩ (c_X12_hasNext l dC dI cy am tn zsz zfr zbe zha zva fk fp sn pn qn zss zsy zpy zfs zls an zw nb s i k (by first | assumption | omega) (by first | assumption | omega) (by first | assumption | omega) (by first | assumption | omega)) (cwV 2 hts gX12_mayHold_X12_hasNext rfl rfl rfl (by decide +kernel) ⟨Nat.le_of_ble_eq_true rfl, Nat.le_of_ble_eq_true rfl⟩) ⟨fun a U g mk q => by obtain ⟨q0, qP, qK⟩ := q; exact ⟨q0, qP, va_K.moved (u := U) (U := U.calling g mk a) (Vm.Alike.refl U.vm) qK⟩, va_recv hK hPc (ci := 12) (q0 := 0) rfl rfl, fun U hU hW => ⟨rfl, by rw [hU]; exact hPc, va_K.moved hW.alike hK⟩⟩ rfl rfl hl.1 rfl (lv_room (Nat.le_of_ble_eq_true rfl)) dX12_mayHold_22 ⟨Nat.le_of_ble_eq_true rfl, Nat.le_of_ble_eq_true rfl⟩)) (fun r_2 hr_2 => ?_)
    refine bw_ifeqB (tgt := 41) hx hb dX12_mayHold_25 (by decide) hr_2 (fun c_3 => ?_) (fun c_3 => ?_)
    · skip
      refine lv_iconst (v := 1) hx hb dX12_mayHold_41 (by decide) ?_
      refine lv_goto (tgt := 46) hx hb dX12_mayHold_42 (by decide) ?_
      subst hQ
      have hpost : (1 : Int32) = pI (sMay fr tt (s * 8 + k) (s * 8 + i) y.toInt) := by
        first
          | exact (pI_t (by unfold sMay; omega)).symm
          | exact (pI_f (by unfold sMay; omega)).symm
      exact W.zret (v := 1) hx hb hr (by rfl) (fun t9 ht hW => ⟨_, rfl, hpost, by rw [ht]⟩) (fun q h => by cases h) dX12_mayHold_46
    · skip
      refine lv_aload_n hx hb dX12_mayHold_28 rfl (lv_at hl 1 rfl) ?_
      refine va_get (D := (dC, dI)) (ci := 12) (v := .ref (am 17)) (C := RX12) (T := TX12) (N := 53) hx hb hts hiX12 hown hK hP 0 rfl rfl 16 (by decide) hL1 (fun _ h9 => h9) rfl dX12_mayHold_29 ?_
      refine lv_iload hx hb dX12_mayHold_32 (lv_at hl 0 rfl) ?_
      refine lv_iconst (v := 1) hx hb dX12_mayHold_34 (by decide) ?_
      refine lv_iadd hx hb dX12_mayHold_35 ?_
      refine bw_re (show (nI (8 * s + i)) + 1 = nI (8 * s + i + 1) from nI_add (8 * s + i) (1)) ?_
      refine bw_iald hx hb hK hP 3 0 rfl rfl (j := (s * 8 + i + 1)) ((nI_toInt (by omega)).trans (by omega)) (by omega) dX12_mayHold_36 ?_
      refine lv_iload_n hx hb dX12_mayHold_37 rfl (lv_at hl 4 rfl) ?_
      refine bw_icmp_le (tgt := 45) (a := (tt (s * 8 + i + 1)).toInt) (b := y.toInt) hx hb dX12_mayHold_38 (by decide) rfl rfl (fun c_4 => ?_) (fun c_4 => ?_)
      · skip
        refine lv_iconst (v := 0) hx hb dX12_mayHold_45 (by decide) ?_
        subst hQ
        have hpost : (0 : Int32) = pI (sMay fr tt (s * 8 + k) (s * 8 + i) y.toInt) := by
          first
            | exact (pI_t (by unfold sMay; omega)).symm
            | exact (pI_f (by unfold sMay; omega)).symm
        exact W.zret (v := 0) hx hb hr (by rfl) (fun t9 ht hW => ⟨_, rfl, hpost, by rw [ht]⟩) (fun q h => by cases h) dX12_mayHold_46
      · skip
        refine lv_iconst (v := 1) hx hb dX12_mayHold_41 (by decide) ?_
        refine lv_goto (tgt := 46) hx hb dX12_mayHold_42 (by decide) ?_
        subst hQ
        have hpost : (1 : Int32) = pI (sMay fr tt (s * 8 + k) (s * 8 + i) y.toInt) := by
          first
            | exact (pI_t (by unfold sMay; omega)).symm
            | exact (pI_f (by unfold sMay; omega)).symm
        exact W.zret (v := 1) hx hb hr (by rfl) (fun t9 ht hW => ⟨_, rfl, hpost, by rw [ht]⟩) (fun q h => by cases h) dX12_mayHold_46

set_option maxHeartbeats 4000000 in
set_option maxRecDepth 100000 in
theorem c_X12_surelyHolds (l : Launch) (dC : Nat → ClassId) (dI : Nat → Nat → Nat) (cy : Nat → ClassId) (am : Nat → Nat) (tn : Nat) (zsz : Nat) (zfr : Nat) (zbe : Nat) (zha : Int32) (zva : Int32) (fk : Int32) (fp : Int32) (sn : Nat) (pn : Nat) (qn : Nat) (zss : Int32) (zsy : Int32) (zpy : Int32) (zfs : Int32) (zls : Int32) (an : Nat) (zw : Nat) (nb : Nat → Int32) (fr : Nat → Int32) (tt : Nat → Int32) (s : Nat) (i : Nat) (k : Nat) (y : Int32) (hs : s < 40) (hk : nb s = nI k) (hik : i < k) (hk8 : k ≤ 8) : Met l yX12_surelyHolds wsX12_surelyHolds ({ frames := 1, cells := 0, slots := 0, locals := 22 }) (va_Pc [.ref (am 0), .int (nI s), .int (nI i), .int y] (fun U => va_P (dC, dI) vwCl [(am 0, .inr (12, [.ref (am 1), .ref (am 2), .ref (am 3), .ref (am 4), .int (nI tn), .int (nI zsz), .int (nI zfr), .int (nI zbe), .int zha, .int zva, .int fk, .int fp, .ref (am 13), .int (nI sn), .ref (am 15), .ref (am 16), .ref (am 17), .ref (am 18), .ref (am 19), .int (nI pn), .int (nI qn), .ref (am 22), .ref (am 23), .ref (am 24), .ref (am 25), .ref (am 26), .ref (am 27), .ref (am 28), .ref (am 29), .ref (am 30), .ref (am 31), .ref (am 32), .ref (am 33), .ref (am 34), .int zss, .int zsy, .int zpy, .int zfs, .int zls, .int (nI an), .ref (am 41), .ref (am 42), .ref (am 43), .ref (am 44), .ref (am 45), .ref (am 46), .ref (am 47), .ref (am 48), .ref (am 49), .ref (am 50), .int (nI zw), .ref (am 52), .ref (am 53)])), (am 15, .inl (cy 0, 40, .inl nb)), (am 16, .inl (cy 0, 320, .inl fr)), (am 17, .inl (cy 0, 320, .inl tt))] U.heap ∧ va_K (dC, dI) vwCl (tyL cy) U)) (vp_Si (fun r => r = pI (sSur fr tt (s * 8 + k) (s * 8 + i) y.toInt))) 0 0 (fun _ => False) := by
  refine Met.ofW (cc := cX12_surelyHolds) (maxL := 5) (ret := (some .boolean)) (by decide) rfl ?_
  intro pp ee ss mm args below meth cc0 s₁ B hml hv
  obtain ⟨rfl, hP, hK⟩ := hv
  have hx := B.exec
  have hb := B.bytes
  have hr := B.returns
  have hts := atoms_spec (ws := wsX12_surelyHolds) B.pre
  have hown : ss.vm.findClass RX12 = some mm.cls := findClass_of_methodNamed B.named
  have hlocks := B.notSynchronized
  have hL0 := hts (.fieldLink RX12 136 "HereLivedModel" "until" "[I") (by decide +kernel)
  have hL1 := hts (.fieldLink RX12 133 "HereLivedModel" "since" "[I") (by decide +kernel)
  have hiX12 : ∀ w ∈ wsX120, w ∈ wsX12_surelyHolds := by decide +kernel
  have hl := lv_entry ([.ref (am 0), .int (nI s), .int (nI i), .int y]) (n := 5) (Nat.le_of_ble_eq_true rfl)
  rw [lg_entry_eq]
  generalize (lg_sl ([.ref (am 0), .int (nI s), .int (nI i), .int y]) ++ List.replicate (5 - (lg_sl ([.ref (am 0), .int (nI s), .int (nI i), .int y])).length) Slot.unset).toArray = ls at hl ⊢
  have hl : lv_has ls 5 [(0, .ref (am 0)), (1, .int (nI s)), (2, .int (nI i)), (3, .int y)] := hl
  refine bw_Q (fun Q hQ => ?_)
  change W pp l ee { frames := 1, cells := 0, slots := 0, locals := 22 } ss mm _ below meth cc0 ss.heap [] 0 0 Q (F0 mm 0 ls [])
  refine lv_bipush (v := 8) hx hb dX12_surelyHolds_0 (by decide) ?_
  refine lv_iload_n hx hb dX12_surelyHolds_2 rfl (lv_at hl 1 rfl) ?_
  refine lv_imul hx hb dX12_surelyHolds_3 ?_
  refine bw_re (show 8 * (nI s) = nI (8 * s) from pk_mul (8) (s)) ?_
  refine lv_iload_n hx hb dX12_surelyHolds_4 rfl (lv_at hl 2 rfl) ?_
  refine lv_iadd hx hb dX12_surelyHolds_5 ?_
  refine bw_re (show (nI (8 * s)) + (nI i) = nI (8 * s + i) from nI_add (8 * s) (i)) ?_
  refine lv_istore (lv' := [(4, .int (nI (8 * s + i))), (0, .ref (am 0)), (1, .int (nI s)), (2, .int (nI i)), (3, .int y)]) hx hb dX12_surelyHolds_6 hl (by decide) rfl (fun ls hl => ?_)
  refine lv_aload_n hx hb dX12_surelyHolds_8 rfl (lv_at hl 1 rfl) ?_
  refine va_get (D := (dC, dI)) (ci := 12) (v := .ref (am 17)) (C := RX12) (T := TX12) (N := 53) hx hb hts hiX12 hown hK hP 0 rfl rfl 16 (by decide) hL0 (fun _ h9 => h9) rfl dX12_surelyHolds_9 ?_
  refine lv_iload hx hb dX12_surelyHolds_12 (lv_at hl 0 rfl) ?_
  refine bw_iald hx hb hK hP 3 0 rfl rfl (j := (s * 8 + i)) ((nI_toInt (by omega)).trans (by omega)) (by omega) dX12_surelyHolds_14 ?_
  refine lv_iload_n hx hb dX12_surelyHolds_15 rfl (lv_at hl 4 rfl) ?_
  refine bw_icmp_gt (tgt := 45) (a := (tt (s * 8 + i)).toInt) (b := y.toInt) hx hb dX12_surelyHolds_16 (by decide) rfl rfl (fun c_1 => ?_) (fun c_1 => ?_)
  · skip
    refine lv_iconst (v := 0) hx hb dX12_surelyHolds_45 (by decide) ?_
    subst hQ
    have hpost : (0 : Int32) = pI (sSur fr tt (s * 8 + k) (s * 8 + i) y.toInt) := by
      first
        | exact (pI_t (by unfold sSur; omega)).symm
        | exact (pI_f (by unfold sSur; omega)).symm
    exact W.zret (v := 0) hx hb hr (by rfl) (fun t9 ht hW => ⟨_, rfl, hpost, by rw [ht]⟩) (fun q h => by cases h) dX12_surelyHolds_46
  · skip
    refine lv_aload_n hx hb dX12_surelyHolds_19 rfl (lv_at hl 1 rfl) ?_
    refine lv_iload_n hx hb dX12_surelyHolds_20 rfl (lv_at hl 2 rfl) ?_
    refine lv_iload_n hx hb dX12_surelyHolds_21 rfl (lv_at hl 3 rfl) ?_
    have hPc : va_P (dC, dI) vwCl [(am 0, .inr (12, [.ref (am 1), .ref (am 2), .ref (am 3), .ref (am 4), .int (nI tn), .int (nI zsz), .int (nI zfr), .int (nI zbe), .int zha, .int zva, .int fk, .int fp, .ref (am 13), .int (nI sn), .ref (am 15), .ref (am 16), .ref (am 17), .ref (am 18), .ref (am 19), .int (nI pn), .int (nI qn), .ref (am 22), .ref (am 23), .ref (am 24), .ref (am 25), .ref (am 26), .ref (am 27), .ref (am 28), .ref (am 29), .ref (am 30), .ref (am 31), .ref (am 32), .ref (am 33), .ref (am 34), .int zss, .int zsy, .int zpy, .int zfs, .int zls, .int (nI an), .ref (am 41), .ref (am 42), .ref (am 43), .ref (am 44), .ref (am 45), .ref (am 46), .ref (am 47), .ref (am 48), .ref (am 49), .ref (am 50), .int (nI zw), .ref (am 52), .ref (am 53)])), (am 15, .inl (cy 0, 40, .inl nb))] ss.heap := hP.sub [0, 1] rfl
    refine vp_callSi (va_Run.run (va_runV (As := [.int (nI s), .int (nI i)]) (rest := []) ⟨hx, hb, hml, hown, hts⟩ (c_X12_hasNext l dC dI cy am tn zsz zfr zbe zha zva fk fp sn pn qn zss zsy zpy zfs zls an zw nb s i k (by first | assumption | omega) (by first | assumption | omega) (by first | assumption | omega) (by first | assumption | omega)) (cwV 2 hts gX12_surelyHolds_X12_hasNext rfl rfl rfl (by decide +kernel) ⟨Nat.le_of_ble_eq_true rfl, Nat.le_of_ble_eq_true rfl⟩) ⟨fun a U g mk q => by obtain ⟨q0, qP, qK⟩ := q; exact ⟨q0, qP, va_K.moved (u := U) (U := U.calling g mk a) (Vm.Alike.refl U.vm) qK⟩, va_recv hK hPc (ci := 12) (q0 := 0) rfl rfl, fun U hU hW => ⟨rfl, by rw [hU]; exact hPc, va_K.moved hW.alike hK⟩⟩ rfl rfl hl.1 rfl (lv_room (Nat.le_of_ble_eq_true rfl)) dX12_surelyHolds_22 ⟨Nat.le_of_ble_eq_true rfl, Nat.le_of_ble_eq_true rfl⟩)) (fun r_2 hr_2 => ?_)
    refine bw_ifeqB (tgt := 41) hx hb dX12_surelyHolds_25 (by decide) hr_2 (fun c_3 => ?_) (fun c_3 => ?_)
    · skip
      refine lv_iconst (v := 1) hx hb dX12_surelyHolds_41 (by decide) ?_
      refine lv_goto (tgt := 46) hx hb dX12_surelyHolds_42 (by decide) ?_
      subst hQ
      have hpost : (1 : Int32) = pI (sSur fr tt (s * 8 + k) (s * 8 + i) y.toInt) := by
        first
          | exact (pI_t (by unfold sSur; omega)).symm
          | exact (pI_f (by unfold sSur; omega)).symm
      exact W.zret (v := 1) hx hb hr (by rfl) (fun t9 ht hW => ⟨_, rfl, hpost, by rw [ht]⟩) (fun q h => by cases h) dX12_surelyHolds_46
    · skip
      refine lv_aload_n hx hb dX12_surelyHolds_28 rfl (lv_at hl 1 rfl) ?_
      refine va_get (D := (dC, dI)) (ci := 12) (v := .ref (am 16)) (C := RX12) (T := TX12) (N := 53) hx hb hts hiX12 hown hK hP 0 rfl rfl 15 (by decide) hL1 (fun _ h9 => h9) rfl dX12_surelyHolds_29 ?_
      refine lv_iload hx hb dX12_surelyHolds_32 (lv_at hl 0 rfl) ?_
      refine lv_iconst (v := 1) hx hb dX12_surelyHolds_34 (by decide) ?_
      refine lv_iadd hx hb dX12_surelyHolds_35 ?_
      refine bw_re (show (nI (8 * s + i)) + 1 = nI (8 * s + i + 1) from nI_add (8 * s + i) (1)) ?_
      refine bw_iald hx hb hK hP 2 0 rfl rfl (j := (s * 8 + i + 1)) ((nI_toInt (by omega)).trans (by omega)) (by omega) dX12_surelyHolds_36 ?_
      refine lv_iload_n hx hb dX12_surelyHolds_37 rfl (lv_at hl 4 rfl) ?_
      refine bw_icmp_le (tgt := 45) (a := (fr (s * 8 + i + 1)).toInt) (b := y.toInt) hx hb dX12_surelyHolds_38 (by decide) rfl rfl (fun c_4 => ?_) (fun c_4 => ?_)
      · skip
        refine lv_iconst (v := 0) hx hb dX12_surelyHolds_45 (by decide) ?_
        subst hQ
        have hpost : (0 : Int32) = pI (sSur fr tt (s * 8 + k) (s * 8 + i) y.toInt) := by
          first
            | exact (pI_t (by unfold sSur; omega)).symm
            | exact (pI_f (by unfold sSur; omega)).symm
        exact W.zret (v := 0) hx hb hr (by rfl) (fun t9 ht hW => ⟨_, rfl, hpost, by rw [ht]⟩) (fun q h => by cases h) dX12_surelyHolds_46
      · skip
        refine lv_iconst (v := 1) hx hb dX12_surelyHolds_41 (by decide) ?_
        refine lv_goto (tgt := 46) hx hb dX12_surelyHolds_42 (by decide) ?_
        subst hQ
        have hpost : (1 : Int32) = pI (sSur fr tt (s * 8 + k) (s * 8 + i) y.toInt) := by
          first
            | exact (pI_t (by unfold sSur; omega)).symm
            | exact (pI_f (by unfold sSur; omega)).symm
        exact W.zret (v := 1) hx hb hr (by rfl) (fun t9 ht hW => ⟨_, rfl, hpost, by rw [ht]⟩) (fun q h => by cases h) dX12_surelyHolds_46

set_option maxHeartbeats 4000000 in
set_option maxRecDepth 100000 in
theorem c_X12_possibly (l : Launch) (dC : Nat → ClassId) (dI : Nat → Nat → Nat) (cy : Nat → ClassId) (am : Nat → Nat) (tn : Nat) (zsz : Nat) (zfr : Nat) (zbe : Nat) (zha : Int32) (zva : Int32) (fk : Int32) (fp : Int32) (sn : Nat) (pn : Nat) (qn : Nat) (zss : Int32) (zsy : Int32) (zpy : Int32) (zfs : Int32) (zls : Int32) (an : Nat) (zw : Nat) (nb : Nat → Int32) (fr : Nat → Int32) (tt : Nat → Int32) (st : Nat → Int32) (nu : Nat → Int32) (t : Int32) (m : Int32) (y : Int32) (hall : sOK nb fr tt sn) : Met l yX12_possibly wsX12_possibly ({ frames := 2, cells := 0, slots := 0, locals := 46 }) (va_Pc [.ref (am 0), .int t, .int m, .int y] (fun U => va_P (dC, dI) vwCl [(am 0, .inr (12, [.ref (am 1), .ref (am 2), .ref (am 3), .ref (am 4), .int (nI tn), .int (nI zsz), .int (nI zfr), .int (nI zbe), .int zha, .int zva, .int fk, .int fp, .ref (am 13), .int (nI sn), .ref (am 15), .ref (am 16), .ref (am 17), .ref (am 18), .ref (am 19), .int (nI pn), .int (nI qn), .ref (am 22), .ref (am 23), .ref (am 24), .ref (am 25), .ref (am 26), .ref (am 27), .ref (am 28), .ref (am 29), .ref (am 30), .ref (am 31), .ref (am 32), .ref (am 33), .ref (am 34), .int zss, .int zsy, .int zpy, .int zfs, .int zls, .int (nI an), .ref (am 41), .ref (am 42), .ref (am 43), .ref (am 44), .ref (am 45), .ref (am 46), .ref (am 47), .ref (am 48), .ref (am 49), .ref (am 50), .int (nI zw), .ref (am 52), .ref (am 53)])), (am 15, .inl (cy 0, 40, .inl nb)), (am 16, .inl (cy 0, 320, .inl fr)), (am 17, .inl (cy 0, 320, .inl tt)), (am 18, .inl (cy 0, 320, .inl st)), (am 19, .inl (cy 0, 320, .inl nu))] U.heap ∧ va_K (dC, dI) vwCl (tyL cy) U)) (vp_Sl (fun r => ∀ b : Nat, lb r b = true ↔ b < sn ∧ sPos nb fr tt st nu b t m y.toInt)) 0 0 (fun _ => False) := by
  refine Met.ofW (cc := cX12_possibly) (maxL := 8) (ret := (some .long)) (by decide) rfl ?_
  intro pp ee ss mm args below meth cc0 s₁ B hml hv
  obtain ⟨rfl, hP, hK⟩ := hv
  have hx := B.exec
  have hb := B.bytes
  have hr := B.returns
  have hts := atoms_spec (ws := wsX12_possibly) B.pre
  have hown : ss.vm.findClass RX12 = some mm.cls := findClass_of_methodNamed B.named
  have hlocks := B.notSynchronized
  have hL0 := hts (.fieldLink RX12 244 "HereLivedModel" "sites" "I") (by decide +kernel)
  have hL1 := hts (.fieldLink RX12 130 "HereLivedModel" "changes" "[I") (by decide +kernel)
  have hL2 := hts (.fieldLink RX12 142 "HereLivedModel" "number" "[I") (by decide +kernel)
  have hL3 := hts (.fieldLink RX12 139 "HereLivedModel" "street" "[I") (by decide +kernel)
  have hiX12 : ∀ w ∈ wsX120, w ∈ wsX12_possibly := by decide +kernel
  have hl := lv_entry ([.ref (am 0), .int t, .int m, .int y]) (n := 8) (Nat.le_of_ble_eq_true rfl)
  rw [lg_entry_eq]
  generalize (lg_sl ([.ref (am 0), .int t, .int m, .int y]) ++ List.replicate (8 - (lg_sl ([.ref (am 0), .int t, .int m, .int y])).length) Slot.unset).toArray = ls at hl ⊢
  have hl : lv_has ls 8 [(0, .ref (am 0)), (1, .int t), (2, .int m), (3, .int y)] := hl
  refine bw_Q (fun Q hQ => ?_)
  change W pp l ee { frames := 2, cells := 0, slots := 0, locals := 46 } ss mm _ below meth cc0 ss.heap [] 0 0 Q (F0 mm 0 ls [])
  have h40 := hall.1
  refine lv_lconst (v := 0) hx hb dX12_possibly_0 (by decide) ?_
  refine lv_lstore (lv' := [(4, .long 0), (0, .ref (am 0)), (1, .int t), (2, .int m), (3, .int y)]) hx hb dX12_possibly_1 hl (by decide) rfl (fun ls hl => ?_)
  refine lv_iconst (v := 0) hx hb dX12_possibly_3 (by decide) ?_
  refine lv_istore (lv' := [(6, .int 0), (4, .long 0), (0, .ref (am 0)), (1, .int t), (2, .int m), (3, .int y)]) hx hb dX12_possibly_4 hl (by decide) rfl (fun ls hl => ?_)
  have L_6 : ∀ (n9 : Nat), ∀ (s : Nat) (ys : Int64), (sn - s) < n9 → (s ≤ sn) → (∀ b : Nat, lb ys b = true ↔ b < s ∧ sPos nb fr tt st nu b t m y.toInt) → ∀ (ls : Array Slot), lv_has ls 8 [(0, .ref (am 0)), (1, .int t), (2, .int m), (3, .int y), (4, .long ys), (6, .int (nI s))] → W pp l ee { frames := 2, cells := 0, slots := 0, locals := 46 } ss mm (List.toArray [Value.ref (am 0), Value.int t, Value.int m, Value.int y]) below meth cc0 ss.heap [] 0 0 Q (F0 mm 6 ls []) := by
    intro n9
    induction n9 with
    | zero => intro s ys hm9; exact absurd hm9 (Nat.not_lt_zero _)
    | succ n9 ih6 =>
      intro s ys hm6 hs hys
      intro ls hl
      refine lv_iload hx hb dX12_possibly_6 (lv_at hl 5 rfl) ?_
      refine lv_aload_n hx hb dX12_possibly_8 rfl (lv_at hl 0 rfl) ?_
      refine va_get (D := (dC, dI)) (ci := 12) (v := .int (nI sn)) (C := RX12) (T := TX12) (N := 53) hx hb hts hiX12 hown hK hP 0 rfl rfl 13 (by decide) hL0 (fun _ h9 => h9) rfl dX12_possibly_9 ?_
      refine bw_icmp_ge (tgt := 97) (a := ((s : Nat) : Int)) (b := ((sn : Nat) : Int)) hx hb dX12_possibly_12 (by decide) (nI_toInt (by omega)) (nI_toInt (by omega)) (fun c_1 => ?_) (fun c_1 => ?_)
      · skip
        refine lv_lload hx hb dX12_possibly_97 (lv_at hl 4 rfl) ?_
        subst hQ
        have hpost : ∀ b : Nat, lb (ys : Int64) b = true ↔ b < sn ∧ sPos nb fr tt st nu b t m y.toInt := by
          have e9 : s = sn := by omega
          subst e9
          exact hys
        exact W.lret (v := ys) hx hb hr (fun t9 ht hW => ⟨_, rfl, hpost, by rw [ht]⟩) (fun q h => by cases h) dX12_possibly_99
      · skip
        obtain ⟨k, hk, hk1, hk8, hok⟩ := hall.2.2 s (by omega)
        refine lv_iconst (v := 0) hx hb dX12_possibly_15 (by decide) ?_
        refine lv_istore (lv' := [(7, .int 0), (0, .ref (am 0)), (1, .int t), (2, .int m), (3, .int y), (4, .long ys), (6, .int (nI s))]) hx hb dX12_possibly_16 hl (by decide) rfl (fun ls hl => ?_)
        have L_18 : ∀ (n9 : Nat), ∀ (i : Nat) (zs : Int64), (k - i) < n9 → (i ≤ k) → (∀ b : Nat, lb zs b = true ↔ (b < s ∧ sPos nb fr tt st nu b t m y.toInt) ∨ (b = s ∧ sPosTo fr tt st nu (s * 8) (s * 8 + i) (s * 8 + k) t m y.toInt)) → ∀ (ls : Array Slot), lv_has ls 8 [(0, .ref (am 0)), (1, .int t), (2, .int m), (3, .int y), (4, .long zs), (6, .int (nI s)), (7, .int (nI i))] → W pp l ee { frames := 2, cells := 0, slots := 0, locals := 46 } ss mm (List.toArray [Value.ref (am 0), Value.int t, Value.int m, Value.int y]) below meth cc0 ss.heap [] 0 0 Q (F0 mm 18 ls []) := by
          intro n9
          induction n9 with
          | zero => intro i zs hm9; exact absurd hm9 (Nat.not_lt_zero _)
          | succ n9 ih18 =>
            intro i zs hm18 hi hyi
            intro ls hl
            refine lv_iload hx hb dX12_possibly_18 (lv_at hl 6 rfl) ?_
            refine lv_aload_n hx hb dX12_possibly_20 rfl (lv_at hl 0 rfl) ?_
            refine va_get (D := (dC, dI)) (ci := 12) (v := .ref (am 15)) (C := RX12) (T := TX12) (N := 53) hx hb hts hiX12 hown hK hP 0 rfl rfl 14 (by decide) hL1 (fun _ h9 => h9) rfl dX12_possibly_21 ?_
            refine lv_iload hx hb dX12_possibly_24 (lv_at hl 5 rfl) ?_
            refine bw_iald hx hb hK hP 1 0 rfl rfl (j := s) (nI_toInt (by omega)) (by omega) dX12_possibly_26 ?_
            refine bw_re (show nb s = nI k from hk) ?_
            refine bw_icmp_ge (tgt := 91) (a := ((i : Nat) : Int)) (b := ((k : Nat) : Int)) hx hb dX12_possibly_27 (by decide) (nI_toInt (by omega)) (nI_toInt (by omega)) (fun c_2 => ?_) (fun c_2 => ?_)
            · skip
              refine lv_iinc (v := nI (s + 1)) (lv' := [(6, .int (nI (s + 1))), (0, .ref (am 0)), (1, .int t), (2, .int m), (3, .int y), (4, .long zs), (7, .int (nI i))]) hx hb dX12_possibly_91 hl (k := 5) rfl (show nI s + Int32.ofInt 1 = nI (s + 1) from nI_add s 1) (by decide) rfl (fun ls hl => ?_)
              refine lv_goto (tgt := 6) hx hb dX12_possibly_94 (by decide) ?_
              have hI_hys : ∀ b : Nat, lb zs b = true ↔ b < (s + 1) ∧ sPos nb fr tt st nu b t m y.toInt := by
                have e9 : i = k := by omega
                intro b
                rw [hyi b, e9]
                unfold sPos
                rw [← kn_nI hk hk8]
                constructor
                · rintro (q | ⟨q1, q2⟩)
                  · exact ⟨by omega, q.2⟩
                  · subst q1; exact ⟨by omega, q2⟩
                · rintro ⟨q1, q2⟩
                  by_cases e8 : b = s
                  · subst e8; exact Or.inr ⟨rfl, q2⟩
                  · exact Or.inl ⟨by omega, q2⟩
              exact ih6 (s + 1) zs (by omega) (by first | assumption | omega) hI_hys ls (lv_sub hl [1, 2, 3, 4, 5, 0] rfl)
            · skip
              refine lv_aload_n hx hb dX12_possibly_30 rfl (lv_at hl 0 rfl) ?_
              refine va_get (D := (dC, dI)) (ci := 12) (v := .ref (am 19)) (C := RX12) (T := TX12) (N := 53) hx hb hts hiX12 hown hK hP 0 rfl rfl 18 (by decide) hL2 (fun _ h9 => h9) rfl dX12_possibly_31 ?_
              refine lv_bipush (v := 8) hx hb dX12_possibly_34 (by decide) ?_
              refine lv_iload hx hb dX12_possibly_36 (lv_at hl 5 rfl) ?_
              refine lv_imul hx hb dX12_possibly_38 ?_
              refine bw_re (show 8 * (nI s) = nI (8 * s) from pk_mul (8) (s)) ?_
              refine lv_iload hx hb dX12_possibly_39 (lv_at hl 6 rfl) ?_
              refine lv_iadd hx hb dX12_possibly_41 ?_
              refine bw_re (show (nI (8 * s)) + (nI i) = nI (8 * s + i) from nI_add (8 * s) (i)) ?_
              refine bw_iald hx hb hK hP 5 0 rfl rfl (j := (s * 8 + i)) ((nI_toInt (by omega)).trans (by omega)) (by omega) dX12_possibly_42 ?_
              refine lv_iload_n hx hb dX12_possibly_43 rfl (lv_at hl 2 rfl) ?_
              refine bw_icmp_ne (tgt := 85) (a := (nu (s * 8 + i)).toInt) (b := m.toInt) hx hb dX12_possibly_44 (by decide) rfl rfl (fun c_3 => ?_) (fun c_3 => ?_)
              · skip
                refine lv_iinc (v := nI (i + 1)) (lv' := [(7, .int (nI (i + 1))), (0, .ref (am 0)), (1, .int t), (2, .int m), (3, .int y), (4, .long zs), (6, .int (nI s))]) hx hb dX12_possibly_85 hl (k := 6) rfl (show nI i + Int32.ofInt 1 = nI (i + 1) from nI_add i 1) (by decide) rfl (fun ls hl => ?_)
                refine lv_goto (tgt := 18) hx hb dX12_possibly_88 (by decide) ?_
                have hI_hyi : ∀ b : Nat, lb zs b = true ↔ (b < s ∧ sPos nb fr tt st nu b t m y.toInt) ∨ (b = s ∧ sPosTo fr tt st nu (s * 8) (s * 8 + (i + 1)) (s * 8 + k) t m y.toInt) := by
                  intro b
                  rw [show s * 8 + (i + 1) = s * 8 + i + 1 from rfl, sPosTo_s (by omega)]
                  first
                    | (have q9 : ¬ sHit st nu t m (s * 8 + i) := by unfold sHit; omega
                       rw [hyi b]
                       constructor
                       · rintro (q | ⟨q1, q2⟩)
                         · exact Or.inl q
                         · exact Or.inr ⟨q1, Or.inl q2⟩
                       · rintro (q | ⟨q1, q2 | q2⟩)
                         · exact Or.inl q
                         · exact Or.inr ⟨q1, q2⟩
                         · exact absurd q2.1 q9)
                    | (rw [hyi b]
                       constructor
                       · rintro (q | ⟨q1, q2⟩)
                         · exact Or.inl q
                         · exact Or.inr ⟨q1, Or.inl q2⟩
                       · rintro (q | ⟨q1, q2 | q2⟩)
                         · exact Or.inl q
                         · exact Or.inr ⟨q1, q2⟩
                         · exact absurd q2.2 c_h)
                    | (have q9 : sHit st nu t m (s * 8 + i) := by unfold sHit; omega
                       by_cases hb64 : b < 64
                       · rw [ewo, ewa, lb_or, Bool.or_eq_true, hyi b, lb_one_shl s (by omega) hb64, decide_eq_true_iff]
                         constructor
                         · rintro ((q | ⟨q1, q2⟩) | q)
                           · exact Or.inl q
                           · exact Or.inr ⟨q1, Or.inl q2⟩
                           · exact Or.inr ⟨q, Or.inr ⟨q9, c_h⟩⟩
                         · rintro (q | ⟨q1, q2⟩)
                           · exact Or.inl (Or.inl q)
                           · exact Or.inr q1
                       · rw [lb_big (by omega)]
                         constructor
                         · intro q; cases q
                         · rintro (q | q) <;> omega)
                exact ih18 (i + 1) zs (by omega) (by first | assumption | omega) hI_hyi ls (lv_sub hl [1, 2, 3, 4, 5, 6, 0] rfl)
              · skip
                refine lv_aload_n hx hb dX12_possibly_47 rfl (lv_at hl 0 rfl) ?_
                refine va_get (D := (dC, dI)) (ci := 12) (v := .ref (am 18)) (C := RX12) (T := TX12) (N := 53) hx hb hts hiX12 hown hK hP 0 rfl rfl 17 (by decide) hL3 (fun _ h9 => h9) rfl dX12_possibly_48 ?_
                refine lv_bipush (v := 8) hx hb dX12_possibly_51 (by decide) ?_
                refine lv_iload hx hb dX12_possibly_53 (lv_at hl 5 rfl) ?_
                refine lv_imul hx hb dX12_possibly_55 ?_
                refine bw_re (show 8 * (nI s) = nI (8 * s) from pk_mul (8) (s)) ?_
                refine lv_iload hx hb dX12_possibly_56 (lv_at hl 6 rfl) ?_
                refine lv_iadd hx hb dX12_possibly_58 ?_
                refine bw_re (show (nI (8 * s)) + (nI i) = nI (8 * s + i) from nI_add (8 * s) (i)) ?_
                refine bw_iald hx hb hK hP 4 0 rfl rfl (j := (s * 8 + i)) ((nI_toInt (by omega)).trans (by omega)) (by omega) dX12_possibly_59 ?_
                refine lv_iload_n hx hb dX12_possibly_60 rfl (lv_at hl 1 rfl) ?_
                refine bw_icmp_ne (tgt := 85) (a := (st (s * 8 + i)).toInt) (b := t.toInt) hx hb dX12_possibly_61 (by decide) rfl rfl (fun c_4 => ?_) (fun c_4 => ?_)
                · skip
                  refine lv_iinc (v := nI (i + 1)) (lv' := [(7, .int (nI (i + 1))), (0, .ref (am 0)), (1, .int t), (2, .int m), (3, .int y), (4, .long zs), (6, .int (nI s))]) hx hb dX12_possibly_85 hl (k := 6) rfl (show nI i + Int32.ofInt 1 = nI (i + 1) from nI_add i 1) (by decide) rfl (fun ls hl => ?_)
                  refine lv_goto (tgt := 18) hx hb dX12_possibly_88 (by decide) ?_
                  have hI_hyi : ∀ b : Nat, lb zs b = true ↔ (b < s ∧ sPos nb fr tt st nu b t m y.toInt) ∨ (b = s ∧ sPosTo fr tt st nu (s * 8) (s * 8 + (i + 1)) (s * 8 + k) t m y.toInt) := by
                    intro b
                    rw [show s * 8 + (i + 1) = s * 8 + i + 1 from rfl, sPosTo_s (by omega)]
                    first
                      | (have q9 : ¬ sHit st nu t m (s * 8 + i) := by unfold sHit; omega
                         rw [hyi b]
                         constructor
                         · rintro (q | ⟨q1, q2⟩)
                           · exact Or.inl q
                           · exact Or.inr ⟨q1, Or.inl q2⟩
                         · rintro (q | ⟨q1, q2 | q2⟩)
                           · exact Or.inl q
                           · exact Or.inr ⟨q1, q2⟩
                           · exact absurd q2.1 q9)
                      | (rw [hyi b]
                         constructor
                         · rintro (q | ⟨q1, q2⟩)
                           · exact Or.inl q
                           · exact Or.inr ⟨q1, Or.inl q2⟩
                         · rintro (q | ⟨q1, q2 | q2⟩)
                           · exact Or.inl q
                           · exact Or.inr ⟨q1, q2⟩
                           · exact absurd q2.2 c_h)
                      | (have q9 : sHit st nu t m (s * 8 + i) := by unfold sHit; omega
                         by_cases hb64 : b < 64
                         · rw [ewo, ewa, lb_or, Bool.or_eq_true, hyi b, lb_one_shl s (by omega) hb64, decide_eq_true_iff]
                           constructor
                           · rintro ((q | ⟨q1, q2⟩) | q)
                             · exact Or.inl q
                             · exact Or.inr ⟨q1, Or.inl q2⟩
                             · exact Or.inr ⟨q, Or.inr ⟨q9, c_h⟩⟩
                           · rintro (q | ⟨q1, q2⟩)
                             · exact Or.inl (Or.inl q)
                             · exact Or.inr q1
                         · rw [lb_big (by omega)]
                           constructor
                           · intro q; cases q
                           · rintro (q | q) <;> omega)
                  exact ih18 (i + 1) zs (by omega) (by first | assumption | omega) hI_hyi ls (lv_sub hl [1, 2, 3, 4, 5, 6, 0] rfl)
                · skip
                  refine lv_aload_n hx hb dX12_possibly_64 rfl (lv_at hl 0 rfl) ?_
                  refine lv_iload hx hb dX12_possibly_65 (lv_at hl 5 rfl) ?_
                  refine lv_iload hx hb dX12_possibly_67 (lv_at hl 6 rfl) ?_
                  refine lv_iload_n hx hb dX12_possibly_69 rfl (lv_at hl 3 rfl) ?_
                  have hPc : va_P (dC, dI) vwCl [(am 0, .inr (12, [.ref (am 1), .ref (am 2), .ref (am 3), .ref (am 4), .int (nI tn), .int (nI zsz), .int (nI zfr), .int (nI zbe), .int zha, .int zva, .int fk, .int fp, .ref (am 13), .int (nI sn), .ref (am 15), .ref (am 16), .ref (am 17), .ref (am 18), .ref (am 19), .int (nI pn), .int (nI qn), .ref (am 22), .ref (am 23), .ref (am 24), .ref (am 25), .ref (am 26), .ref (am 27), .ref (am 28), .ref (am 29), .ref (am 30), .ref (am 31), .ref (am 32), .ref (am 33), .ref (am 34), .int zss, .int zsy, .int zpy, .int zfs, .int zls, .int (nI an), .ref (am 41), .ref (am 42), .ref (am 43), .ref (am 44), .ref (am 45), .ref (am 46), .ref (am 47), .ref (am 48), .ref (am 49), .ref (am 50), .int (nI zw), .ref (am 52), .ref (am 53)])), (am 15, .inl (cy 0, 40, .inl nb)), (am 16, .inl (cy 0, 320, .inl fr)), (am 17, .inl (cy 0, 320, .inl tt))] ss.heap := hP.sub [0, 1, 2, 3] rfl
                  refine vp_callSi (va_Run.run (va_runV (As := [.int (nI s), .int (nI i), .int y]) (rest := []) ⟨hx, hb, hml, hown, hts⟩ (c_X12_mayHold l dC dI cy am tn zsz zfr zbe zha zva fk fp sn pn qn zss zsy zpy zfs zls an zw nb fr tt s i k y (by first | assumption | omega) (by first | assumption | omega) (by first | assumption | omega) (by first | assumption | omega)) (cwV 3 hts gX12_possibly_X12_mayHold rfl rfl rfl (by decide +kernel) ⟨Nat.le_of_ble_eq_true rfl, Nat.le_of_ble_eq_true rfl⟩) ⟨fun a U g mk q => by obtain ⟨q0, qP, qK⟩ := q; exact ⟨q0, qP, va_K.moved (u := U) (U := U.calling g mk a) (Vm.Alike.refl U.vm) qK⟩, va_recv hK hPc (ci := 12) (q0 := 0) rfl rfl, fun U hU hW => ⟨rfl, by rw [hU]; exact hPc, va_K.moved hW.alike hK⟩⟩ rfl rfl hl.1 rfl (lv_room (Nat.le_of_ble_eq_true rfl)) dX12_possibly_70 ⟨Nat.le_of_ble_eq_true rfl, Nat.le_of_ble_eq_true rfl⟩)) (fun r_5 hr_5 => ?_)
                  refine bw_ifeqP (tgt := 85) hx hb dX12_possibly_73 (by decide) hr_5 (fun c_h => ?_) (fun c_h => ?_)
                  · skip
                    refine lv_iinc (v := nI (i + 1)) (lv' := [(7, .int (nI (i + 1))), (0, .ref (am 0)), (1, .int t), (2, .int m), (3, .int y), (4, .long zs), (6, .int (nI s))]) hx hb dX12_possibly_85 hl (k := 6) rfl (show nI i + Int32.ofInt 1 = nI (i + 1) from nI_add i 1) (by decide) rfl (fun ls hl => ?_)
                    refine lv_goto (tgt := 18) hx hb dX12_possibly_88 (by decide) ?_
                    have hI_hyi : ∀ b : Nat, lb zs b = true ↔ (b < s ∧ sPos nb fr tt st nu b t m y.toInt) ∨ (b = s ∧ sPosTo fr tt st nu (s * 8) (s * 8 + (i + 1)) (s * 8 + k) t m y.toInt) := by
                      intro b
                      rw [show s * 8 + (i + 1) = s * 8 + i + 1 from rfl, sPosTo_s (by omega)]
                      first
                        | (have q9 : ¬ sHit st nu t m (s * 8 + i) := by unfold sHit; omega
                           rw [hyi b]
                           constructor
                           · rintro (q | ⟨q1, q2⟩)
                             · exact Or.inl q
                             · exact Or.inr ⟨q1, Or.inl q2⟩
                           · rintro (q | ⟨q1, q2 | q2⟩)
                             · exact Or.inl q
                             · exact Or.inr ⟨q1, q2⟩
                             · exact absurd q2.1 q9)
                        | (rw [hyi b]
                           constructor
                           · rintro (q | ⟨q1, q2⟩)
                             · exact Or.inl q
                             · exact Or.inr ⟨q1, Or.inl q2⟩
                           · rintro (q | ⟨q1, q2 | q2⟩)
                             · exact Or.inl q
                             · exact Or.inr ⟨q1, q2⟩
                             · exact absurd q2.2 c_h)
                        | (have q9 : sHit st nu t m (s * 8 + i) := by unfold sHit; omega
                           by_cases hb64 : b < 64
                           · rw [ewo, ewa, lb_or, Bool.or_eq_true, hyi b, lb_one_shl s (by omega) hb64, decide_eq_true_iff]
                             constructor
                             · rintro ((q | ⟨q1, q2⟩) | q)
                               · exact Or.inl q
                               · exact Or.inr ⟨q1, Or.inl q2⟩
                               · exact Or.inr ⟨q, Or.inr ⟨q9, c_h⟩⟩
                             · rintro (q | ⟨q1, q2⟩)
                               · exact Or.inl (Or.inl q)
                               · exact Or.inr q1
                           · rw [lb_big (by omega)]
                             constructor
                             · intro q; cases q
                             · rintro (q | q) <;> omega)
                    exact ih18 (i + 1) zs (by omega) (by first | assumption | omega) hI_hyi ls (lv_sub hl [1, 2, 3, 4, 5, 6, 0] rfl)
                  · skip
                    refine lv_lload hx hb dX12_possibly_76 (lv_at hl 4 rfl) ?_
                    refine lv_lconst (v := 1) hx hb dX12_possibly_78 (by decide) ?_
                    refine lv_iload hx hb dX12_possibly_79 (lv_at hl 5 rfl) ?_
                    refine lv_lshl hx hb dX12_possibly_81 rfl ?_
                    refine lv_topl (fun wa ewa => ?_)
                    refine lv_lor hx hb dX12_possibly_82 ?_
                    refine lv_topl (fun wo ewo => ?_)
                    refine lv_lstore (lv' := [(4, .long wo), (0, .ref (am 0)), (1, .int t), (2, .int m), (3, .int y), (6, .int (nI s)), (7, .int (nI i))]) hx hb dX12_possibly_83 hl (by decide) rfl (fun ls hl => ?_)
                    refine lv_iinc (v := nI (i + 1)) (lv' := [(7, .int (nI (i + 1))), (4, .long wo), (0, .ref (am 0)), (1, .int t), (2, .int m), (3, .int y), (6, .int (nI s))]) hx hb dX12_possibly_85 hl (k := 6) rfl (show nI i + Int32.ofInt 1 = nI (i + 1) from nI_add i 1) (by decide) rfl (fun ls hl => ?_)
                    refine lv_goto (tgt := 18) hx hb dX12_possibly_88 (by decide) ?_
                    have hI_hyi : ∀ b : Nat, lb wo b = true ↔ (b < s ∧ sPos nb fr tt st nu b t m y.toInt) ∨ (b = s ∧ sPosTo fr tt st nu (s * 8) (s * 8 + (i + 1)) (s * 8 + k) t m y.toInt) := by
                      intro b
                      rw [show s * 8 + (i + 1) = s * 8 + i + 1 from rfl, sPosTo_s (by omega)]
                      first
                        | (have q9 : ¬ sHit st nu t m (s * 8 + i) := by unfold sHit; omega
                           rw [hyi b]
                           constructor
                           · rintro (q | ⟨q1, q2⟩)
                             · exact Or.inl q
                             · exact Or.inr ⟨q1, Or.inl q2⟩
                           · rintro (q | ⟨q1, q2 | q2⟩)
                             · exact Or.inl q
                             · exact Or.inr ⟨q1, q2⟩
                             · exact absurd q2.1 q9)
                        | (rw [hyi b]
                           constructor
                           · rintro (q | ⟨q1, q2⟩)
                             · exact Or.inl q
                             · exact Or.inr ⟨q1, Or.inl q2⟩
                           · rintro (q | ⟨q1, q2 | q2⟩)
                             · exact Or.inl q
                             · exact Or.inr ⟨q1, q2⟩
                             · exact absurd q2.2 c_h)
                        | (have q9 : sHit st nu t m (s * 8 + i) := by unfold sHit; omega
                           by_cases hb64 : b < 64
                           · rw [ewo, ewa, lb_or, Bool.or_eq_true, hyi b, lb_one_shl s (by omega) hb64, decide_eq_true_iff]
                             constructor
                             · rintro ((q | ⟨q1, q2⟩) | q)
                               · exact Or.inl q
                               · exact Or.inr ⟨q1, Or.inl q2⟩
                               · exact Or.inr ⟨q, Or.inr ⟨q9, c_h⟩⟩
                             · rintro (q | ⟨q1, q2⟩)
                               · exact Or.inl (Or.inl q)
                               · exact Or.inr q1
                           · rw [lb_big (by omega)]
                             constructor
                             · intro q; cases q
                             · rintro (q | q) <;> omega)
                    exact ih18 (i + 1) wo (by omega) (by first | assumption | omega) hI_hyi ls (lv_sub hl [2, 3, 4, 5, 1, 6, 0] rfl)
        have hI_hyi : ∀ b : Nat, lb ys b = true ↔ (b < s ∧ sPos nb fr tt st nu b t m y.toInt) ∨ (b = s ∧ sPosTo fr tt st nu (s * 8) (s * 8 + 0) (s * 8 + k) t m y.toInt) := by
          intro b
          rw [hys b]
          exact ⟨fun q => Or.inl q, fun q => q.elim id (fun z => absurd z.2 sPosTo_0)⟩
        exact L_18 ((k - 0) + 1) 0 ys (by omega) (by first | assumption | omega) hI_hyi ls (lv_sub hl [1, 2, 3, 4, 5, 6, 0] rfl)
  have hI_hys : ∀ b : Nat, lb 0 b = true ↔ b < 0 ∧ sPos nb fr tt st nu b t m y.toInt := by
    intro b
    rw [lb_0]
    exact ⟨(fun q => by cases q), (fun q => absurd q.1 (Nat.not_lt_zero _))⟩
  exact L_6 ((sn - 0) + 1) 0 0 (by omega) (by first | assumption | omega) hI_hys ls (lv_sub hl [2, 3, 4, 5, 1, 0] rfl)

set_option maxHeartbeats 4000000 in
set_option maxRecDepth 100000 in
theorem c_X12_surelyIs (l : Launch) (dC : Nat → ClassId) (dI : Nat → Nat → Nat) (cy : Nat → ClassId) (am : Nat → Nat) (tn : Nat) (zsz : Nat) (zfr : Nat) (zbe : Nat) (zha : Int32) (zva : Int32) (fk : Int32) (fp : Int32) (sn : Nat) (pn : Nat) (qn : Nat) (zss : Int32) (zsy : Int32) (zpy : Int32) (zfs : Int32) (zls : Int32) (an : Nat) (zw : Nat) (nb : Nat → Int32) (fr : Nat → Int32) (tt : Nat → Int32) (st : Nat → Int32) (nu : Nat → Int32) (t : Int32) (m : Int32) (y : Int32) (hall : sOK nb fr tt sn) : Met l yX12_surelyIs wsX12_surelyIs ({ frames := 3, cells := 0, slots := 0, locals := 73 }) (va_Pc [.ref (am 0), .int t, .int m, .int y] (fun U => va_P (dC, dI) vwCl [(am 0, .inr (12, [.ref (am 1), .ref (am 2), .ref (am 3), .ref (am 4), .int (nI tn), .int (nI zsz), .int (nI zfr), .int (nI zbe), .int zha, .int zva, .int fk, .int fp, .ref (am 13), .int (nI sn), .ref (am 15), .ref (am 16), .ref (am 17), .ref (am 18), .ref (am 19), .int (nI pn), .int (nI qn), .ref (am 22), .ref (am 23), .ref (am 24), .ref (am 25), .ref (am 26), .ref (am 27), .ref (am 28), .ref (am 29), .ref (am 30), .ref (am 31), .ref (am 32), .ref (am 33), .ref (am 34), .int zss, .int zsy, .int zpy, .int zfs, .int zls, .int (nI an), .ref (am 41), .ref (am 42), .ref (am 43), .ref (am 44), .ref (am 45), .ref (am 46), .ref (am 47), .ref (am 48), .ref (am 49), .ref (am 50), .int (nI zw), .ref (am 52), .ref (am 53)])), (am 15, .inl (cy 0, 40, .inl nb)), (am 16, .inl (cy 0, 320, .inl fr)), (am 17, .inl (cy 0, 320, .inl tt)), (am 18, .inl (cy 0, 320, .inl st)), (am 19, .inl (cy 0, 320, .inl nu))] U.heap ∧ va_K (dC, dI) vwCl (tyL cy) U)) (vp_Si (fun r => ((∃ s9, s9 < sn ∧ r = nI s9 ∧ sOnly nb fr tt st nu sn s9 t m y.toInt) ∨ (r = -1 ∧ ∀ s9, s9 < sn → ¬ sOnly nb fr tt st nu sn s9 t m y.toInt)))) 0 0 (fun _ => False) := by
  refine Met.ofW (cc := cX12_surelyIs) (maxL := 8) (ret := (some .int)) (by decide) rfl ?_
  intro pp ee ss mm args below meth cc0 s₁ B hml hv
  obtain ⟨rfl, hP, hK⟩ := hv
  have hx := B.exec
  have hb := B.bytes
  have hr := B.returns
  have hts := atoms_spec (ws := wsX12_surelyIs) B.pre
  have hown : ss.vm.findClass RX12 = some mm.cls := findClass_of_methodNamed B.named
  have hlocks := B.notSynchronized
  have hL0 := hts (.fieldLink RX12 130 "HereLivedModel" "changes" "[I") (by decide +kernel)
  have hL1 := hts (.fieldLink RX12 142 "HereLivedModel" "number" "[I") (by decide +kernel)
  have hL2 := hts (.fieldLink RX12 139 "HereLivedModel" "street" "[I") (by decide +kernel)
  have hiX12 : ∀ w ∈ wsX120, w ∈ wsX12_surelyIs := by decide +kernel
  have hl := lv_entry ([.ref (am 0), .int t, .int m, .int y]) (n := 8) (Nat.le_of_ble_eq_true rfl)
  rw [lg_entry_eq]
  generalize (lg_sl ([.ref (am 0), .int t, .int m, .int y]) ++ List.replicate (8 - (lg_sl ([.ref (am 0), .int t, .int m, .int y])).length) Slot.unset).toArray = ls at hl ⊢
  have hl : lv_has ls 8 [(0, .ref (am 0)), (1, .int t), (2, .int m), (3, .int y)] := hl
  refine bw_Q (fun Q hQ => ?_)
  change W pp l ee { frames := 3, cells := 0, slots := 0, locals := 73 } ss mm _ below meth cc0 ss.heap [] 0 0 Q (F0 mm 0 ls [])
  have h40 := hall.1
  refine lv_aload_n hx hb dX12_surelyIs_0 rfl (lv_at hl 0 rfl) ?_
  refine lv_iload_n hx hb dX12_surelyIs_1 rfl (lv_at hl 1 rfl) ?_
  refine lv_iload_n hx hb dX12_surelyIs_2 rfl (lv_at hl 2 rfl) ?_
  refine lv_iload_n hx hb dX12_surelyIs_3 rfl (lv_at hl 3 rfl) ?_
  have hPc : va_P (dC, dI) vwCl [(am 0, .inr (12, [.ref (am 1), .ref (am 2), .ref (am 3), .ref (am 4), .int (nI tn), .int (nI zsz), .int (nI zfr), .int (nI zbe), .int zha, .int zva, .int fk, .int fp, .ref (am 13), .int (nI sn), .ref (am 15), .ref (am 16), .ref (am 17), .ref (am 18), .ref (am 19), .int (nI pn), .int (nI qn), .ref (am 22), .ref (am 23), .ref (am 24), .ref (am 25), .ref (am 26), .ref (am 27), .ref (am 28), .ref (am 29), .ref (am 30), .ref (am 31), .ref (am 32), .ref (am 33), .ref (am 34), .int zss, .int zsy, .int zpy, .int zfs, .int zls, .int (nI an), .ref (am 41), .ref (am 42), .ref (am 43), .ref (am 44), .ref (am 45), .ref (am 46), .ref (am 47), .ref (am 48), .ref (am 49), .ref (am 50), .int (nI zw), .ref (am 52), .ref (am 53)])), (am 15, .inl (cy 0, 40, .inl nb)), (am 16, .inl (cy 0, 320, .inl fr)), (am 17, .inl (cy 0, 320, .inl tt)), (am 18, .inl (cy 0, 320, .inl st)), (am 19, .inl (cy 0, 320, .inl nu))] ss.heap := hP.sub [0, 1, 2, 3, 4, 5] rfl
  refine vp_callSl (va_Run.run (va_runV (As := [.int t, .int m, .int y]) (rest := []) ⟨hx, hb, hml, hown, hts⟩ (c_X12_possibly l dC dI cy am tn zsz zfr zbe zha zva fk fp sn pn qn zss zsy zpy zfs zls an zw nb fr tt st nu t m y (by first | assumption | omega)) (cwV 3 hts gX12_surelyIs_X12_possibly rfl rfl rfl (by decide +kernel) ⟨Nat.le_of_ble_eq_true rfl, Nat.le_of_ble_eq_true rfl⟩) ⟨fun a U g mk q => by obtain ⟨q0, qP, qK⟩ := q; exact ⟨q0, qP, va_K.moved (u := U) (U := U.calling g mk a) (Vm.Alike.refl U.vm) qK⟩, va_recv hK hPc (ci := 12) (q0 := 0) rfl rfl, fun U hU hW => ⟨rfl, by rw [hU]; exact hPc, va_K.moved hW.alike hK⟩⟩ rfl rfl hl.1 rfl (lv_room (Nat.le_of_ble_eq_true rfl)) dX12_surelyIs_4 ⟨Nat.le_of_ble_eq_true rfl, Nat.le_of_ble_eq_true rfl⟩)) (fun rm_ hrm_ => ?_)
  refine lv_lstore (lv' := [(4, .long rm_), (0, .ref (am 0)), (1, .int t), (2, .int m), (3, .int y)]) hx hb dX12_surelyIs_7 hl (by decide) rfl (fun ls hl => ?_)
  refine lv_lload hx hb dX12_surelyIs_9 (lv_at hl 0 rfl) ?_
  refine lv_lconst (v := 0) hx hb dX12_surelyIs_11 (by decide) ?_
  refine bw_lcmpE hx hb dX12_surelyIs_12 (fun zq tzq => ?_)
  refine bw_if_eq (tgt := 28) (a := zq.toInt) hx hb dX12_surelyIs_13 (by decide) rfl (fun c_z => ?_) (fun c_z => ?_)
  · skip
    refine lv_iconst (v := (-1)) hx hb dX12_surelyIs_28 (by decide) ?_
    subst hQ
    have hpost : ((∃ s9, s9 < sn ∧ ((-1) : Int32) = nI s9 ∧ sOnly nb fr tt st nu sn s9 t m y.toInt) ∨ (((-1) : Int32) = -1 ∧ ∀ s9, s9 < sn → ¬ sOnly nb fr tt st nu sn s9 t m y.toInt)) := by
      exact Or.inr ⟨rfl, fun s9 h1 h2 => by
          have q1 := (hrm_ s9).mpr ⟨h1, sSu1_pos hall h1 h2.1⟩
          rw [tzq.mp c_z, lb_0] at q1
          cases q1⟩
    exact W.iret (v := (-1)) hx hb hr (fun t9 ht hW => ⟨_, rfl, hpost, by rw [ht]⟩) (fun q h => by cases h) dX12_surelyIs_29
  · skip
    refine lv_lload hx hb dX12_surelyIs_16 (lv_at hl 0 rfl) ?_
    refine lv_lload hx hb dX12_surelyIs_18 (lv_at hl 0 rfl) ?_
    refine lv_lconst (v := 1) hx hb dX12_surelyIs_20 (by decide) ?_
    refine lv_lsub hx hb dX12_surelyIs_21 ?_
    refine lv_topl (fun w1 ew1 => ?_)
    refine lv_land hx hb dX12_surelyIs_22 ?_
    refine lv_topl (fun w2 ew2 => ?_)
    refine lv_lconst (v := 0) hx hb dX12_surelyIs_23 (by decide) ?_
    refine bw_lcmpE hx hb dX12_surelyIs_24 (fun zr tzr => ?_)
    refine bw_if_eq (tgt := 30) (a := zr.toInt) hx hb dX12_surelyIs_25 (by decide) rfl (fun c_r => ?_) (fun c_r => ?_)
    · skip
      obtain ⟨s0, hs64, hst, hone⟩ := one_bit (x := rm_) (fun q => c_z (tzq.mpr q)) (by rw [← ew1, ← ew2]; exact tzr.mp c_r)
      have hs0 := (hrm_ s0).mp hst
      have hoth : ∀ o, o < sn → o ≠ s0 → ¬ sPos nb fr tt st nu o t m y.toInt := fun o h1 h2 h3 => h2 (hone o ((hrm_ o).mpr ⟨h1, h3⟩))
      obtain ⟨k, hk, hk1, hk8, hok⟩ := hall.2.2 s0 hs0.1
      have hkn := kn_nI hk hk8
      refine lv_iconst (v := 0) hx hb dX12_surelyIs_30 (by decide) ?_
      refine lv_istore (lv' := [(6, .int 0), (4, .long rm_), (0, .ref (am 0)), (1, .int t), (2, .int m), (3, .int y)]) hx hb dX12_surelyIs_31 hl (by decide) rfl (fun ls hl => ?_)
      have L_33 : ∀ (n9 : Nat), ∀ (s : Nat), (s0 - s) < n9 → (s ≤ s0) → ∀ (ls : Array Slot), lv_has ls 8 [(0, .ref (am 0)), (1, .int t), (2, .int m), (3, .int y), (4, .long rm_), (6, .int (nI s))] → W pp l ee { frames := 3, cells := 0, slots := 0, locals := 73 } ss mm (List.toArray [Value.ref (am 0), Value.int t, Value.int m, Value.int y]) below meth cc0 ss.heap [] 0 0 Q (F0 mm 33 ls []) := by
        intro n9
        induction n9 with
        | zero => intro s hm9; exact absurd hm9 (Nat.not_lt_zero _)
        | succ n9 ih33 =>
          intro s hm33 hs
          intro ls hl
          refine lv_lload hx hb dX12_surelyIs_33 (lv_at hl 4 rfl) ?_
          refine lv_iload hx hb dX12_surelyIs_35 (lv_at hl 5 rfl) ?_
          refine lv_lshr hx hb dX12_surelyIs_37 rfl ?_
          refine lv_topl (fun w3 ew3 => ?_)
          refine lv_lconst (v := 1) hx hb dX12_surelyIs_38 (by decide) ?_
          refine lv_land hx hb dX12_surelyIs_39 ?_
          refine lv_topl (fun w4 ew4 => ?_)
          refine lv_lconst (v := 0) hx hb dX12_surelyIs_40 (by decide) ?_
          refine bw_lcmpE hx hb dX12_surelyIs_41 (fun zs tzs => ?_)
          refine bw_if_ne (tgt := 51) (a := zs.toInt) hx hb dX12_surelyIs_42 (by decide) rfl (fun c_s => ?_) (fun c_s => ?_)
          · skip
            have q5 : ¬ lb rm_ s = false := fun q => c_s (tzs.mpr (by rw [ew4, ew3]; exact (lb_at0 rm_ (by omega)).mpr q))
            have q6 : s = s0 := hone s (by cases hq : lb rm_ s with | false => exact absurd hq q5 | true => rfl)
            subst q6
            refine lv_iconst (v := 0) hx hb dX12_surelyIs_51 (by decide) ?_
            refine lv_istore (lv' := [(7, .int 0), (0, .ref (am 0)), (1, .int t), (2, .int m), (3, .int y), (4, .long rm_), (6, .int (nI s))]) hx hb dX12_surelyIs_52 hl (by decide) rfl (fun ls hl => ?_)
            have L_54 : ∀ (n9 : Nat), ∀ (i : Nat), (k - i) < n9 → (i ≤ k) → (¬ sSurTo fr tt st nu (s * 8) (s * 8 + i) (s * 8 + k) t m y.toInt) → ∀ (ls : Array Slot), lv_has ls 8 [(0, .ref (am 0)), (1, .int t), (2, .int m), (3, .int y), (6, .int (nI s)), (7, .int (nI i))] → W pp l ee { frames := 3, cells := 0, slots := 0, locals := 73 } ss mm (List.toArray [Value.ref (am 0), Value.int t, Value.int m, Value.int y]) below meth cc0 ss.heap [] 0 0 Q (F0 mm 54 ls []) := by
              intro n9
              induction n9 with
              | zero => intro i hm9; exact absurd hm9 (Nat.not_lt_zero _)
              | succ n9 ih54 =>
                intro i hm54 hi hyi
                intro ls hl
                refine lv_iload hx hb dX12_surelyIs_54 (lv_at hl 5 rfl) ?_
                refine lv_aload_n hx hb dX12_surelyIs_56 rfl (lv_at hl 0 rfl) ?_
                refine va_get (D := (dC, dI)) (ci := 12) (v := .ref (am 15)) (C := RX12) (T := TX12) (N := 53) hx hb hts hiX12 hown hK hP 0 rfl rfl 14 (by decide) hL0 (fun _ h9 => h9) rfl dX12_surelyIs_57 ?_
                refine lv_iload hx hb dX12_surelyIs_60 (lv_at hl 4 rfl) ?_
                refine bw_iald hx hb hK hP 1 0 rfl rfl (j := s) (nI_toInt (by omega)) (by omega) dX12_surelyIs_62 ?_
                refine bw_re (show nb s = nI k from hk) ?_
                refine bw_icmp_ge (tgt := 121) (a := ((i : Nat) : Int)) (b := ((k : Nat) : Int)) hx hb dX12_surelyIs_63 (by decide) (nI_toInt (by omega)) (nI_toInt (by omega)) (fun c_1 => ?_) (fun c_1 => ?_)
                · skip
                  refine lv_iconst (v := (-1)) hx hb dX12_surelyIs_121 (by decide) ?_
                  subst hQ
                  have hpost : ((∃ s9, s9 < sn ∧ ((-1) : Int32) = nI s9 ∧ sOnly nb fr tt st nu sn s9 t m y.toInt) ∨ (((-1) : Int32) = -1 ∧ ∀ s9, s9 < sn → ¬ sOnly nb fr tt st nu sn s9 t m y.toInt)) := by
                    have e9 : i = k := by omega
                    refine Or.inr ⟨rfl, fun s9 z1 z2 => ?_⟩
                    have e8 : s9 = s := Classical.byContradiction fun q => hoth s9 z1 q (sSu1_pos hall z1 z2.1)
                    have z3 := z2.1
                    rw [e8] at z3
                    unfold sSu1 at z3
                    rw [hkn] at z3
                    rw [e9] at hyi
                    exact hyi z3
                  exact W.iret (v := (-1)) hx hb hr (fun t9 ht hW => ⟨_, rfl, hpost, by rw [ht]⟩) (fun q h => by cases h) dX12_surelyIs_122
                · skip
                  refine lv_aload_n hx hb dX12_surelyIs_66 rfl (lv_at hl 0 rfl) ?_
                  refine va_get (D := (dC, dI)) (ci := 12) (v := .ref (am 19)) (C := RX12) (T := TX12) (N := 53) hx hb hts hiX12 hown hK hP 0 rfl rfl 18 (by decide) hL1 (fun _ h9 => h9) rfl dX12_surelyIs_67 ?_
                  refine lv_bipush (v := 8) hx hb dX12_surelyIs_70 (by decide) ?_
                  refine lv_iload hx hb dX12_surelyIs_72 (lv_at hl 4 rfl) ?_
                  refine lv_imul hx hb dX12_surelyIs_74 ?_
                  refine bw_re (show 8 * (nI s) = nI (8 * s) from pk_mul (8) (s)) ?_
                  refine lv_iload hx hb dX12_surelyIs_75 (lv_at hl 5 rfl) ?_
                  refine lv_iadd hx hb dX12_surelyIs_77 ?_
                  refine bw_re (show (nI (8 * s)) + (nI i) = nI (8 * s + i) from nI_add (8 * s) (i)) ?_
                  refine bw_iald hx hb hK hP 5 0 rfl rfl (j := (s * 8 + i)) ((nI_toInt (by omega)).trans (by omega)) (by omega) dX12_surelyIs_78 ?_
                  refine lv_iload_n hx hb dX12_surelyIs_79 rfl (lv_at hl 2 rfl) ?_
                  refine bw_icmp_ne (tgt := 115) (a := (nu (s * 8 + i)).toInt) (b := m.toInt) hx hb dX12_surelyIs_80 (by decide) rfl rfl (fun c_2 => ?_) (fun c_2 => ?_)
                  · skip
                    refine lv_iinc (v := nI (i + 1)) (lv' := [(7, .int (nI (i + 1))), (0, .ref (am 0)), (1, .int t), (2, .int m), (3, .int y), (6, .int (nI s))]) hx hb dX12_surelyIs_115 hl (k := 5) rfl (show nI i + Int32.ofInt 1 = nI (i + 1) from nI_add i 1) (by decide) rfl (fun ls hl => ?_)
                    refine lv_goto (tgt := 54) hx hb dX12_surelyIs_118 (by decide) ?_
                    have hI_hyi : ¬ sSurTo fr tt st nu (s * 8) (s * 8 + (i + 1)) (s * 8 + k) t m y.toInt := by
                      rw [show s * 8 + (i + 1) = s * 8 + i + 1 from rfl, sSurTo_s (by omega)]
                      rintro (q | ⟨q1, q2⟩)
                      · exact hyi q
                      · first
                          | exact c_h q2
                          | (unfold sHit at q1; omega)
                    exact ih54 (i + 1) (by omega) (by first | assumption | omega) hI_hyi ls (lv_sub hl [1, 2, 3, 4, 5, 0] rfl)
                  · skip
                    refine lv_aload_n hx hb dX12_surelyIs_83 rfl (lv_at hl 0 rfl) ?_
                    refine va_get (D := (dC, dI)) (ci := 12) (v := .ref (am 18)) (C := RX12) (T := TX12) (N := 53) hx hb hts hiX12 hown hK hP 0 rfl rfl 17 (by decide) hL2 (fun _ h9 => h9) rfl dX12_surelyIs_84 ?_
                    refine lv_bipush (v := 8) hx hb dX12_surelyIs_87 (by decide) ?_
                    refine lv_iload hx hb dX12_surelyIs_89 (lv_at hl 4 rfl) ?_
                    refine lv_imul hx hb dX12_surelyIs_91 ?_
                    refine bw_re (show 8 * (nI s) = nI (8 * s) from pk_mul (8) (s)) ?_
                    refine lv_iload hx hb dX12_surelyIs_92 (lv_at hl 5 rfl) ?_
                    refine lv_iadd hx hb dX12_surelyIs_94 ?_
                    refine bw_re (show (nI (8 * s)) + (nI i) = nI (8 * s + i) from nI_add (8 * s) (i)) ?_
                    refine bw_iald hx hb hK hP 4 0 rfl rfl (j := (s * 8 + i)) ((nI_toInt (by omega)).trans (by omega)) (by omega) dX12_surelyIs_95 ?_
                    refine lv_iload_n hx hb dX12_surelyIs_96 rfl (lv_at hl 1 rfl) ?_
                    refine bw_icmp_ne (tgt := 115) (a := (st (s * 8 + i)).toInt) (b := t.toInt) hx hb dX12_surelyIs_97 (by decide) rfl rfl (fun c_3 => ?_) (fun c_3 => ?_)
                    · skip
                      refine lv_iinc (v := nI (i + 1)) (lv' := [(7, .int (nI (i + 1))), (0, .ref (am 0)), (1, .int t), (2, .int m), (3, .int y), (6, .int (nI s))]) hx hb dX12_surelyIs_115 hl (k := 5) rfl (show nI i + Int32.ofInt 1 = nI (i + 1) from nI_add i 1) (by decide) rfl (fun ls hl => ?_)
                      refine lv_goto (tgt := 54) hx hb dX12_surelyIs_118 (by decide) ?_
                      have hI_hyi : ¬ sSurTo fr tt st nu (s * 8) (s * 8 + (i + 1)) (s * 8 + k) t m y.toInt := by
                        rw [show s * 8 + (i + 1) = s * 8 + i + 1 from rfl, sSurTo_s (by omega)]
                        rintro (q | ⟨q1, q2⟩)
                        · exact hyi q
                        · first
                            | exact c_h q2
                            | (unfold sHit at q1; omega)
                      exact ih54 (i + 1) (by omega) (by first | assumption | omega) hI_hyi ls (lv_sub hl [1, 2, 3, 4, 5, 0] rfl)
                    · skip
                      refine lv_aload_n hx hb dX12_surelyIs_100 rfl (lv_at hl 0 rfl) ?_
                      refine lv_iload hx hb dX12_surelyIs_101 (lv_at hl 4 rfl) ?_
                      refine lv_iload hx hb dX12_surelyIs_103 (lv_at hl 5 rfl) ?_
                      refine lv_iload_n hx hb dX12_surelyIs_105 rfl (lv_at hl 3 rfl) ?_
                      have hPc : va_P (dC, dI) vwCl [(am 0, .inr (12, [.ref (am 1), .ref (am 2), .ref (am 3), .ref (am 4), .int (nI tn), .int (nI zsz), .int (nI zfr), .int (nI zbe), .int zha, .int zva, .int fk, .int fp, .ref (am 13), .int (nI sn), .ref (am 15), .ref (am 16), .ref (am 17), .ref (am 18), .ref (am 19), .int (nI pn), .int (nI qn), .ref (am 22), .ref (am 23), .ref (am 24), .ref (am 25), .ref (am 26), .ref (am 27), .ref (am 28), .ref (am 29), .ref (am 30), .ref (am 31), .ref (am 32), .ref (am 33), .ref (am 34), .int zss, .int zsy, .int zpy, .int zfs, .int zls, .int (nI an), .ref (am 41), .ref (am 42), .ref (am 43), .ref (am 44), .ref (am 45), .ref (am 46), .ref (am 47), .ref (am 48), .ref (am 49), .ref (am 50), .int (nI zw), .ref (am 52), .ref (am 53)])), (am 15, .inl (cy 0, 40, .inl nb)), (am 16, .inl (cy 0, 320, .inl fr)), (am 17, .inl (cy 0, 320, .inl tt))] ss.heap := hP.sub [0, 1, 2, 3] rfl
                      refine vp_callSi (va_Run.run (va_runV (As := [.int (nI s), .int (nI i), .int y]) (rest := []) ⟨hx, hb, hml, hown, hts⟩ (c_X12_surelyHolds l dC dI cy am tn zsz zfr zbe zha zva fk fp sn pn qn zss zsy zpy zfs zls an zw nb fr tt s i k y (by first | assumption | omega) (by first | assumption | omega) (by first | assumption | omega) (by first | assumption | omega)) (cwV 3 hts gX12_surelyIs_X12_surelyHolds rfl rfl rfl (by decide +kernel) ⟨Nat.le_of_ble_eq_true rfl, Nat.le_of_ble_eq_true rfl⟩) ⟨fun a U g mk q => by obtain ⟨q0, qP, qK⟩ := q; exact ⟨q0, qP, va_K.moved (u := U) (U := U.calling g mk a) (Vm.Alike.refl U.vm) qK⟩, va_recv hK hPc (ci := 12) (q0 := 0) rfl rfl, fun U hU hW => ⟨rfl, by rw [hU]; exact hPc, va_K.moved hW.alike hK⟩⟩ rfl rfl hl.1 rfl (lv_room (Nat.le_of_ble_eq_true rfl)) dX12_surelyIs_106 ⟨Nat.le_of_ble_eq_true rfl, Nat.le_of_ble_eq_true rfl⟩)) (fun r_4 hr_4 => ?_)
                      refine bw_ifeqP (tgt := 115) hx hb dX12_surelyIs_109 (by decide) hr_4 (fun c_h => ?_) (fun c_h => ?_)
                      · skip
                        refine lv_iinc (v := nI (i + 1)) (lv' := [(7, .int (nI (i + 1))), (0, .ref (am 0)), (1, .int t), (2, .int m), (3, .int y), (6, .int (nI s))]) hx hb dX12_surelyIs_115 hl (k := 5) rfl (show nI i + Int32.ofInt 1 = nI (i + 1) from nI_add i 1) (by decide) rfl (fun ls hl => ?_)
                        refine lv_goto (tgt := 54) hx hb dX12_surelyIs_118 (by decide) ?_
                        have hI_hyi : ¬ sSurTo fr tt st nu (s * 8) (s * 8 + (i + 1)) (s * 8 + k) t m y.toInt := by
                          rw [show s * 8 + (i + 1) = s * 8 + i + 1 from rfl, sSurTo_s (by omega)]
                          rintro (q | ⟨q1, q2⟩)
                          · exact hyi q
                          · first
                              | exact c_h q2
                              | (unfold sHit at q1; omega)
                        exact ih54 (i + 1) (by omega) (by first | assumption | omega) hI_hyi ls (lv_sub hl [1, 2, 3, 4, 5, 0] rfl)
                      · skip
                        refine lv_iload hx hb dX12_surelyIs_112 (lv_at hl 4 rfl) ?_
                        subst hQ
                        have hpost : ((∃ s9, s9 < sn ∧ (nI s) = nI s9 ∧ sOnly nb fr tt st nu sn s9 t m y.toInt) ∨ ((nI s) = -1 ∧ ∀ s9, s9 < sn → ¬ sOnly nb fr tt st nu sn s9 t m y.toInt)) := by
                          have q9 : sHit st nu t m (s * 8 + i) := by unfold sHit; omega
                          refine Or.inl ⟨s, hs0.1, rfl, ?_, hoth⟩
                          unfold sSu1
                          rw [hkn]
                          exact ⟨s * 8 + i, by omega, by omega, q9, c_h⟩
                        exact W.iret (v := nI s) hx hb hr (fun t9 ht hW => ⟨_, rfl, hpost, by rw [ht]⟩) (fun q h => by cases h) dX12_surelyIs_114
            have hI_hyi : ¬ sSurTo fr tt st nu (s * 8) (s * 8 + 0) (s * 8 + k) t m y.toInt := by
              exact sSurTo_0
            exact L_54 ((k - 0) + 1) 0 (by omega) (by first | assumption | omega) hI_hyi ls (lv_sub hl [1, 2, 3, 4, 6, 0] rfl)
          · skip
            have q5 : lb rm_ s = false := (lb_at0 rm_ (by omega)).mp (by rw [← ew3, ← ew4]; exact tzs.mp c_s)
            have q6 : s ≠ s0 := fun q => by rw [q, hst] at q5; cases q5
            refine lv_iinc (v := nI (s + 1)) (lv' := [(6, .int (nI (s + 1))), (0, .ref (am 0)), (1, .int t), (2, .int m), (3, .int y), (4, .long rm_)]) hx hb dX12_surelyIs_45 hl (k := 5) rfl (show nI s + Int32.ofInt 1 = nI (s + 1) from nI_add s 1) (by decide) rfl (fun ls hl => ?_)
            refine lv_goto (tgt := 33) hx hb dX12_surelyIs_48 (by decide) ?_
            exact ih33 (s + 1) (by omega) (by first | assumption | omega) ls (lv_sub hl [1, 2, 3, 4, 5, 0] rfl)
      exact L_33 ((s0 - 0) + 1) 0 (by omega) (by first | assumption | omega) ls (lv_sub hl [2, 3, 4, 5, 1, 0] rfl)
    · skip
      refine lv_iconst (v := (-1)) hx hb dX12_surelyIs_28 (by decide) ?_
      subst hQ
      have hpost : ((∃ s9, s9 < sn ∧ ((-1) : Int32) = nI s9 ∧ sOnly nb fr tt st nu sn s9 t m y.toInt) ∨ (((-1) : Int32) = -1 ∧ ∀ s9, s9 < sn → ¬ sOnly nb fr tt st nu sn s9 t m y.toInt)) := by
        have q0 : rm_ &&& (rm_ - 1) ≠ 0 := fun q => c_r (tzr.mpr (by rw [ew2, ew1]; exact q))
        obtain ⟨a1, a2, h1, h2, h3⟩ := two_bits q0
        have g1 := (hrm_ a1).mp h1
        have g2 := (hrm_ a2).mp h2
        refine Or.inr ⟨rfl, fun s9 z1 z2 => ?_⟩
        by_cases e1 : a1 = s9
        · exact z2.2 a2 g2.1 (fun e => h3 (e.trans e1.symm)) g2.2
        · exact z2.2 a1 g1.1 e1 g1.2
      exact W.iret (v := (-1)) hx hb hr (fun t9 ht hW => ⟨_, rfl, hpost, by rw [ht]⟩) (fun q h => by cases h) dX12_surelyIs_29

set_option maxHeartbeats 4000000 in
set_option maxRecDepth 100000 in
theorem c_X12_possible (l : Launch) (dC : Nat → ClassId) (dI : Nat → Nat → Nat) (cy : Nat → ClassId) (am : Nat → Nat) (tn : Nat) (zsz : Nat) (zfr : Nat) (zbe : Nat) (zha : Int32) (zva : Int32) (fk : Int32) (fp : Int32) (sn : Nat) (pn : Nat) (qn : Nat) (zss : Int32) (zsy : Int32) (zpy : Int32) (zfs : Int32) (zls : Int32) (an : Nat) (zw : Nat) (nb : Nat → Int32) (fr : Nat → Int32) (tt : Nat → Int32) (st : Nat → Int32) (nu : Nat → Int32) (t : Int32) (m : Int32) (y : Int32) (hall : sOK nb fr tt sn) : Met l yX12_possible wsX12_possible ({ frames := 3, cells := 0, slots := 0, locals := 73 }) (va_Pc [.ref (am 0), .int t, .int m, .int y] (fun U => va_P (dC, dI) vwCl [(am 0, .inr (12, [.ref (am 1), .ref (am 2), .ref (am 3), .ref (am 4), .int (nI tn), .int (nI zsz), .int (nI zfr), .int (nI zbe), .int zha, .int zva, .int fk, .int fp, .ref (am 13), .int (nI sn), .ref (am 15), .ref (am 16), .ref (am 17), .ref (am 18), .ref (am 19), .int (nI pn), .int (nI qn), .ref (am 22), .ref (am 23), .ref (am 24), .ref (am 25), .ref (am 26), .ref (am 27), .ref (am 28), .ref (am 29), .ref (am 30), .ref (am 31), .ref (am 32), .ref (am 33), .ref (am 34), .int zss, .int zsy, .int zpy, .int zfs, .int zls, .int (nI an), .ref (am 41), .ref (am 42), .ref (am 43), .ref (am 44), .ref (am 45), .ref (am 46), .ref (am 47), .ref (am 48), .ref (am 49), .ref (am 50), .int (nI zw), .ref (am 52), .ref (am 53)])), (am 15, .inl (cy 0, 40, .inl nb)), (am 16, .inl (cy 0, 320, .inl fr)), (am 17, .inl (cy 0, 320, .inl tt)), (am 18, .inl (cy 0, 320, .inl st)), (am 19, .inl (cy 0, 320, .inl nu))] U.heap ∧ va_K (dC, dI) vwCl (tyL cy) U)) (vp_Sl (fun r => (((0 ≤ t.toInt ∧ t.toInt ≤ 9 ∧ 1 ≤ m.toInt ∧ m.toInt ≤ 999) ∧ (1500 ≤ y.toInt ∧ y.toInt ≤ 2100)) → ∀ b : Nat, lb r b = true ↔ b < sn ∧ sPos nb fr tt st nu b t m y.toInt) ∧ (¬ ((0 ≤ t.toInt ∧ t.toInt ≤ 9 ∧ 1 ≤ m.toInt ∧ m.toInt ≤ 999) ∧ (1500 ≤ y.toInt ∧ y.toInt ≤ 2100)) → r = -2))) 0 0 (fun _ => False) := by
  refine Met.ofW (cc := cX12_possible) (maxL := 4) (ret := (some .long)) (by decide) rfl ?_
  intro pp ee ss mm args below meth cc0 s₁ B hml hv
  obtain ⟨rfl, hP, hK⟩ := hv
  have hx := B.exec
  have hb := B.bytes
  have hr := B.returns
  have hts := atoms_spec (ws := wsX12_possible) B.pre
  have hown : ss.vm.findClass RX12 = some mm.cls := findClass_of_methodNamed B.named
  have hlocks := B.notSynchronized
  have hL0 := hts (.constantLong RX12 268 (-2)) (by decide +kernel)
  have hL1 := hts (.constantLong RX12 242 (999)) (by decide +kernel)
  have hl := lv_entry ([.ref (am 0), .int t, .int m, .int y]) (n := 4) (Nat.le_of_ble_eq_true rfl)
  rw [lg_entry_eq]
  generalize (lg_sl ([.ref (am 0), .int t, .int m, .int y]) ++ List.replicate (4 - (lg_sl ([.ref (am 0), .int t, .int m, .int y])).length) Slot.unset).toArray = ls at hl ⊢
  have hl : lv_has ls 4 [(0, .ref (am 0)), (1, .int t), (2, .int m), (3, .int y)] := hl
  refine bw_Q (fun Q hQ => ?_)
  change W pp l ee { frames := 3, cells := 0, slots := 0, locals := 73 } ss mm _ below meth cc0 ss.heap [] 0 0 Q (F0 mm 0 ls [])
  refine lv_iload_n hx hb dX12_possible_0 rfl (lv_at hl 1 rfl) ?_
  refine vp_callSi (va_Run.run (va_runS (As := [.int t]) (rest := []) ⟨hx, hb, hml, hown, hts⟩ (c_X12_isStreet l dC dI cy t) (va_cwS 1 hts gX12_possible_X12_isStreet rfl rfl rfl (by decide +kernel) ⟨Nat.le_of_ble_eq_true rfl, Nat.le_of_ble_eq_true rfl⟩) ⟨fun a U g mk q => q, fun U hU hW => ⟨rfl, trivial⟩⟩ rfl rfl hl.1 rfl (lv_room (Nat.le_of_ble_eq_true rfl)) dX12_possible_1 ⟨Nat.le_of_ble_eq_true rfl, Nat.le_of_ble_eq_true rfl⟩)) (fun r_1 hr_1 => ?_)
  refine bw_ifeqB (tgt := 36) hx hb dX12_possible_4 (by decide) hr_1 (fun c_2 => ?_) (fun c_2 => ?_)
  · skip
    refine lv_ldc2 hx hb hown hL0 dX12_possible_36 ?_
    subst hQ
    have hpost : (((0 ≤ t.toInt ∧ t.toInt ≤ 9 ∧ 1 ≤ m.toInt ∧ m.toInt ≤ 999) ∧ (1500 ≤ y.toInt ∧ y.toInt ≤ 2100)) → ∀ b : Nat, lb ((-2) : Int64) b = true ↔ b < sn ∧ sPos nb fr tt st nu b t m y.toInt) ∧ (¬ ((0 ≤ t.toInt ∧ t.toInt ≤ 9 ∧ 1 ≤ m.toInt ∧ m.toInt ≤ 999) ∧ (1500 ≤ y.toInt ∧ y.toInt ≤ 2100)) → ((-2) : Int64) = -2) := by
      refine ⟨fun h9 => ?_, fun h9 => ?_⟩
      · exfalso; omega
      · rfl
    exact W.lret (v := (-2)) hx hb hr (fun t9 ht hW => ⟨_, rfl, hpost, by rw [ht]⟩) (fun q h => by cases h) dX12_possible_39
  · skip
    refine lv_iload_n hx hb dX12_possible_7 rfl (lv_at hl 2 rfl) ?_
    refine lv_i2l hx hb dX12_possible_8 rfl ?_
    refine bw_nmL (a := m.toInt) (tI_i2l rfl) (fun w_3 ew_3 tw_3 => ?_)
    refine lv_lconst (v := 1) hx hb dX12_possible_9 (by decide) ?_
    refine lv_ldc2 hx hb hown hL1 dX12_possible_10 ?_
    refine vp_callSi (va_Run.run (va_runS (As := [.long w_3, .long 1, .long 999]) (rest := []) ⟨hx, hb, hml, hown, hts⟩ (c_X12_in l dC dI cy w_3 1 999 m.toInt 1 999 (tw_3) (rfl) (rfl)) (va_cwS 3 hts gX12_possible_X12_in rfl rfl rfl (by decide +kernel) ⟨Nat.le_of_ble_eq_true rfl, Nat.le_of_ble_eq_true rfl⟩) ⟨fun a U g mk q => q, fun U hU hW => ⟨rfl, trivial⟩⟩ rfl rfl hl.1 rfl (lv_room (Nat.le_of_ble_eq_true rfl)) dX12_possible_13 ⟨Nat.le_of_ble_eq_true rfl, Nat.le_of_ble_eq_true rfl⟩)) (fun r_4 hr_4 => ?_)
    refine bw_ifeqB (tgt := 36) hx hb dX12_possible_16 (by decide) hr_4 (fun c_5 => ?_) (fun c_5 => ?_)
    · skip
      refine lv_ldc2 hx hb hown hL0 dX12_possible_36 ?_
      subst hQ
      have hpost : (((0 ≤ t.toInt ∧ t.toInt ≤ 9 ∧ 1 ≤ m.toInt ∧ m.toInt ≤ 999) ∧ (1500 ≤ y.toInt ∧ y.toInt ≤ 2100)) → ∀ b : Nat, lb ((-2) : Int64) b = true ↔ b < sn ∧ sPos nb fr tt st nu b t m y.toInt) ∧ (¬ ((0 ≤ t.toInt ∧ t.toInt ≤ 9 ∧ 1 ≤ m.toInt ∧ m.toInt ≤ 999) ∧ (1500 ≤ y.toInt ∧ y.toInt ≤ 2100)) → ((-2) : Int64) = -2) := by
        refine ⟨fun h9 => ?_, fun h9 => ?_⟩
        · exfalso; omega
        · rfl
      exact W.lret (v := (-2)) hx hb hr (fun t9 ht hW => ⟨_, rfl, hpost, by rw [ht]⟩) (fun q h => by cases h) dX12_possible_39
    · skip
      refine lv_iload_n hx hb dX12_possible_19 rfl (lv_at hl 3 rfl) ?_
      refine vp_callSi (va_Run.run (va_runS (As := [.int y]) (rest := []) ⟨hx, hb, hml, hown, hts⟩ (c_X12_isYear l dC dI cy y) (va_cwS 1 hts gX12_possible_X12_isYear rfl rfl rfl (by decide +kernel) ⟨Nat.le_of_ble_eq_true rfl, Nat.le_of_ble_eq_true rfl⟩) ⟨fun a U g mk q => q, fun U hU hW => ⟨rfl, trivial⟩⟩ rfl rfl hl.1 rfl (lv_room (Nat.le_of_ble_eq_true rfl)) dX12_possible_20 ⟨Nat.le_of_ble_eq_true rfl, Nat.le_of_ble_eq_true rfl⟩)) (fun r_6 hr_6 => ?_)
      refine bw_ifeqB (tgt := 36) hx hb dX12_possible_23 (by decide) hr_6 (fun c_7 => ?_) (fun c_7 => ?_)
      · skip
        refine lv_ldc2 hx hb hown hL0 dX12_possible_36 ?_
        subst hQ
        have hpost : (((0 ≤ t.toInt ∧ t.toInt ≤ 9 ∧ 1 ≤ m.toInt ∧ m.toInt ≤ 999) ∧ (1500 ≤ y.toInt ∧ y.toInt ≤ 2100)) → ∀ b : Nat, lb ((-2) : Int64) b = true ↔ b < sn ∧ sPos nb fr tt st nu b t m y.toInt) ∧ (¬ ((0 ≤ t.toInt ∧ t.toInt ≤ 9 ∧ 1 ≤ m.toInt ∧ m.toInt ≤ 999) ∧ (1500 ≤ y.toInt ∧ y.toInt ≤ 2100)) → ((-2) : Int64) = -2) := by
          refine ⟨fun h9 => ?_, fun h9 => ?_⟩
          · exfalso; omega
          · rfl
        exact W.lret (v := (-2)) hx hb hr (fun t9 ht hW => ⟨_, rfl, hpost, by rw [ht]⟩) (fun q h => by cases h) dX12_possible_39
      · skip
        refine lv_aload_n hx hb dX12_possible_26 rfl (lv_at hl 0 rfl) ?_
        refine lv_iload_n hx hb dX12_possible_27 rfl (lv_at hl 1 rfl) ?_
        refine lv_iload_n hx hb dX12_possible_28 rfl (lv_at hl 2 rfl) ?_
        refine lv_iload_n hx hb dX12_possible_29 rfl (lv_at hl 3 rfl) ?_
        have hPc : va_P (dC, dI) vwCl [(am 0, .inr (12, [.ref (am 1), .ref (am 2), .ref (am 3), .ref (am 4), .int (nI tn), .int (nI zsz), .int (nI zfr), .int (nI zbe), .int zha, .int zva, .int fk, .int fp, .ref (am 13), .int (nI sn), .ref (am 15), .ref (am 16), .ref (am 17), .ref (am 18), .ref (am 19), .int (nI pn), .int (nI qn), .ref (am 22), .ref (am 23), .ref (am 24), .ref (am 25), .ref (am 26), .ref (am 27), .ref (am 28), .ref (am 29), .ref (am 30), .ref (am 31), .ref (am 32), .ref (am 33), .ref (am 34), .int zss, .int zsy, .int zpy, .int zfs, .int zls, .int (nI an), .ref (am 41), .ref (am 42), .ref (am 43), .ref (am 44), .ref (am 45), .ref (am 46), .ref (am 47), .ref (am 48), .ref (am 49), .ref (am 50), .int (nI zw), .ref (am 52), .ref (am 53)])), (am 15, .inl (cy 0, 40, .inl nb)), (am 16, .inl (cy 0, 320, .inl fr)), (am 17, .inl (cy 0, 320, .inl tt)), (am 18, .inl (cy 0, 320, .inl st)), (am 19, .inl (cy 0, 320, .inl nu))] ss.heap := hP.sub [0, 1, 2, 3, 4, 5] rfl
        refine vp_callSl (va_Run.run (va_runV (As := [.int t, .int m, .int y]) (rest := []) ⟨hx, hb, hml, hown, hts⟩ (c_X12_possibly l dC dI cy am tn zsz zfr zbe zha zva fk fp sn pn qn zss zsy zpy zfs zls an zw nb fr tt st nu t m y (by first | assumption | omega)) (cwV 3 hts gX12_possible_X12_possibly rfl rfl rfl (by decide +kernel) ⟨Nat.le_of_ble_eq_true rfl, Nat.le_of_ble_eq_true rfl⟩) ⟨fun a U g mk q => by obtain ⟨q0, qP, qK⟩ := q; exact ⟨q0, qP, va_K.moved (u := U) (U := U.calling g mk a) (Vm.Alike.refl U.vm) qK⟩, va_recv hK hPc (ci := 12) (q0 := 0) rfl rfl, fun U hU hW => ⟨rfl, by rw [hU]; exact hPc, va_K.moved hW.alike hK⟩⟩ rfl rfl hl.1 rfl (lv_room (Nat.le_of_ble_eq_true rfl)) dX12_possible_30 ⟨Nat.le_of_ble_eq_true rfl, Nat.le_of_ble_eq_true rfl⟩)) (fun ra hra => ?_)
        refine lv_goto (tgt := 39) hx hb dX12_possible_33 (by decide) ?_
        subst hQ
        have hpost : (((0 ≤ t.toInt ∧ t.toInt ≤ 9 ∧ 1 ≤ m.toInt ∧ m.toInt ≤ 999) ∧ (1500 ≤ y.toInt ∧ y.toInt ≤ 2100)) → ∀ b : Nat, lb (ra : Int64) b = true ↔ b < sn ∧ sPos nb fr tt st nu b t m y.toInt) ∧ (¬ ((0 ≤ t.toInt ∧ t.toInt ≤ 9 ∧ 1 ≤ m.toInt ∧ m.toInt ≤ 999) ∧ (1500 ≤ y.toInt ∧ y.toInt ≤ 2100)) → (ra : Int64) = -2) := by
          exact ⟨fun _ => hra, fun h9 => absurd (by omega) h9⟩
        exact W.lret (v := ra) hx hb hr (fun t9 ht hW => ⟨_, rfl, hpost, by rw [ht]⟩) (fun q h => by cases h) dX12_possible_39

set_option maxHeartbeats 4000000 in
set_option maxRecDepth 100000 in
theorem c_X12_surely (l : Launch) (dC : Nat → ClassId) (dI : Nat → Nat → Nat) (cy : Nat → ClassId) (am : Nat → Nat) (tn : Nat) (zsz : Nat) (zfr : Nat) (zbe : Nat) (zha : Int32) (zva : Int32) (fk : Int32) (fp : Int32) (sn : Nat) (pn : Nat) (qn : Nat) (zss : Int32) (zsy : Int32) (zpy : Int32) (zfs : Int32) (zls : Int32) (an : Nat) (zw : Nat) (nb : Nat → Int32) (fr : Nat → Int32) (tt : Nat → Int32) (st : Nat → Int32) (nu : Nat → Int32) (t : Int32) (m : Int32) (y : Int32) (hall : sOK nb fr tt sn) : Met l yX12_surely wsX12_surely ({ frames := 4, cells := 0, slots := 0, locals := 100 }) (va_Pc [.ref (am 0), .int t, .int m, .int y] (fun U => va_P (dC, dI) vwCl [(am 0, .inr (12, [.ref (am 1), .ref (am 2), .ref (am 3), .ref (am 4), .int (nI tn), .int (nI zsz), .int (nI zfr), .int (nI zbe), .int zha, .int zva, .int fk, .int fp, .ref (am 13), .int (nI sn), .ref (am 15), .ref (am 16), .ref (am 17), .ref (am 18), .ref (am 19), .int (nI pn), .int (nI qn), .ref (am 22), .ref (am 23), .ref (am 24), .ref (am 25), .ref (am 26), .ref (am 27), .ref (am 28), .ref (am 29), .ref (am 30), .ref (am 31), .ref (am 32), .ref (am 33), .ref (am 34), .int zss, .int zsy, .int zpy, .int zfs, .int zls, .int (nI an), .ref (am 41), .ref (am 42), .ref (am 43), .ref (am 44), .ref (am 45), .ref (am 46), .ref (am 47), .ref (am 48), .ref (am 49), .ref (am 50), .int (nI zw), .ref (am 52), .ref (am 53)])), (am 15, .inl (cy 0, 40, .inl nb)), (am 16, .inl (cy 0, 320, .inl fr)), (am 17, .inl (cy 0, 320, .inl tt)), (am 18, .inl (cy 0, 320, .inl st)), (am 19, .inl (cy 0, 320, .inl nu))] U.heap ∧ va_K (dC, dI) vwCl (tyL cy) U)) (vp_Si (fun r => (((0 ≤ t.toInt ∧ t.toInt ≤ 9 ∧ 1 ≤ m.toInt ∧ m.toInt ≤ 999) ∧ (1500 ≤ y.toInt ∧ y.toInt ≤ 2100)) → ((∃ s9, s9 < sn ∧ r = nI s9 ∧ sOnly nb fr tt st nu sn s9 t m y.toInt) ∨ (r = -1 ∧ ∀ s9, s9 < sn → ¬ sOnly nb fr tt st nu sn s9 t m y.toInt))) ∧ (¬ ((0 ≤ t.toInt ∧ t.toInt ≤ 9 ∧ 1 ≤ m.toInt ∧ m.toInt ≤ 999) ∧ (1500 ≤ y.toInt ∧ y.toInt ≤ 2100)) → r = -2))) 0 0 (fun _ => False) := by
  refine Met.ofW (cc := cX12_surely) (maxL := 4) (ret := (some .int)) (by decide) rfl ?_
  intro pp ee ss mm args below meth cc0 s₁ B hml hv
  obtain ⟨rfl, hP, hK⟩ := hv
  have hx := B.exec
  have hb := B.bytes
  have hr := B.returns
  have hts := atoms_spec (ws := wsX12_surely) B.pre
  have hown : ss.vm.findClass RX12 = some mm.cls := findClass_of_methodNamed B.named
  have hlocks := B.notSynchronized
  have hL0 := hts (.constantLong RX12 242 (999)) (by decide +kernel)
  have hl := lv_entry ([.ref (am 0), .int t, .int m, .int y]) (n := 4) (Nat.le_of_ble_eq_true rfl)
  rw [lg_entry_eq]
  generalize (lg_sl ([.ref (am 0), .int t, .int m, .int y]) ++ List.replicate (4 - (lg_sl ([.ref (am 0), .int t, .int m, .int y])).length) Slot.unset).toArray = ls at hl ⊢
  have hl : lv_has ls 4 [(0, .ref (am 0)), (1, .int t), (2, .int m), (3, .int y)] := hl
  refine bw_Q (fun Q hQ => ?_)
  change W pp l ee { frames := 4, cells := 0, slots := 0, locals := 100 } ss mm _ below meth cc0 ss.heap [] 0 0 Q (F0 mm 0 ls [])
  refine lv_iload_n hx hb dX12_surely_0 rfl (lv_at hl 1 rfl) ?_
  refine vp_callSi (va_Run.run (va_runS (As := [.int t]) (rest := []) ⟨hx, hb, hml, hown, hts⟩ (c_X12_isStreet l dC dI cy t) (va_cwS 1 hts gX12_surely_X12_isStreet rfl rfl rfl (by decide +kernel) ⟨Nat.le_of_ble_eq_true rfl, Nat.le_of_ble_eq_true rfl⟩) ⟨fun a U g mk q => q, fun U hU hW => ⟨rfl, trivial⟩⟩ rfl rfl hl.1 rfl (lv_room (Nat.le_of_ble_eq_true rfl)) dX12_surely_1 ⟨Nat.le_of_ble_eq_true rfl, Nat.le_of_ble_eq_true rfl⟩)) (fun r_1 hr_1 => ?_)
  refine bw_ifeqB (tgt := 36) hx hb dX12_surely_4 (by decide) hr_1 (fun c_2 => ?_) (fun c_2 => ?_)
  · skip
    refine lv_bipush (v := (-2)) hx hb dX12_surely_36 (by decide) ?_
    subst hQ
    have hpost : (((0 ≤ t.toInt ∧ t.toInt ≤ 9 ∧ 1 ≤ m.toInt ∧ m.toInt ≤ 999) ∧ (1500 ≤ y.toInt ∧ y.toInt ≤ 2100)) → ((∃ s9, s9 < sn ∧ ((-2) : Int32) = nI s9 ∧ sOnly nb fr tt st nu sn s9 t m y.toInt) ∨ (((-2) : Int32) = -1 ∧ ∀ s9, s9 < sn → ¬ sOnly nb fr tt st nu sn s9 t m y.toInt))) ∧ (¬ ((0 ≤ t.toInt ∧ t.toInt ≤ 9 ∧ 1 ≤ m.toInt ∧ m.toInt ≤ 999) ∧ (1500 ≤ y.toInt ∧ y.toInt ≤ 2100)) → ((-2) : Int32) = -2) := by
      refine ⟨fun h9 => ?_, fun h9 => ?_⟩
      · exfalso; omega
      · rfl
    exact W.iret (v := (-2)) hx hb hr (fun t9 ht hW => ⟨_, rfl, hpost, by rw [ht]⟩) (fun q h => by cases h) dX12_surely_38
  · skip
    refine lv_iload_n hx hb dX12_surely_7 rfl (lv_at hl 2 rfl) ?_
    refine lv_i2l hx hb dX12_surely_8 rfl ?_
    refine bw_nmL (a := m.toInt) (tI_i2l rfl) (fun w_3 ew_3 tw_3 => ?_)
    refine lv_lconst (v := 1) hx hb dX12_surely_9 (by decide) ?_
    refine lv_ldc2 hx hb hown hL0 dX12_surely_10 ?_
    refine vp_callSi (va_Run.run (va_runS (As := [.long w_3, .long 1, .long 999]) (rest := []) ⟨hx, hb, hml, hown, hts⟩ (c_X12_in l dC dI cy w_3 1 999 m.toInt 1 999 (tw_3) (rfl) (rfl)) (va_cwS 3 hts gX12_surely_X12_in rfl rfl rfl (by decide +kernel) ⟨Nat.le_of_ble_eq_true rfl, Nat.le_of_ble_eq_true rfl⟩) ⟨fun a U g mk q => q, fun U hU hW => ⟨rfl, trivial⟩⟩ rfl rfl hl.1 rfl (lv_room (Nat.le_of_ble_eq_true rfl)) dX12_surely_13 ⟨Nat.le_of_ble_eq_true rfl, Nat.le_of_ble_eq_true rfl⟩)) (fun r_4 hr_4 => ?_)
    refine bw_ifeqB (tgt := 36) hx hb dX12_surely_16 (by decide) hr_4 (fun c_5 => ?_) (fun c_5 => ?_)
    · skip
      refine lv_bipush (v := (-2)) hx hb dX12_surely_36 (by decide) ?_
      subst hQ
      have hpost : (((0 ≤ t.toInt ∧ t.toInt ≤ 9 ∧ 1 ≤ m.toInt ∧ m.toInt ≤ 999) ∧ (1500 ≤ y.toInt ∧ y.toInt ≤ 2100)) → ((∃ s9, s9 < sn ∧ ((-2) : Int32) = nI s9 ∧ sOnly nb fr tt st nu sn s9 t m y.toInt) ∨ (((-2) : Int32) = -1 ∧ ∀ s9, s9 < sn → ¬ sOnly nb fr tt st nu sn s9 t m y.toInt))) ∧ (¬ ((0 ≤ t.toInt ∧ t.toInt ≤ 9 ∧ 1 ≤ m.toInt ∧ m.toInt ≤ 999) ∧ (1500 ≤ y.toInt ∧ y.toInt ≤ 2100)) → ((-2) : Int32) = -2) := by
        refine ⟨fun h9 => ?_, fun h9 => ?_⟩
        · exfalso; omega
        · rfl
      exact W.iret (v := (-2)) hx hb hr (fun t9 ht hW => ⟨_, rfl, hpost, by rw [ht]⟩) (fun q h => by cases h) dX12_surely_38
    · skip
      refine lv_iload_n hx hb dX12_surely_19 rfl (lv_at hl 3 rfl) ?_
      refine vp_callSi (va_Run.run (va_runS (As := [.int y]) (rest := []) ⟨hx, hb, hml, hown, hts⟩ (c_X12_isYear l dC dI cy y) (va_cwS 1 hts gX12_surely_X12_isYear rfl rfl rfl (by decide +kernel) ⟨Nat.le_of_ble_eq_true rfl, Nat.le_of_ble_eq_true rfl⟩) ⟨fun a U g mk q => q, fun U hU hW => ⟨rfl, trivial⟩⟩ rfl rfl hl.1 rfl (lv_room (Nat.le_of_ble_eq_true rfl)) dX12_surely_20 ⟨Nat.le_of_ble_eq_true rfl, Nat.le_of_ble_eq_true rfl⟩)) (fun r_6 hr_6 => ?_)
      refine bw_ifeqB (tgt := 36) hx hb dX12_surely_23 (by decide) hr_6 (fun c_7 => ?_) (fun c_7 => ?_)
      · skip
        refine lv_bipush (v := (-2)) hx hb dX12_surely_36 (by decide) ?_
        subst hQ
        have hpost : (((0 ≤ t.toInt ∧ t.toInt ≤ 9 ∧ 1 ≤ m.toInt ∧ m.toInt ≤ 999) ∧ (1500 ≤ y.toInt ∧ y.toInt ≤ 2100)) → ((∃ s9, s9 < sn ∧ ((-2) : Int32) = nI s9 ∧ sOnly nb fr tt st nu sn s9 t m y.toInt) ∨ (((-2) : Int32) = -1 ∧ ∀ s9, s9 < sn → ¬ sOnly nb fr tt st nu sn s9 t m y.toInt))) ∧ (¬ ((0 ≤ t.toInt ∧ t.toInt ≤ 9 ∧ 1 ≤ m.toInt ∧ m.toInt ≤ 999) ∧ (1500 ≤ y.toInt ∧ y.toInt ≤ 2100)) → ((-2) : Int32) = -2) := by
          refine ⟨fun h9 => ?_, fun h9 => ?_⟩
          · exfalso; omega
          · rfl
        exact W.iret (v := (-2)) hx hb hr (fun t9 ht hW => ⟨_, rfl, hpost, by rw [ht]⟩) (fun q h => by cases h) dX12_surely_38
      · skip
        refine lv_aload_n hx hb dX12_surely_26 rfl (lv_at hl 0 rfl) ?_
        refine lv_iload_n hx hb dX12_surely_27 rfl (lv_at hl 1 rfl) ?_
        refine lv_iload_n hx hb dX12_surely_28 rfl (lv_at hl 2 rfl) ?_
        refine lv_iload_n hx hb dX12_surely_29 rfl (lv_at hl 3 rfl) ?_
        have hPc : va_P (dC, dI) vwCl [(am 0, .inr (12, [.ref (am 1), .ref (am 2), .ref (am 3), .ref (am 4), .int (nI tn), .int (nI zsz), .int (nI zfr), .int (nI zbe), .int zha, .int zva, .int fk, .int fp, .ref (am 13), .int (nI sn), .ref (am 15), .ref (am 16), .ref (am 17), .ref (am 18), .ref (am 19), .int (nI pn), .int (nI qn), .ref (am 22), .ref (am 23), .ref (am 24), .ref (am 25), .ref (am 26), .ref (am 27), .ref (am 28), .ref (am 29), .ref (am 30), .ref (am 31), .ref (am 32), .ref (am 33), .ref (am 34), .int zss, .int zsy, .int zpy, .int zfs, .int zls, .int (nI an), .ref (am 41), .ref (am 42), .ref (am 43), .ref (am 44), .ref (am 45), .ref (am 46), .ref (am 47), .ref (am 48), .ref (am 49), .ref (am 50), .int (nI zw), .ref (am 52), .ref (am 53)])), (am 15, .inl (cy 0, 40, .inl nb)), (am 16, .inl (cy 0, 320, .inl fr)), (am 17, .inl (cy 0, 320, .inl tt)), (am 18, .inl (cy 0, 320, .inl st)), (am 19, .inl (cy 0, 320, .inl nu))] ss.heap := hP.sub [0, 1, 2, 3, 4, 5] rfl
        refine vp_callSi (va_Run.run (va_runV (As := [.int t, .int m, .int y]) (rest := []) ⟨hx, hb, hml, hown, hts⟩ (c_X12_surelyIs l dC dI cy am tn zsz zfr zbe zha zva fk fp sn pn qn zss zsy zpy zfs zls an zw nb fr tt st nu t m y (by first | assumption | omega)) (cwV 3 hts gX12_surely_X12_surelyIs rfl rfl rfl (by decide +kernel) ⟨Nat.le_of_ble_eq_true rfl, Nat.le_of_ble_eq_true rfl⟩) ⟨fun a U g mk q => by obtain ⟨q0, qP, qK⟩ := q; exact ⟨q0, qP, va_K.moved (u := U) (U := U.calling g mk a) (Vm.Alike.refl U.vm) qK⟩, va_recv hK hPc (ci := 12) (q0 := 0) rfl rfl, fun U hU hW => ⟨rfl, by rw [hU]; exact hPc, va_K.moved hW.alike hK⟩⟩ rfl rfl hl.1 rfl (lv_room (Nat.le_of_ble_eq_true rfl)) dX12_surely_30 ⟨Nat.le_of_ble_eq_true rfl, Nat.le_of_ble_eq_true rfl⟩)) (fun ra hra => ?_)
        refine lv_goto (tgt := 38) hx hb dX12_surely_33 (by decide) ?_
        subst hQ
        have hpost : (((0 ≤ t.toInt ∧ t.toInt ≤ 9 ∧ 1 ≤ m.toInt ∧ m.toInt ≤ 999) ∧ (1500 ≤ y.toInt ∧ y.toInt ≤ 2100)) → ((∃ s9, s9 < sn ∧ ra = nI s9 ∧ sOnly nb fr tt st nu sn s9 t m y.toInt) ∨ (ra = -1 ∧ ∀ s9, s9 < sn → ¬ sOnly nb fr tt st nu sn s9 t m y.toInt))) ∧ (¬ ((0 ≤ t.toInt ∧ t.toInt ≤ 9 ∧ 1 ≤ m.toInt ∧ m.toInt ≤ 999) ∧ (1500 ≤ y.toInt ∧ y.toInt ≤ 2100)) → ra = -2) := by
          exact ⟨fun _ => hra, fun h9 => absurd (by omega) h9⟩
        exact W.iret (v := ra) hx hb hr (fun t9 ht hW => ⟨_, rfl, hpost, by rw [ht]⟩) (fun q h => by cases h) dX12_surely_38

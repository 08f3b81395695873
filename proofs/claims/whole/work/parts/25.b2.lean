theorem nI_z {m : Nat} (h : m < 4294967296) : (nI m).toInt = 0 ↔ m = 0 := by
  constructor
  · intro q
    have e : nI m = 0 := (fa_eq _ _).mpr q
    have e2 : (nI m).toBitVec.toNat = 0 := by rw [e]; rfl
    rwa [pk_tn (by omega)] at e2
  · intro q; rw [q]; rfl
theorem nI_sgn {m : Nat} (h : m < 4294967296) : (m < 2147483648 ∧ (nI m).toInt = (m : Int)) ∨ (2147483648 ≤ m ∧ (nI m).toInt = (m : Int) - 4294967296) := by
  rcases Nat.lt_or_ge m 2147483648 with q | q
  · exact Or.inl ⟨q, nI_toInt (by omega)⟩
  · refine Or.inr ⟨q, ?_⟩
    show (BitVec.ofNat 32 m).toInt = _
    rw [BitVec.toInt_eq_toNat_cond, BitVec.toNat_ofNat, Nat.mod_eq_of_lt (by omega), if_neg (by omega)]
    omega
theorem top_bit {n T : Nat} (h1 : n.testBit T = true) (h2 : ∀ i, T < i → n.testBit i = false) : 2 ^ T ≤ n ∧ n < 2 ^ (T + 1) := by
  refine ⟨Nat.ge_two_pow_of_testBit h1, ?_⟩
  exact Nat.lt_pow_two_of_testBit n (fun i hi => h2 i (by omega))
theorem top_one {n a b : Nat} (h1 : 2 ^ a ≤ n) (h2 : n < 2 ^ (a + 1)) (h3 : 2 ^ b ≤ n) (h4 : n < 2 ^ (b + 1)) : a = b := by
  rcases Nat.lt_trichotomy a b with q | q | q
  · have := Nat.pow_le_pow_right (n := 2) (by decide) (show a + 1 ≤ b from q); omega
  · exact q
  · have := Nat.pow_le_pow_right (n := 2) (by decide) (show b + 1 ≤ a from q); omega
set_option maxHeartbeats 4000000 in
set_option maxRecDepth 100000 in
theorem c_J6_numberOfLeadingZeros_0f7a4 (l : Launch) (dC : Nat → ClassId) (dI : Nat → Nat → Nat) (cy : Nat → ClassId) (n : Nat) (hn : 1 ≤ n) (hn2 : n < 4294967296) : Met l yJ6_numberOfLeadingZeros_0f7a4 wsJ6_numberOfLeadingZeros_0f7a4 ({ frames := 0, cells := 0, slots := 0, locals := 0 }) (va_Pc [.int (nI n)] (fun _ => True)) (vp_Si (fun r => ∃ q9, q9 ≤ 31 ∧ r = nI q9 ∧ 2 ^ (31 - q9) ≤ n ∧ n < 2 ^ (32 - q9))) 0 0 (fun _ => False) := by
  refine Met.ofW (cc := cJ6_numberOfLeadingZeros_0f7a4) (maxL := 2) (ret := (some .int)) (by decide) rfl ?_
  intro pp ee ss mm args below meth cc0 s₁ B hml hv
  obtain ⟨rfl, -⟩ := hv
  have hx := B.exec
  have hb := B.bytes
  have hr := B.returns
  have hts := atoms_spec (ws := wsJ6_numberOfLeadingZeros_0f7a4) B.pre
  have hown : ss.vm.findClass RJ6 = some mm.cls := findClass_of_methodNamed B.named
  have hlocks := B.notSynchronized
  have hL0 := hts (.constant RJ6 264 (65536)) (by decide +kernel)
  have hl := lv_entry ([.int (nI n)]) (n := 2) (Nat.le_of_ble_eq_true rfl)
  rw [lg_entry_eq]
  generalize (lg_sl ([.int (nI n)]) ++ List.replicate (2 - (lg_sl ([.int (nI n)])).length) Slot.unset).toArray = ls at hl ⊢
  have hl : lv_has ls 2 [(0, .int (nI n))] := hl
  refine bw_Q (fun Q hQ => ?_)
  change W pp l ee { frames := 0, cells := 0, slots := 0, locals := 0 } ss mm _ below meth cc0 ss.heap [] 0 0 Q (F0 mm 0 ls [])
  obtain ⟨xi, hxi⟩ : ∃ z : Int, (nI n).toInt = z := ⟨_, rfl⟩
  have hsg := nI_sgn hn2
  rw [hxi] at hsg
  refine lv_iload_n hx hb dJ6_numberOfLeadingZeros_0f7a4_0 rfl (lv_at hl 0 rfl) ?_
  refine bw_if_gt (tgt := 15) (a := xi) hx hb dJ6_numberOfLeadingZeros_0f7a4_1 (by decide) hxi (fun c_1 => ?_) (fun c_1 => ?_)
  · skip
    refine lv_bipush (v := 31) hx hb dJ6_numberOfLeadingZeros_0f7a4_15 (by decide) ?_
    refine lv_istore_n (lv' := [(1, .int 31), (0, .int (nI n))]) hx hb dJ6_numberOfLeadingZeros_0f7a4_17 rfl hl (by decide) rfl (fun ls hl => ?_)
    refine lv_iload_n hx hb dJ6_numberOfLeadingZeros_0f7a4_18 rfl (lv_at hl 1 rfl) ?_
    refine lv_ldcw hx hb hown hL0 dJ6_numberOfLeadingZeros_0f7a4_19 ?_
    refine bw_icmp_lt (tgt := 33) (a := xi) (b := 65536) hx hb dJ6_numberOfLeadingZeros_0f7a4_22 (by decide) hxi rfl (fun c_2 => ?_) (fun c_2 => ?_)
    · skip
      refine lv_iload_n hx hb dJ6_numberOfLeadingZeros_0f7a4_33 rfl (lv_at hl 1 rfl) ?_
      refine lv_sipush (v := 256) hx hb dJ6_numberOfLeadingZeros_0f7a4_34 (by decide) ?_
      refine bw_icmp_lt (tgt := 48) (a := xi) (b := 256) hx hb dJ6_numberOfLeadingZeros_0f7a4_37 (by decide) hxi rfl (fun c_3 => ?_) (fun c_3 => ?_)
      · skip
        refine lv_iload_n hx hb dJ6_numberOfLeadingZeros_0f7a4_48 rfl (lv_at hl 1 rfl) ?_
        refine lv_bipush (v := 16) hx hb dJ6_numberOfLeadingZeros_0f7a4_49 (by decide) ?_
        refine bw_icmp_lt (tgt := 61) (a := xi) (b := 16) hx hb dJ6_numberOfLeadingZeros_0f7a4_51 (by decide) hxi rfl (fun c_4 => ?_) (fun c_4 => ?_)
        · skip
          refine lv_iload_n hx hb dJ6_numberOfLeadingZeros_0f7a4_61 rfl (lv_at hl 1 rfl) ?_
          refine lv_iconst (v := 4) hx hb dJ6_numberOfLeadingZeros_0f7a4_62 (by decide) ?_
          refine bw_icmp_lt (tgt := 73) (a := xi) (b := 4) hx hb dJ6_numberOfLeadingZeros_0f7a4_63 (by decide) hxi rfl (fun c_5 => ?_) (fun c_5 => ?_)
          · skip
            refine lv_iload_n hx hb dJ6_numberOfLeadingZeros_0f7a4_73 rfl (lv_at hl 0 rfl) ?_
            refine lv_iload_n hx hb dJ6_numberOfLeadingZeros_0f7a4_74 rfl (lv_at hl 1 rfl) ?_
            refine lv_iconst (v := 1) hx hb dJ6_numberOfLeadingZeros_0f7a4_75 (by decide) ?_
            refine lv_iushr hx hb dJ6_numberOfLeadingZeros_0f7a4_76 rfl ?_
            refine bw_re (show ((nI n).toUInt32 >>> ((1 : Int32).toUInt32 &&& Int32.toUInt32 31)).toInt32 = nI (n / 2) from (pk_ushrN (n := n) (by omega) 1 1 (by decide))) ?_
            refine lv_isub hx hb dJ6_numberOfLeadingZeros_0f7a4_77 ?_
            refine bw_re (show 31 - (nI (n / 2)) = nI (31 - (n / 2)) from pk_sub (a := 31) (b := n / 2) (by omega)) ?_
            subst hQ
            have hpost : ∃ q9, q9 ≤ 31 ∧ (nI (31 - (n / 2))) = nI q9 ∧ 2 ^ (31 - q9) ≤ n ∧ n < 2 ^ (32 - q9) := by
              rcases (show n / 2 = 0 ∨ n / 2 = 1 by omega) with q8 | q8
              · rw [q8]
                refine ⟨_, ?_, rfl, ?_, ?_⟩ <;> simp only [Nat.reduceSub, Nat.reducePow] <;> omega
              · rw [q8]
                refine ⟨_, ?_, rfl, ?_, ?_⟩ <;> simp only [Nat.reduceSub, Nat.reducePow] <;> omega
            exact W.iret (v := nI (31 - (n / 2))) hx hb hr (fun t9 ht hW => ⟨_, rfl, hpost, by rw [ht]⟩) (fun q h => by cases h) dJ6_numberOfLeadingZeros_0f7a4_78
          · skip
            refine lv_iinc (v := 29) (lv' := [(1, .int 29), (0, .int (nI n))]) hx hb dJ6_numberOfLeadingZeros_0f7a4_66 hl (k := 0) rfl (by decide) (by decide) rfl (fun ls hl => ?_)
            refine lv_iload_n hx hb dJ6_numberOfLeadingZeros_0f7a4_69 rfl (lv_at hl 1 rfl) ?_
            refine lv_iconst (v := 2) hx hb dJ6_numberOfLeadingZeros_0f7a4_70 (by decide) ?_
            refine lv_iushr hx hb dJ6_numberOfLeadingZeros_0f7a4_71 rfl ?_
            refine bw_re (show ((nI n).toUInt32 >>> ((2 : Int32).toUInt32 &&& Int32.toUInt32 31)).toInt32 = nI (n / 4) from (pk_ushrN (n := n) (by omega) 2 2 (by decide))) ?_
            refine lv_istore_n (lv' := [(0, .int (nI (n / 4))), (1, .int 29)]) hx hb dJ6_numberOfLeadingZeros_0f7a4_72 rfl hl (by decide) rfl (fun ls hl => ?_)
            refine lv_iload_n hx hb dJ6_numberOfLeadingZeros_0f7a4_73 rfl (lv_at hl 1 rfl) ?_
            refine lv_iload_n hx hb dJ6_numberOfLeadingZeros_0f7a4_74 rfl (lv_at hl 0 rfl) ?_
            refine lv_iconst (v := 1) hx hb dJ6_numberOfLeadingZeros_0f7a4_75 (by decide) ?_
            refine lv_iushr hx hb dJ6_numberOfLeadingZeros_0f7a4_76 rfl ?_
            refine bw_re (show ((nI (n / 4)).toUInt32 >>> ((1 : Int32).toUInt32 &&& Int32.toUInt32 31)).toInt32 = nI ((n / 4) / 2) from (pk_ushrN (n := n / 4) (by omega) 1 1 (by decide))) ?_
            refine lv_isub hx hb dJ6_numberOfLeadingZeros_0f7a4_77 ?_
            refine bw_re (show 29 - (nI ((n / 4) / 2)) = nI (29 - ((n / 4) / 2)) from pk_sub (a := 29) (b := (n / 4) / 2) (by omega)) ?_
            subst hQ
            have hpost : ∃ q9, q9 ≤ 31 ∧ (nI (29 - ((n / 4) / 2))) = nI q9 ∧ 2 ^ (31 - q9) ≤ n ∧ n < 2 ^ (32 - q9) := by
              rcases (show (n / 4) / 2 = 0 ∨ (n / 4) / 2 = 1 by omega) with q8 | q8
              · rw [q8]
                refine ⟨_, ?_, rfl, ?_, ?_⟩ <;> simp only [Nat.reduceSub, Nat.reducePow] <;> omega
              · rw [q8]
                refine ⟨_, ?_, rfl, ?_, ?_⟩ <;> simp only [Nat.reduceSub, Nat.reducePow] <;> omega
            exact W.iret (v := nI (29 - ((n / 4) / 2))) hx hb hr (fun t9 ht hW => ⟨_, rfl, hpost, by rw [ht]⟩) (fun q h => by cases h) dJ6_numberOfLeadingZeros_0f7a4_78
        · skip
          refine lv_iinc (v := 27) (lv' := [(1, .int 27), (0, .int (nI n))]) hx hb dJ6_numberOfLeadingZeros_0f7a4_54 hl (k := 0) rfl (by decide) (by decide) rfl (fun ls hl => ?_)
          refine lv_iload_n hx hb dJ6_numberOfLeadingZeros_0f7a4_57 rfl (lv_at hl 1 rfl) ?_
          refine lv_iconst (v := 4) hx hb dJ6_numberOfLeadingZeros_0f7a4_58 (by decide) ?_
          refine lv_iushr hx hb dJ6_numberOfLeadingZeros_0f7a4_59 rfl ?_
          refine bw_re (show ((nI n).toUInt32 >>> ((4 : Int32).toUInt32 &&& Int32.toUInt32 31)).toInt32 = nI (n / 16) from (pk_ushrN (n := n) (by omega) 4 4 (by decide))) ?_
          refine lv_istore_n (lv' := [(0, .int (nI (n / 16))), (1, .int 27)]) hx hb dJ6_numberOfLeadingZeros_0f7a4_60 rfl hl (by decide) rfl (fun ls hl => ?_)
          refine lv_iload_n hx hb dJ6_numberOfLeadingZeros_0f7a4_61 rfl (lv_at hl 0 rfl) ?_
          refine lv_iconst (v := 4) hx hb dJ6_numberOfLeadingZeros_0f7a4_62 (by decide) ?_
          refine bw_icmp_lt (tgt := 73) (a := ((n / 16 : Nat) : Int)) (b := 4) hx hb dJ6_numberOfLeadingZeros_0f7a4_63 (by decide) (nI_toInt (by omega)) rfl (fun c_6 => ?_) (fun c_6 => ?_)
          · skip
            refine lv_iload_n hx hb dJ6_numberOfLeadingZeros_0f7a4_73 rfl (lv_at hl 1 rfl) ?_
            refine lv_iload_n hx hb dJ6_numberOfLeadingZeros_0f7a4_74 rfl (lv_at hl 0 rfl) ?_
            refine lv_iconst (v := 1) hx hb dJ6_numberOfLeadingZeros_0f7a4_75 (by decide) ?_
            refine lv_iushr hx hb dJ6_numberOfLeadingZeros_0f7a4_76 rfl ?_
            refine bw_re (show ((nI (n / 16)).toUInt32 >>> ((1 : Int32).toUInt32 &&& Int32.toUInt32 31)).toInt32 = nI ((n / 16) / 2) from (pk_ushrN (n := n / 16) (by omega) 1 1 (by decide))) ?_
            refine lv_isub hx hb dJ6_numberOfLeadingZeros_0f7a4_77 ?_
            refine bw_re (show 27 - (nI ((n / 16) / 2)) = nI (27 - ((n / 16) / 2)) from pk_sub (a := 27) (b := (n / 16) / 2) (by omega)) ?_
            subst hQ
            have hpost : ∃ q9, q9 ≤ 31 ∧ (nI (27 - ((n / 16) / 2))) = nI q9 ∧ 2 ^ (31 - q9) ≤ n ∧ n < 2 ^ (32 - q9) := by
              rcases (show (n / 16) / 2 = 0 ∨ (n / 16) / 2 = 1 by omega) with q8 | q8
              · rw [q8]
                refine ⟨_, ?_, rfl, ?_, ?_⟩ <;> simp only [Nat.reduceSub, Nat.reducePow] <;> omega
              · rw [q8]
                refine ⟨_, ?_, rfl, ?_, ?_⟩ <;> simp only [Nat.reduceSub, Nat.reducePow] <;> omega
            exact W.iret (v := nI (27 - ((n / 16) / 2))) hx hb hr (fun t9 ht hW => ⟨_, rfl, hpost, by rw [ht]⟩) (fun q h => by cases h) dJ6_numberOfLeadingZeros_0f7a4_78
          · skip
            refine lv_iinc (v := 25) (lv' := [(1, .int 25), (0, .int (nI (n / 16)))]) hx hb dJ6_numberOfLeadingZeros_0f7a4_66 hl (k := 1) rfl (by decide) (by decide) rfl (fun ls hl => ?_)
            refine lv_iload_n hx hb dJ6_numberOfLeadingZeros_0f7a4_69 rfl (lv_at hl 1 rfl) ?_
            refine lv_iconst (v := 2) hx hb dJ6_numberOfLeadingZeros_0f7a4_70 (by decide) ?_
            refine lv_iushr hx hb dJ6_numberOfLeadingZeros_0f7a4_71 rfl ?_
            refine bw_re (show ((nI (n / 16)).toUInt32 >>> ((2 : Int32).toUInt32 &&& Int32.toUInt32 31)).toInt32 = nI ((n / 16) / 4) from (pk_ushrN (n := n / 16) (by omega) 2 2 (by decide))) ?_
            refine lv_istore_n (lv' := [(0, .int (nI ((n / 16) / 4))), (1, .int 25)]) hx hb dJ6_numberOfLeadingZeros_0f7a4_72 rfl hl (by decide) rfl (fun ls hl => ?_)
            refine lv_iload_n hx hb dJ6_numberOfLeadingZeros_0f7a4_73 rfl (lv_at hl 1 rfl) ?_
            refine lv_iload_n hx hb dJ6_numberOfLeadingZeros_0f7a4_74 rfl (lv_at hl 0 rfl) ?_
            refine lv_iconst (v := 1) hx hb dJ6_numberOfLeadingZeros_0f7a4_75 (by decide) ?_
            refine lv_iushr hx hb dJ6_numberOfLeadingZeros_0f7a4_76 rfl ?_
            refine bw_re (show ((nI ((n / 16) / 4)).toUInt32 >>> ((1 : Int32).toUInt32 &&& Int32.toUInt32 31)).toInt32 = nI (((n / 16) / 4) / 2) from (pk_ushrN (n := (n / 16) / 4) (by omega) 1 1 (by decide))) ?_
            refine lv_isub hx hb dJ6_numberOfLeadingZeros_0f7a4_77 ?_
            refine bw_re (show 25 - (nI (((n / 16) / 4) / 2)) = nI (25 - (((n / 16) / 4) / 2)) from pk_sub (a := 25) (b := ((n / 16) / 4) / 2) (by omega)) ?_
            subst hQ
            have hpost : ∃ q9, q9 ≤ 31 ∧ (nI (25 - (((n / 16) / 4) / 2))) = nI q9 ∧ 2 ^ (31 - q9) ≤ n ∧ n < 2 ^ (32 - q9) := by
              rcases (show ((n / 16) / 4) / 2 = 0 ∨ ((n / 16) / 4) / 2 = 1 by omega) with q8 | q8
              · rw [q8]
                refine ⟨_, ?_, rfl, ?_, ?_⟩ <;> simp only [Nat.reduceSub, Nat.reducePow] <;> omega
              · rw [q8]
                refine ⟨_, ?_, rfl, ?_, ?_⟩ <;> simp only [Nat.reduceSub, Nat.reducePow] <;> omega
            exact W.iret (v := nI (25 - (((n / 16) / 4) / 2))) hx hb hr (fun t9 ht hW => ⟨_, rfl, hpost, by rw [ht]⟩) (fun q h => by cases h) dJ6_numberOfLeadingZeros_0f7a4_78
      · skip
        refine lv_iinc (v := 23) (lv' := [(1, .int 23), (0, .int (nI n))]) hx hb dJ6_numberOfLeadingZeros_0f7a4_40 hl (k := 0) rfl (by decide) (by decide) rfl (fun ls hl => ?_)
        refine lv_iload_n hx hb dJ6_numberOfLeadingZeros_0f7a4_43 rfl (lv_at hl 1 rfl) ?_
        refine lv_bipush (v := 8) hx hb dJ6_numberOfLeadingZeros_0f7a4_44 (by decide) ?_
        refine lv_iushr hx hb dJ6_numberOfLeadingZeros_0f7a4_46 rfl ?_
        refine bw_re (show ((nI n).toUInt32 >>> ((8 : Int32).toUInt32 &&& Int32.toUInt32 31)).toInt32 = nI (n / 256) from (pk_ushrN (n := n) (by omega) 8 8 (by decide))) ?_
        refine lv_istore_n (lv' := [(0, .int (nI (n / 256))), (1, .int 23)]) hx hb dJ6_numberOfLeadingZeros_0f7a4_47 rfl hl (by decide) rfl (fun ls hl => ?_)
        refine lv_iload_n hx hb dJ6_numberOfLeadingZeros_0f7a4_48 rfl (lv_at hl 0 rfl) ?_
        refine lv_bipush (v := 16) hx hb dJ6_numberOfLeadingZeros_0f7a4_49 (by decide) ?_
        refine bw_icmp_lt (tgt := 61) (a := ((n / 256 : Nat) : Int)) (b := 16) hx hb dJ6_numberOfLeadingZeros_0f7a4_51 (by decide) (nI_toInt (by omega)) rfl (fun c_7 => ?_) (fun c_7 => ?_)
        · skip
          refine lv_iload_n hx hb dJ6_numberOfLeadingZeros_0f7a4_61 rfl (lv_at hl 0 rfl) ?_
          refine lv_iconst (v := 4) hx hb dJ6_numberOfLeadingZeros_0f7a4_62 (by decide) ?_
          refine bw_icmp_lt (tgt := 73) (a := ((n / 256 : Nat) : Int)) (b := 4) hx hb dJ6_numberOfLeadingZeros_0f7a4_63 (by decide) (nI_toInt (by omega)) rfl (fun c_8 => ?_) (fun c_8 => ?_)
          · skip
            refine lv_iload_n hx hb dJ6_numberOfLeadingZeros_0f7a4_73 rfl (lv_at hl 1 rfl) ?_
            refine lv_iload_n hx hb dJ6_numberOfLeadingZeros_0f7a4_74 rfl (lv_at hl 0 rfl) ?_
            refine lv_iconst (v := 1) hx hb dJ6_numberOfLeadingZeros_0f7a4_75 (by decide) ?_
            refine lv_iushr hx hb dJ6_numberOfLeadingZeros_0f7a4_76 rfl ?_
            refine bw_re (show ((nI (n / 256)).toUInt32 >>> ((1 : Int32).toUInt32 &&& Int32.toUInt32 31)).toInt32 = nI ((n / 256) / 2) from (pk_ushrN (n := n / 256) (by omega) 1 1 (by decide))) ?_
            refine lv_isub hx hb dJ6_numberOfLeadingZeros_0f7a4_77 ?_
            refine bw_re (show 23 - (nI ((n / 256) / 2)) = nI (23 - ((n / 256) / 2)) from pk_sub (a := 23) (b := (n / 256) / 2) (by omega)) ?_
            subst hQ
            have hpost : ∃ q9, q9 ≤ 31 ∧ (nI (23 - ((n / 256) / 2))) = nI q9 ∧ 2 ^ (31 - q9) ≤ n ∧ n < 2 ^ (32 - q9) := by
              rcases (show (n / 256) / 2 = 0 ∨ (n / 256) / 2 = 1 by omega) with q8 | q8
              · rw [q8]
                refine ⟨_, ?_, rfl, ?_, ?_⟩ <;> simp only [Nat.reduceSub, Nat.reducePow] <;> omega
              · rw [q8]
                refine ⟨_, ?_, rfl, ?_, ?_⟩ <;> simp only [Nat.reduceSub, Nat.reducePow] <;> omega
            exact W.iret (v := nI (23 - ((n / 256) / 2))) hx hb hr (fun t9 ht hW => ⟨_, rfl, hpost, by rw [ht]⟩) (fun q h => by cases h) dJ6_numberOfLeadingZeros_0f7a4_78
          · skip
            refine lv_iinc (v := 21) (lv' := [(1, .int 21), (0, .int (nI (n / 256)))]) hx hb dJ6_numberOfLeadingZeros_0f7a4_66 hl (k := 1) rfl (by decide) (by decide) rfl (fun ls hl => ?_)
            refine lv_iload_n hx hb dJ6_numberOfLeadingZeros_0f7a4_69 rfl (lv_at hl 1 rfl) ?_
            refine lv_iconst (v := 2) hx hb dJ6_numberOfLeadingZeros_0f7a4_70 (by decide) ?_
            refine lv_iushr hx hb dJ6_numberOfLeadingZeros_0f7a4_71 rfl ?_
            refine bw_re (show ((nI (n / 256)).toUInt32 >>> ((2 : Int32).toUInt32 &&& Int32.toUInt32 31)).toInt32 = nI ((n / 256) / 4) from (pk_ushrN (n := n / 256) (by omega) 2 2 (by decide))) ?_
            refine lv_istore_n (lv' := [(0, .int (nI ((n / 256) / 4))), (1, .int 21)]) hx hb dJ6_numberOfLeadingZeros_0f7a4_72 rfl hl (by decide) rfl (fun ls hl => ?_)
            refine lv_iload_n hx hb dJ6_numberOfLeadingZeros_0f7a4_73 rfl (lv_at hl 1 rfl) ?_
            refine lv_iload_n hx hb dJ6_numberOfLeadingZeros_0f7a4_74 rfl (lv_at hl 0 rfl) ?_
            refine lv_iconst (v := 1) hx hb dJ6_numberOfLeadingZeros_0f7a4_75 (by decide) ?_
            refine lv_iushr hx hb dJ6_numberOfLeadingZeros_0f7a4_76 rfl ?_
            refine bw_re (show ((nI ((n / 256) / 4)).toUInt32 >>> ((1 : Int32).toUInt32 &&& Int32.toUInt32 31)).toInt32 = nI (((n / 256) / 4) / 2) from (pk_ushrN (n := (n / 256) / 4) (by omega) 1 1 (by decide))) ?_
            refine lv_isub hx hb dJ6_numberOfLeadingZeros_0f7a4_77 ?_
            refine bw_re (show 21 - (nI (((n / 256) / 4) / 2)) = nI (21 - (((n / 256) / 4) / 2)) from pk_sub (a := 21) (b := ((n / 256) / 4) / 2) (by omega)) ?_
            subst hQ
            have hpost : ∃ q9, q9 ≤ 31 ∧ (nI (21 - (((n / 256) / 4) / 2))) = nI q9 ∧ 2 ^ (31 - q9) ≤ n ∧ n < 2 ^ (32 - q9) := by
              rcases (show ((n / 256) / 4) / 2 = 0 ∨ ((n / 256) / 4) / 2 = 1 by omega) with q8 | q8
              · rw [q8]
                refine ⟨_, ?_, rfl, ?_, ?_⟩ <;> simp only [Nat.reduceSub, Nat.reducePow] <;> omega
              · rw [q8]
                refine ⟨_, ?_, rfl, ?_, ?_⟩ <;> simp only [Nat.reduceSub, Nat.reducePow] <;> omega
            exact W.iret (v := nI (21 - (((n / 256) / 4) / 2))) hx hb hr (fun t9 ht hW => ⟨_, rfl, hpost, by rw [ht]⟩) (fun q h => by cases h) dJ6_numberOfLeadingZeros_0f7a4_78
        · skip
          refine lv_iinc (v := 19) (lv' := [(1, .int 19), (0, .int (nI (n / 256)))]) hx hb dJ6_numberOfLeadingZeros_0f7a4_54 hl (k := 1) rfl (by decide) (by decide) rfl (fun ls hl => ?_)
          refine lv_iload_n hx hb dJ6_numberOfLeadingZeros_0f7a4_57 rfl (lv_at hl 1 rfl) ?_
          refine lv_iconst (v := 4) hx hb dJ6_numberOfLeadingZeros_0f7a4_58 (by decide) ?_
          refine lv_iushr hx hb dJ6_numberOfLeadingZeros_0f7a4_59 rfl ?_
          refine bw_re (show ((nI (n / 256)).toUInt32 >>> ((4 : Int32).toUInt32 &&& Int32.toUInt32 31)).toInt32 = nI ((n / 256) / 16) from (pk_ushrN (n := n / 256) (by omega) 4 4 (by decide))) ?_
          refine lv_istore_n (lv' := [(0, .int (nI ((n / 256) / 16))), (1, .int 19)]) hx hb dJ6_numberOfLeadingZeros_0f7a4_60 rfl hl (by decide) rfl (fun ls hl => ?_)
          refine lv_iload_n hx hb dJ6_numberOfLeadingZeros_0f7a4_61 rfl (lv_at hl 0 rfl) ?_
          refine lv_iconst (v := 4) hx hb dJ6_numberOfLeadingZeros_0f7a4_62 (by decide) ?_
          refine bw_icmp_lt (tgt := 73) (a := (((n / 256) / 16 : Nat) : Int)) (b := 4) hx hb dJ6_numberOfLeadingZeros_0f7a4_63 (by decide) (nI_toInt (by omega)) rfl (fun c_9 => ?_) (fun c_9 => ?_)
          · skip
            refine lv_iload_n hx hb dJ6_numberOfLeadingZeros_0f7a4_73 rfl (lv_at hl 1 rfl) ?_
            refine lv_iload_n hx hb dJ6_numberOfLeadingZeros_0f7a4_74 rfl (lv_at hl 0 rfl) ?_
            refine lv_iconst (v := 1) hx hb dJ6_numberOfLeadingZeros_0f7a4_75 (by decide) ?_
            refine lv_iushr hx hb dJ6_numberOfLeadingZeros_0f7a4_76 rfl ?_
            refine bw_re (show ((nI ((n / 256) / 16)).toUInt32 >>> ((1 : Int32).toUInt32 &&& Int32.toUInt32 31)).toInt32 = nI (((n / 256) / 16) / 2) from (pk_ushrN (n := (n / 256) / 16) (by omega) 1 1 (by decide))) ?_
            refine lv_isub hx hb dJ6_numberOfLeadingZeros_0f7a4_77 ?_
            refine bw_re (show 19 - (nI (((n / 256) / 16) / 2)) = nI (19 - (((n / 256) / 16) / 2)) from pk_sub (a := 19) (b := ((n / 256) / 16) / 2) (by omega)) ?_
            subst hQ
            have hpost : ∃ q9, q9 ≤ 31 ∧ (nI (19 - (((n / 256) / 16) / 2))) = nI q9 ∧ 2 ^ (31 - q9) ≤ n ∧ n < 2 ^ (32 - q9) := by
              rcases (show ((n / 256) / 16) / 2 = 0 ∨ ((n / 256) / 16) / 2 = 1 by omega) with q8 | q8
              · rw [q8]
                refine ⟨_, ?_, rfl, ?_, ?_⟩ <;> simp only [Nat.reduceSub, Nat.reducePow] <;> omega
              · rw [q8]
                refine ⟨_, ?_, rfl, ?_, ?_⟩ <;> simp only [Nat.reduceSub, Nat.reducePow] <;> omega
            exact W.iret (v := nI (19 - (((n / 256) / 16) / 2))) hx hb hr (fun t9 ht hW => ⟨_, rfl, hpost, by rw [ht]⟩) (fun q h => by cases h) dJ6_numberOfLeadingZeros_0f7a4_78
          · skip
            refine lv_iinc (v := 17) (lv' := [(1, .int 17), (0, .int (nI ((n / 256) / 16)))]) hx hb dJ6_numberOfLeadingZeros_0f7a4_66 hl (k := 1) rfl (by decide) (by decide) rfl (fun ls hl => ?_)
            refine lv_iload_n hx hb dJ6_numberOfLeadingZeros_0f7a4_69 rfl (lv_at hl 1 rfl) ?_
            refine lv_iconst (v := 2) hx hb dJ6_numberOfLeadingZeros_0f7a4_70 (by decide) ?_
            refine lv_iushr hx hb dJ6_numberOfLeadingZeros_0f7a4_71 rfl ?_
            refine bw_re (show ((nI ((n / 256) / 16)).toUInt32 >>> ((2 : Int32).toUInt32 &&& Int32.toUInt32 31)).toInt32 = nI (((n / 256) / 16) / 4) from (pk_ushrN (n := (n / 256) / 16) (by omega) 2 2 (by decide))) ?_
            refine lv_istore_n (lv' := [(0, .int (nI (((n / 256) / 16) / 4))), (1, .int 17)]) hx hb dJ6_numberOfLeadingZeros_0f7a4_72 rfl hl (by decide) rfl (fun ls hl => ?_)
            refine lv_iload_n hx hb dJ6_numberOfLeadingZeros_0f7a4_73 rfl (lv_at hl 1 rfl) ?_
            refine lv_iload_n hx hb dJ6_numberOfLeadingZeros_0f7a4_74 rfl (lv_at hl 0 rfl) ?_
            refine lv_iconst (v := 1) hx hb dJ6_numberOfLeadingZeros_0f7a4_75 (by decide) ?_
            refine lv_iushr hx hb dJ6_numberOfLeadingZeros_0f7a4_76 rfl ?_
            refine bw_re (show ((nI (((n / 256) / 16) / 4)).toUInt32 >>> ((1 : Int32).toUInt32 &&& Int32.toUInt32 31)).toInt32 = nI ((((n / 256) / 16) / 4) / 2) from (pk_ushrN (n := ((n / 256) / 16) / 4) (by omega) 1 1 (by decide))) ?_
            refine lv_isub hx hb dJ6_numberOfLeadingZeros_0f7a4_77 ?_
            refine bw_re (show 17 - (nI ((((n / 256) / 16) / 4) / 2)) = nI (17 - ((((n / 256) / 16) / 4) / 2)) from pk_sub (a := 17) (b := (((n / 256) / 16) / 4) / 2) (by omega)) ?_
            subst hQ
            have hpost : ∃ q9, q9 ≤ 31 ∧ (nI (17 - ((((n / 256) / 16) / 4) / 2))) = nI q9 ∧ 2 ^ (31 - q9) ≤ n ∧ n < 2 ^ (32 - q9) := by
              rcases (show (((n / 256) / 16) / 4) / 2 = 0 ∨ (((n / 256) / 16) / 4) / 2 = 1 by omega) with q8 | q8
              · rw [q8]
                refine ⟨_, ?_, rfl, ?_, ?_⟩ <;> simp only [Nat.reduceSub, Nat.reducePow] <;> omega
              · rw [q8]
                refine ⟨_, ?_, rfl, ?_, ?_⟩ <;> simp only [Nat.reduceSub, Nat.reducePow] <;> omega
            exact W.iret (v := nI (17 - ((((n / 256) / 16) / 4) / 2))) hx hb hr (fun t9 ht hW => ⟨_, rfl, hpost, by rw [ht]⟩) (fun q h => by cases h) dJ6_numberOfLeadingZeros_0f7a4_78
    · skip
      refine lv_iinc (v := 15) (lv' := [(1, .int 15), (0, .int (nI n))]) hx hb dJ6_numberOfLeadingZeros_0f7a4_25 hl (k := 0) rfl (by decide) (by decide) rfl (fun ls hl => ?_)
      refine lv_iload_n hx hb dJ6_numberOfLeadingZeros_0f7a4_28 rfl (lv_at hl 1 rfl) ?_
      refine lv_bipush (v := 16) hx hb dJ6_numberOfLeadingZeros_0f7a4_29 (by decide) ?_
      refine lv_iushr hx hb dJ6_numberOfLeadingZeros_0f7a4_31 rfl ?_
      refine bw_re (show ((nI n).toUInt32 >>> ((16 : Int32).toUInt32 &&& Int32.toUInt32 31)).toInt32 = nI (n / 65536) from (pk_ushrN (n := n) (by omega) 16 16 (by decide))) ?_
      refine lv_istore_n (lv' := [(0, .int (nI (n / 65536))), (1, .int 15)]) hx hb dJ6_numberOfLeadingZeros_0f7a4_32 rfl hl (by decide) rfl (fun ls hl => ?_)
      refine lv_iload_n hx hb dJ6_numberOfLeadingZeros_0f7a4_33 rfl (lv_at hl 0 rfl) ?_
      refine lv_sipush (v := 256) hx hb dJ6_numberOfLeadingZeros_0f7a4_34 (by decide) ?_
      refine bw_icmp_lt (tgt := 48) (a := ((n / 65536 : Nat) : Int)) (b := 256) hx hb dJ6_numberOfLeadingZeros_0f7a4_37 (by decide) (nI_toInt (by omega)) rfl (fun c_10 => ?_) (fun c_10 => ?_)
      · skip
        refine lv_iload_n hx hb dJ6_numberOfLeadingZeros_0f7a4_48 rfl (lv_at hl 0 rfl) ?_
        refine lv_bipush (v := 16) hx hb dJ6_numberOfLeadingZeros_0f7a4_49 (by decide) ?_
        refine bw_icmp_lt (tgt := 61) (a := ((n / 65536 : Nat) : Int)) (b := 16) hx hb dJ6_numberOfLeadingZeros_0f7a4_51 (by decide) (nI_toInt (by omega)) rfl (fun c_11 => ?_) (fun c_11 => ?_)
        · skip
          refine lv_iload_n hx hb dJ6_numberOfLeadingZeros_0f7a4_61 rfl (lv_at hl 0 rfl) ?_
          refine lv_iconst (v := 4) hx hb dJ6_numberOfLeadingZeros_0f7a4_62 (by decide) ?_
          refine bw_icmp_lt (tgt := 73) (a := ((n / 65536 : Nat) : Int)) (b := 4) hx hb dJ6_numberOfLeadingZeros_0f7a4_63 (by decide) (nI_toInt (by omega)) rfl (fun c_12 => ?_) (fun c_12 => ?_)
          · skip
            refine lv_iload_n hx hb dJ6_numberOfLeadingZeros_0f7a4_73 rfl (lv_at hl 1 rfl) ?_
            refine lv_iload_n hx hb dJ6_numberOfLeadingZeros_0f7a4_74 rfl (lv_at hl 0 rfl) ?_
            refine lv_iconst (v := 1) hx hb dJ6_numberOfLeadingZeros_0f7a4_75 (by decide) ?_
            refine lv_iushr hx hb dJ6_numberOfLeadingZeros_0f7a4_76 rfl ?_
            refine bw_re (show ((nI (n / 65536)).toUInt32 >>> ((1 : Int32).toUInt32 &&& Int32.toUInt32 31)).toInt32 = nI ((n / 65536) / 2) from (pk_ushrN (n := n / 65536) (by omega) 1 1 (by decide))) ?_
            refine lv_isub hx hb dJ6_numberOfLeadingZeros_0f7a4_77 ?_
            refine bw_re (show 15 - (nI ((n / 65536) / 2)) = nI (15 - ((n / 65536) / 2)) from pk_sub (a := 15) (b := (n / 65536) / 2) (by omega)) ?_
            subst hQ
            have hpost : ∃ q9, q9 ≤ 31 ∧ (nI (15 - ((n / 65536) / 2))) = nI q9 ∧ 2 ^ (31 - q9) ≤ n ∧ n < 2 ^ (32 - q9) := by
              rcases (show (n / 65536) / 2 = 0 ∨ (n / 65536) / 2 = 1 by omega) with q8 | q8
              · rw [q8]
                refine ⟨_, ?_, rfl, ?_, ?_⟩ <;> simp only [Nat.reduceSub, Nat.reducePow] <;> omega
              · rw [q8]
                refine ⟨_, ?_, rfl, ?_, ?_⟩ <;> simp only [Nat.reduceSub, Nat.reducePow] <;> omega
            exact W.iret (v := nI (15 - ((n / 65536) / 2))) hx hb hr (fun t9 ht hW => ⟨_, rfl, hpost, by rw [ht]⟩) (fun q h => by cases h) dJ6_numberOfLeadingZeros_0f7a4_78
          · skip
            refine lv_iinc (v := 13) (lv' := [(1, .int 13), (0, .int (nI (n / 65536)))]) hx hb dJ6_numberOfLeadingZeros_0f7a4_66 hl (k := 1) rfl (by decide) (by decide) rfl (fun ls hl => ?_)
            refine lv_iload_n hx hb dJ6_numberOfLeadingZeros_0f7a4_69 rfl (lv_at hl 1 rfl) ?_
            refine lv_iconst (v := 2) hx hb dJ6_numberOfLeadingZeros_0f7a4_70 (by decide) ?_
            refine lv_iushr hx hb dJ6_numberOfLeadingZeros_0f7a4_71 rfl ?_
            refine bw_re (show ((nI (n / 65536)).toUInt32 >>> ((2 : Int32).toUInt32 &&& Int32.toUInt32 31)).toInt32 = nI ((n / 65536) / 4) from (pk_ushrN (n := n / 65536) (by omega) 2 2 (by decide))) ?_
            refine lv_istore_n (lv' := [(0, .int (nI ((n / 65536) / 4))), (1, .int 13)]) hx hb dJ6_numberOfLeadingZeros_0f7a4_72 rfl hl (by decide) rfl (fun ls hl => ?_)
            refine lv_iload_n hx hb dJ6_numberOfLeadingZeros_0f7a4_73 rfl (lv_at hl 1 rfl) ?_
            refine lv_iload_n hx hb dJ6_numberOfLeadingZeros_0f7a4_74 rfl (lv_at hl 0 rfl) ?_
            refine lv_iconst (v := 1) hx hb dJ6_numberOfLeadingZeros_0f7a4_75 (by decide) ?_
            refine lv_iushr hx hb dJ6_numberOfLeadingZeros_0f7a4_76 rfl ?_
            refine bw_re (show ((nI ((n / 65536) / 4)).toUInt32 >>> ((1 : Int32).toUInt32 &&& Int32.toUInt32 31)).toInt32 = nI (((n / 65536) / 4) / 2) from (pk_ushrN (n := (n / 65536) / 4) (by omega) 1 1 (by decide))) ?_
            refine lv_isub hx hb dJ6_numberOfLeadingZeros_0f7a4_77 ?_
            refine bw_re (show 13 - (nI (((n / 65536) / 4) / 2)) = nI (13 - (((n / 65536) / 4) / 2)) from pk_sub (a := 13) (b := ((n / 65536) / 4) / 2) (by omega)) ?_
            subst hQ
            have hpost : ∃ q9, q9 ≤ 31 ∧ (nI (13 - (((n / 65536) / 4) / 2))) = nI q9 ∧ 2 ^ (31 - q9) ≤ n ∧ n < 2 ^ (32 - q9) := by
              rcases (show ((n / 65536) / 4) / 2 = 0 ∨ ((n / 65536) / 4) / 2 = 1 by omega) with q8 | q8
              · rw [q8]
                refine ⟨_, ?_, rfl, ?_, ?_⟩ <;> simp only [Nat.reduceSub, Nat.reducePow] <;> omega
              · rw [q8]
                refine ⟨_, ?_, rfl, ?_, ?_⟩ <;> simp only [Nat.reduceSub, Nat.reducePow] <;> omega
            exact W.iret (v := nI (13 - (((n / 65536) / 4) / 2))) hx hb hr (fun t9 ht hW => ⟨_, rfl, hpost, by rw [ht]⟩) (fun q h => by cases h) dJ6_numberOfLeadingZeros_0f7a4_78
        · skip
          refine lv_iinc (v := 11) (lv' := [(1, .int 11), (0, .int (nI (n / 65536)))]) hx hb dJ6_numberOfLeadingZeros_0f7a4_54 hl (k := 1) rfl (by decide) (by decide) rfl (fun ls hl => ?_)
          refine lv_iload_n hx hb dJ6_numberOfLeadingZeros_0f7a4_57 rfl (lv_at hl 1 rfl) ?_
          refine lv_iconst (v := 4) hx hb dJ6_numberOfLeadingZeros_0f7a4_58 (by decide) ?_
          refine lv_iushr hx hb dJ6_numberOfLeadingZeros_0f7a4_59 rfl ?_
          refine bw_re (show ((nI (n / 65536)).toUInt32 >>> ((4 : Int32).toUInt32 &&& Int32.toUInt32 31)).toInt32 = nI ((n / 65536) / 16) from (pk_ushrN (n := n / 65536) (by omega) 4 4 (by decide))) ?_
          refine lv_istore_n (lv' := [(0, .int (nI ((n / 65536) / 16))), (1, .int 11)]) hx hb dJ6_numberOfLeadingZeros_0f7a4_60 rfl hl (by decide) rfl (fun ls hl => ?_)
          refine lv_iload_n hx hb dJ6_numberOfLeadingZeros_0f7a4_61 rfl (lv_at hl 0 rfl) ?_
          refine lv_iconst (v := 4) hx hb dJ6_numberOfLeadingZeros_0f7a4_62 (by decide) ?_
          refine bw_icmp_lt (tgt := 73) (a := (((n / 65536) / 16 : Nat) : Int)) (b := 4) hx hb dJ6_numberOfLeadingZeros_0f7a4_63 (by decide) (nI_toInt (by omega)) rfl (fun c_13 => ?_) (fun c_13 => ?_)
          · skip
            refine lv_iload_n hx hb dJ6_numberOfLeadingZeros_0f7a4_73 rfl (lv_at hl 1 rfl) ?_
            refine lv_iload_n hx hb dJ6_numberOfLeadingZeros_0f7a4_74 rfl (lv_at hl 0 rfl) ?_
            refine lv_iconst (v := 1) hx hb dJ6_numberOfLeadingZeros_0f7a4_75 (by decide) ?_
            refine lv_iushr hx hb dJ6_numberOfLeadingZeros_0f7a4_76 rfl ?_
            refine bw_re (show ((nI ((n / 65536) / 16)).toUInt32 >>> ((1 : Int32).toUInt32 &&& Int32.toUInt32 31)).toInt32 = nI (((n / 65536) / 16) / 2) from (pk_ushrN (n := (n / 65536) / 16) (by omega) 1 1 (by decide))) ?_
            refine lv_isub hx hb dJ6_numberOfLeadingZeros_0f7a4_77 ?_
            refine bw_re (show 11 - (nI (((n / 65536) / 16) / 2)) = nI (11 - (((n / 65536) / 16) / 2)) from pk_sub (a := 11) (b := ((n / 65536) / 16) / 2) (by omega)) ?_
            subst hQ
            have hpost : ∃ q9, q9 ≤ 31 ∧ (nI (11 - (((n / 65536) / 16) / 2))) = nI q9 ∧ 2 ^ (31 - q9) ≤ n ∧ n < 2 ^ (32 - q9) := by
              rcases (show ((n / 65536) / 16) / 2 = 0 ∨ ((n / 65536) / 16) / 2 = 1 by omega) with q8 | q8
              · rw [q8]
                refine ⟨_, ?_, rfl, ?_, ?_⟩ <;> simp only [Nat.reduceSub, Nat.reducePow] <;> omega
              · rw [q8]
                refine ⟨_, ?_, rfl, ?_, ?_⟩ <;> simp only [Nat.reduceSub, Nat.reducePow] <;> omega
            exact W.iret (v := nI (11 - (((n / 65536) / 16) / 2))) hx hb hr (fun t9 ht hW => ⟨_, rfl, hpost, by rw [ht]⟩) (fun q h => by cases h) dJ6_numberOfLeadingZeros_0f7a4_78
          · skip
            refine lv_iinc (v := 9) (lv' := [(1, .int 9), (0, .int (nI ((n / 65536) / 16)))]) hx hb dJ6_numberOfLeadingZeros_0f7a4_66 hl (k := 1) rfl (by decide) (by decide) rfl (fun ls hl => ?_)
            refine lv_iload_n hx hb dJ6_numberOfLeadingZeros_0f7a4_69 rfl (lv_at hl 1 rfl) ?_
            refine lv_iconst (v := 2) hx hb dJ6_numberOfLeadingZeros_0f7a4_70 (by decide) ?_
            refine lv_iushr hx hb dJ6_numberOfLeadingZeros_0f7a4_71 rfl ?_
            refine bw_re (show ((nI ((n / 65536) / 16)).toUInt32 >>> ((2 : Int32).toUInt32 &&& Int32.toUInt32 31)).toInt32 = nI (((n / 65536) / 16) / 4) from (pk_ushrN (n := (n / 65536) / 16) (by omega) 2 2 (by decide))) ?_
            refine lv_istore_n (lv' := [(0, .int (nI (((n / 65536) / 16) / 4))), (1, .int 9)]) hx hb dJ6_numberOfLeadingZeros_0f7a4_72 rfl hl (by decide) rfl (fun ls hl => ?_)
            refine lv_iload_n hx hb dJ6_numberOfLeadingZeros_0f7a4_73 rfl (lv_at hl 1 rfl) ?_
            refine lv_iload_n hx hb dJ6_numberOfLeadingZeros_0f7a4_74 rfl (lv_at hl 0 rfl) ?_
            refine lv_iconst (v := 1) hx hb dJ6_numberOfLeadingZeros_0f7a4_75 (by decide) ?_
            refine lv_iushr hx hb dJ6_numberOfLeadingZeros_0f7a4_76 rfl ?_
            refine bw_re (show ((nI (((n / 65536) / 16) / 4)).toUInt32 >>> ((1 : Int32).toUInt32 &&& Int32.toUInt32 31)).toInt32 = nI ((((n / 65536) / 16) / 4) / 2) from (pk_ushrN (n := ((n / 65536) / 16) / 4) (by omega) 1 1 (by decide))) ?_
            refine lv_isub hx hb dJ6_numberOfLeadingZeros_0f7a4_77 ?_
            refine bw_re (show 9 - (nI ((((n / 65536) / 16) / 4) / 2)) = nI (9 - ((((n / 65536) / 16) / 4) / 2)) from pk_sub (a := 9) (b := (((n / 65536) / 16) / 4) / 2) (by omega)) ?_
            subst hQ
            have hpost : ∃ q9, q9 ≤ 31 ∧ (nI (9 - ((((n / 65536) / 16) / 4) / 2))) = nI q9 ∧ 2 ^ (31 - q9) ≤ n ∧ n < 2 ^ (32 - q9) := by
              rcases (show (((n / 65536) / 16) / 4) / 2 = 0 ∨ (((n / 65536) / 16) / 4) / 2 = 1 by omega) with q8 | q8
              · rw [q8]
                refine ⟨_, ?_, rfl, ?_, ?_⟩ <;> simp only [Nat.reduceSub, Nat.reducePow] <;> omega
              · rw [q8]
                refine ⟨_, ?_, rfl, ?_, ?_⟩ <;> simp only [Nat.reduceSub, Nat.reducePow] <;> omega
            exact W.iret (v := nI (9 - ((((n / 65536) / 16) / 4) / 2))) hx hb hr (fun t9 ht hW => ⟨_, rfl, hpost, by rw [ht]⟩) (fun q h => by cases h) dJ6_numberOfLeadingZeros_0f7a4_78
      · skip
        refine lv_iinc (v := 7) (lv' := [(1, .int 7), (0, .int (nI (n / 65536)))]) hx hb dJ6_numberOfLeadingZeros_0f7a4_40 hl (k := 1) rfl (by decide) (by decide) rfl (fun ls hl => ?_)
        refine lv_iload_n hx hb dJ6_numberOfLeadingZeros_0f7a4_43 rfl (lv_at hl 1 rfl) ?_
        refine lv_bipush (v := 8) hx hb dJ6_numberOfLeadingZeros_0f7a4_44 (by decide) ?_
        refine lv_iushr hx hb dJ6_numberOfLeadingZeros_0f7a4_46 rfl ?_
        refine bw_re (show ((nI (n / 65536)).toUInt32 >>> ((8 : Int32).toUInt32 &&& Int32.toUInt32 31)).toInt32 = nI ((n / 65536) / 256) from (pk_ushrN (n := n / 65536) (by omega) 8 8 (by decide))) ?_
        refine lv_istore_n (lv' := [(0, .int (nI ((n / 65536) / 256))), (1, .int 7)]) hx hb dJ6_numberOfLeadingZeros_0f7a4_47 rfl hl (by decide) rfl (fun ls hl => ?_)
        refine lv_iload_n hx hb dJ6_numberOfLeadingZeros_0f7a4_48 rfl (lv_at hl 0 rfl) ?_
        refine lv_bipush (v := 16) hx hb dJ6_numberOfLeadingZeros_0f7a4_49 (by decide) ?_
        refine bw_icmp_lt (tgt := 61) (a := (((n / 65536) / 256 : Nat) : Int)) (b := 16) hx hb dJ6_numberOfLeadingZeros_0f7a4_51 (by decide) (nI_toInt (by omega)) rfl (fun c_14 => ?_) (fun c_14 => ?_)
        · skip
          refine lv_iload_n hx hb dJ6_numberOfLeadingZeros_0f7a4_61 rfl (lv_at hl 0 rfl) ?_
          refine lv_iconst (v := 4) hx hb dJ6_numberOfLeadingZeros_0f7a4_62 (by decide) ?_
          refine bw_icmp_lt (tgt := 73) (a := (((n / 65536) / 256 : Nat) : Int)) (b := 4) hx hb dJ6_numberOfLeadingZeros_0f7a4_63 (by decide) (nI_toInt (by omega)) rfl (fun c_15 => ?_) (fun c_15 => ?_)
          · skip
            refine lv_iload_n hx hb dJ6_numberOfLeadingZeros_0f7a4_73 rfl (lv_at hl 1 rfl) ?_
            refine lv_iload_n hx hb dJ6_numberOfLeadingZeros_0f7a4_74 rfl (lv_at hl 0 rfl) ?_
            refine lv_iconst (v := 1) hx hb dJ6_numberOfLeadingZeros_0f7a4_75 (by decide) ?_
            refine lv_iushr hx hb dJ6_numberOfLeadingZeros_0f7a4_76 rfl ?_
            refine bw_re (show ((nI ((n / 65536) / 256)).toUInt32 >>> ((1 : Int32).toUInt32 &&& Int32.toUInt32 31)).toInt32 = nI (((n / 65536) / 256) / 2) from (pk_ushrN (n := (n / 65536) / 256) (by omega) 1 1 (by decide))) ?_
            refine lv_isub hx hb dJ6_numberOfLeadingZeros_0f7a4_77 ?_
            refine bw_re (show 7 - (nI (((n / 65536) / 256) / 2)) = nI (7 - (((n / 65536) / 256) / 2)) from pk_sub (a := 7) (b := ((n / 65536) / 256) / 2) (by omega)) ?_
            subst hQ
            have hpost : ∃ q9, q9 ≤ 31 ∧ (nI (7 - (((n / 65536) / 256) / 2))) = nI q9 ∧ 2 ^ (31 - q9) ≤ n ∧ n < 2 ^ (32 - q9) := by
              rcases (show ((n / 65536) / 256) / 2 = 0 ∨ ((n / 65536) / 256) / 2 = 1 by omega) with q8 | q8
              · rw [q8]
                refine ⟨_, ?_, rfl, ?_, ?_⟩ <;> simp only [Nat.reduceSub, Nat.reducePow] <;> omega
              · rw [q8]
                refine ⟨_, ?_, rfl, ?_, ?_⟩ <;> simp only [Nat.reduceSub, Nat.reducePow] <;> omega
            exact W.iret (v := nI (7 - (((n / 65536) / 256) / 2))) hx hb hr (fun t9 ht hW => ⟨_, rfl, hpost, by rw [ht]⟩) (fun q h => by cases h) dJ6_numberOfLeadingZeros_0f7a4_78
          · skip
            refine lv_iinc (v := 5) (lv' := [(1, .int 5), (0, .int (nI ((n / 65536) / 256)))]) hx hb dJ6_numberOfLeadingZeros_0f7a4_66 hl (k := 1) rfl (by decide) (by decide) rfl (fun ls hl => ?_)
            refine lv_iload_n hx hb dJ6_numberOfLeadingZeros_0f7a4_69 rfl (lv_at hl 1 rfl) ?_
            refine lv_iconst (v := 2) hx hb dJ6_numberOfLeadingZeros_0f7a4_70 (by decide) ?_
            refine lv_iushr hx hb dJ6_numberOfLeadingZeros_0f7a4_71 rfl ?_
            refine bw_re (show ((nI ((n / 65536) / 256)).toUInt32 >>> ((2 : Int32).toUInt32 &&& Int32.toUInt32 31)).toInt32 = nI (((n / 65536) / 256) / 4) from (pk_ushrN (n := (n / 65536) / 256) (by omega) 2 2 (by decide))) ?_
            refine lv_istore_n (lv' := [(0, .int (nI (((n / 65536) / 256) / 4))), (1, .int 5)]) hx hb dJ6_numberOfLeadingZeros_0f7a4_72 rfl hl (by decide) rfl (fun ls hl => ?_)
            refine lv_iload_n hx hb dJ6_numberOfLeadingZeros_0f7a4_73 rfl (lv_at hl 1 rfl) ?_
            refine lv_iload_n hx hb dJ6_numberOfLeadingZeros_0f7a4_74 rfl (lv_at hl 0 rfl) ?_
            refine lv_iconst (v := 1) hx hb dJ6_numberOfLeadingZeros_0f7a4_75 (by decide) ?_
            refine lv_iushr hx hb dJ6_numberOfLeadingZeros_0f7a4_76 rfl ?_
            refine bw_re (show ((nI (((n / 65536) / 256) / 4)).toUInt32 >>> ((1 : Int32).toUInt32 &&& Int32.toUInt32 31)).toInt32 = nI ((((n / 65536) / 256) / 4) / 2) from (pk_ushrN (n := ((n / 65536) / 256) / 4) (by omega) 1 1 (by decide))) ?_
            refine lv_isub hx hb dJ6_numberOfLeadingZeros_0f7a4_77 ?_
            refine bw_re (show 5 - (nI ((((n / 65536) / 256) / 4) / 2)) = nI (5 - ((((n / 65536) / 256) / 4) / 2)) from pk_sub (a := 5) (b := (((n / 65536) / 256) / 4) / 2) (by omega)) ?_
            subst hQ
            have hpost : ∃ q9, q9 ≤ 31 ∧ (nI (5 - ((((n / 65536) / 256) / 4) / 2))) = nI q9 ∧ 2 ^ (31 - q9) ≤ n ∧ n < 2 ^ (32 - q9) := by
              rcases (show (((n / 65536) / 256) / 4) / 2 = 0 ∨ (((n / 65536) / 256) / 4) / 2 = 1 by omega) with q8 | q8
              · rw [q8]
                refine ⟨_, ?_, rfl, ?_, ?_⟩ <;> simp only [Nat.reduceSub, Nat.reducePow] <;> omega
              · rw [q8]
                refine ⟨_, ?_, rfl, ?_, ?_⟩ <;> simp only [Nat.reduceSub, Nat.reducePow] <;> omega
            exact W.iret (v := nI (5 - ((((n / 65536) / 256) / 4) / 2))) hx hb hr (fun t9 ht hW => ⟨_, rfl, hpost, by rw [ht]⟩) (fun q h => by cases h) dJ6_numberOfLeadingZeros_0f7a4_78
        · skip
          refine lv_iinc (v := 3) (lv' := [(1, .int 3), (0, .int (nI ((n / 65536) / 256)))]) hx hb dJ6_numberOfLeadingZeros_0f7a4_54 hl (k := 1) rfl (by decide) (by decide) rfl (fun ls hl => ?_)
          refine lv_iload_n hx hb dJ6_numberOfLeadingZeros_0f7a4_57 rfl (lv_at hl 1 rfl) ?_
          refine lv_iconst (v := 4) hx hb dJ6_numberOfLeadingZeros_0f7a4_58 (by decide) ?_
          refine lv_iushr hx hb dJ6_numberOfLeadingZeros_0f7a4_59 rfl ?_
          refine bw_re (show ((nI ((n / 65536) / 256)).toUInt32 >>> ((4 : Int32).toUInt32 &&& Int32.toUInt32 31)).toInt32 = nI (((n / 65536) / 256) / 16) from (pk_ushrN (n := (n / 65536) / 256) (by omega) 4 4 (by decide))) ?_
          refine lv_istore_n (lv' := [(0, .int (nI (((n / 65536) / 256) / 16))), (1, .int 3)]) hx hb dJ6_numberOfLeadingZeros_0f7a4_60 rfl hl (by decide) rfl (fun ls hl => ?_)
          refine lv_iload_n hx hb dJ6_numberOfLeadingZeros_0f7a4_61 rfl (lv_at hl 0 rfl) ?_
          refine lv_iconst (v := 4) hx hb dJ6_numberOfLeadingZeros_0f7a4_62 (by decide) ?_
          refine bw_icmp_lt (tgt := 73) (a := ((((n / 65536) / 256) / 16 : Nat) : Int)) (b := 4) hx hb dJ6_numberOfLeadingZeros_0f7a4_63 (by decide) (nI_toInt (by omega)) rfl (fun c_16 => ?_) (fun c_16 => ?_)
          · skip
            refine lv_iload_n hx hb dJ6_numberOfLeadingZeros_0f7a4_73 rfl (lv_at hl 1 rfl) ?_
            refine lv_iload_n hx hb dJ6_numberOfLeadingZeros_0f7a4_74 rfl (lv_at hl 0 rfl) ?_
            refine lv_iconst (v := 1) hx hb dJ6_numberOfLeadingZeros_0f7a4_75 (by decide) ?_
            refine lv_iushr hx hb dJ6_numberOfLeadingZeros_0f7a4_76 rfl ?_
            refine bw_re (show ((nI (((n / 65536) / 256) / 16)).toUInt32 >>> ((1 : Int32).toUInt32 &&& Int32.toUInt32 31)).toInt32 = nI ((((n / 65536) / 256) / 16) / 2) from (pk_ushrN (n := ((n / 65536) / 256) / 16) (by omega) 1 1 (by decide))) ?_
            refine lv_isub hx hb dJ6_numberOfLeadingZeros_0f7a4_77 ?_
            refine bw_re (show 3 - (nI ((((n / 65536) / 256) / 16) / 2)) = nI (3 - ((((n / 65536) / 256) / 16) / 2)) from pk_sub (a := 3) (b := (((n / 65536) / 256) / 16) / 2) (by omega)) ?_
            subst hQ
            have hpost : ∃ q9, q9 ≤ 31 ∧ (nI (3 - ((((n / 65536) / 256) / 16) / 2))) = nI q9 ∧ 2 ^ (31 - q9) ≤ n ∧ n < 2 ^ (32 - q9) := by
              rcases (show (((n / 65536) / 256) / 16) / 2 = 0 ∨ (((n / 65536) / 256) / 16) / 2 = 1 by omega) with q8 | q8
              · rw [q8]
                refine ⟨_, ?_, rfl, ?_, ?_⟩ <;> simp only [Nat.reduceSub, Nat.reducePow] <;> omega
              · rw [q8]
                refine ⟨_, ?_, rfl, ?_, ?_⟩ <;> simp only [Nat.reduceSub, Nat.reducePow] <;> omega
            exact W.iret (v := nI (3 - ((((n / 65536) / 256) / 16) / 2))) hx hb hr (fun t9 ht hW => ⟨_, rfl, hpost, by rw [ht]⟩) (fun q h => by cases h) dJ6_numberOfLeadingZeros_0f7a4_78
          · skip
            refine lv_iinc (v := 1) (lv' := [(1, .int 1), (0, .int (nI (((n / 65536) / 256) / 16)))]) hx hb dJ6_numberOfLeadingZeros_0f7a4_66 hl (k := 1) rfl (by decide) (by decide) rfl (fun ls hl => ?_)
            refine lv_iload_n hx hb dJ6_numberOfLeadingZeros_0f7a4_69 rfl (lv_at hl 1 rfl) ?_
            refine lv_iconst (v := 2) hx hb dJ6_numberOfLeadingZeros_0f7a4_70 (by decide) ?_
            refine lv_iushr hx hb dJ6_numberOfLeadingZeros_0f7a4_71 rfl ?_
            refine bw_re (show ((nI (((n / 65536) / 256) / 16)).toUInt32 >>> ((2 : Int32).toUInt32 &&& Int32.toUInt32 31)).toInt32 = nI ((((n / 65536) / 256) / 16) / 4) from (pk_ushrN (n := ((n / 65536) / 256) / 16) (by omega) 2 2 (by decide))) ?_
            refine lv_istore_n (lv' := [(0, .int (nI ((((n / 65536) / 256) / 16) / 4))), (1, .int 1)]) hx hb dJ6_numberOfLeadingZeros_0f7a4_72 rfl hl (by decide) rfl (fun ls hl => ?_)
            refine lv_iload_n hx hb dJ6_numberOfLeadingZeros_0f7a4_73 rfl (lv_at hl 1 rfl) ?_
            refine lv_iload_n hx hb dJ6_numberOfLeadingZeros_0f7a4_74 rfl (lv_at hl 0 rfl) ?_
            refine lv_iconst (v := 1) hx hb dJ6_numberOfLeadingZeros_0f7a4_75 (by decide) ?_
            refine lv_iushr hx hb dJ6_numberOfLeadingZeros_0f7a4_76 rfl ?_
            refine bw_re (show ((nI ((((n / 65536) / 256) / 16) / 4)).toUInt32 >>> ((1 : Int32).toUInt32 &&& Int32.toUInt32 31)).toInt32 = nI (((((n / 65536) / 256) / 16) / 4) / 2) from (pk_ushrN (n := (((n / 65536) / 256) / 16) / 4) (by omega) 1 1 (by decide))) ?_
            refine lv_isub hx hb dJ6_numberOfLeadingZeros_0f7a4_77 ?_
            refine bw_re (show 1 - (nI (((((n / 65536) / 256) / 16) / 4) / 2)) = nI (1 - (((((n / 65536) / 256) / 16) / 4) / 2)) from pk_sub (a := 1) (b := ((((n / 65536) / 256) / 16) / 4) / 2) (by omega)) ?_
            subst hQ
            have hpost : ∃ q9, q9 ≤ 31 ∧ (nI (1 - (((((n / 65536) / 256) / 16) / 4) / 2))) = nI q9 ∧ 2 ^ (31 - q9) ≤ n ∧ n < 2 ^ (32 - q9) := by
              rcases (show ((((n / 65536) / 256) / 16) / 4) / 2 = 0 ∨ ((((n / 65536) / 256) / 16) / 4) / 2 = 1 by omega) with q8 | q8
              · rw [q8]
                refine ⟨_, ?_, rfl, ?_, ?_⟩ <;> simp only [Nat.reduceSub, Nat.reducePow] <;> omega
              · rw [q8]
                refine ⟨_, ?_, rfl, ?_, ?_⟩ <;> simp only [Nat.reduceSub, Nat.reducePow] <;> omega
            exact W.iret (v := nI (1 - (((((n / 65536) / 256) / 16) / 4) / 2))) hx hb hr (fun t9 ht hW => ⟨_, rfl, hpost, by rw [ht]⟩) (fun q h => by cases h) dJ6_numberOfLeadingZeros_0f7a4_78
  · skip
    refine lv_iload_n hx hb dJ6_numberOfLeadingZeros_0f7a4_4 rfl (lv_at hl 0 rfl) ?_
    refine bw_if_ne (tgt := 13) (a := xi) hx hb dJ6_numberOfLeadingZeros_0f7a4_5 (by decide) hxi (fun c_17 => ?_) (fun c_17 => ?_)
    · skip
      refine lv_iconst (v := 0) hx hb dJ6_numberOfLeadingZeros_0f7a4_13 (by decide) ?_
      subst hQ
      have hpost : ∃ q9, q9 ≤ 31 ∧ (0 : Int32) = nI q9 ∧ 2 ^ (31 - q9) ≤ n ∧ n < 2 ^ (32 - q9) := by
        exact ⟨0, by omega, rfl, by omega, by omega⟩
      exact W.iret (v := 0) hx hb hr (fun t9 ht hW => ⟨_, rfl, hpost, by rw [ht]⟩) (fun q h => by cases h) dJ6_numberOfLeadingZeros_0f7a4_14
    · skip
      refine lv_bipush (v := 32) hx hb dJ6_numberOfLeadingZeros_0f7a4_8 (by decide) ?_
      refine lv_goto (tgt := 14) hx hb dJ6_numberOfLeadingZeros_0f7a4_10 (by decide) ?_
      subst hQ
      have hpost : ∃ q9, q9 ≤ 31 ∧ (32 : Int32) = nI q9 ∧ 2 ^ (31 - q9) ≤ n ∧ n < 2 ^ (32 - q9) := by
        exfalso; omega
      exact W.iret (v := 32) hx hb hr (fun t9 ht hW => ⟨_, rfl, hpost, by rw [ht]⟩) (fun q h => by cases h) dJ6_numberOfLeadingZeros_0f7a4_14

set_option maxHeartbeats 4000000 in
set_option maxRecDepth 100000 in
theorem c_J13_numberOfTrailingZeros_95d88 (l : Launch) (dC : Nat → ClassId) (dI : Nat → Nat → Nat) (cy : Nat → ClassId) (x : Int64) (t : Nat) (ht : t < 64) (h1 : lb x t = true) (h2 : ∀ i, i < t → lb x i = false) : Met l yJ13_numberOfTrailingZeros_95d88 wsJ13_numberOfTrailingZeros_95d88 ({ frames := 1, cells := 0, slots := 0, locals := 21 }) (va_Pc [.long x] (fun _ => True)) (vp_Si (fun r => r = nI t)) 0 0 (fun _ => False) := by
  refine Met.ofW (cc := cJ13_numberOfTrailingZeros_95d88) (maxL := 3) (ret := (some .int)) (by decide) rfl ?_
  intro pp ee ss mm args below meth cc0 s₁ B hml hv
  obtain ⟨rfl, -⟩ := hv
  have hx := B.exec
  have hb := B.bytes
  have hr := B.returns
  have hts := atoms_spec (ws := wsJ13_numberOfTrailingZeros_95d88) B.pre
  have hown : ss.vm.findClass RJ13 = some mm.cls := findClass_of_methodNamed B.named
  have hlocks := B.notSynchronized
  have hl := lv_entry ([.long x]) (n := 3) (Nat.le_of_ble_eq_true rfl)
  rw [lg_entry_eq]
  generalize (lg_sl ([.long x]) ++ List.replicate (3 - (lg_sl ([.long x])).length) Slot.unset).toArray = ls at hl ⊢
  have hl : lv_has ls 3 [(0, .long x)] := hl
  refine bw_Q (fun Q hQ => ?_)
  change W pp l ee { frames := 1, cells := 0, slots := 0, locals := 21 } ss mm _ below meth cc0 ss.heap [] 0 0 Q (F0 mm 0 ls [])
  obtain ⟨n, hn, hxn⟩ := wb_of x
  have hlb : ∀ i, lb x i = n.testBit i := fun i => by rw [hxn]; exact lb_lN hn i
  have hm : ∀ i, (n % 4294967296).testBit i = (decide (i < 32) && n.testBit i) := fun i => by rw [show (4294967296 : Nat) = 2 ^ 32 by decide, Nat.testBit_mod_two_pow]
  have hd : ∀ i, (n / 4294967296).testBit i = n.testBit (i + 32) := fun i => by rw [show (4294967296 : Nat) = 2 ^ 32 by decide, Nat.testBit_div_two_pow]
  have hz := nI_z (m := n % 4294967296) (by omega)
  have hz2 := nI_z (m := n / 4294967296) (by omega)
  refine lv_lload_n hx hb dJ13_numberOfTrailingZeros_95d88_0 rfl (lv_at hl 0 rfl) ?_
  refine lv_l2i hx hb dJ13_numberOfTrailingZeros_95d88_1 rfl ?_
  refine lv_topi (fun za eza => ?_)
  refine bw_re (show za = nI (n % 4294967296) from (by rw [eza, hxn, lN_i]; exact nI_mod n)) ?_
  refine lv_istore_n (lv' := [(2, .int (nI (n % 4294967296))), (0, .long x)]) hx hb dJ13_numberOfTrailingZeros_95d88_2 rfl hl (by decide) rfl (fun ls hl => ?_)
  refine lv_iload_n hx hb dJ13_numberOfTrailingZeros_95d88_3 rfl (lv_at hl 0 rfl) ?_
  refine bw_if_ne (tgt := 21) (a := (nI (n % 4294967296)).toInt) hx hb dJ13_numberOfTrailingZeros_95d88_4 (by decide) rfl (fun cz => ?_) (fun cz => ?_)
  · skip
    have q1 : n % 4294967296 ≠ 0 := fun q => cz (hz.mpr q)
    have q2 : t < 32 := by
      rcases Nat.lt_or_ge t 32 with q | q
      · exact q
      · exfalso
        apply q1
        apply Nat.eq_of_testBit_eq
        intro i
        rw [hm, Nat.zero_testBit]
        by_cases z : i < 32
        · rw [← hlb, h2 i (by omega)]; simp
        · simp [z]
    have q3 : (n % 4294967296).testBit t = true := by rw [hm, ← hlb, h1]; simp [q2]
    have q4 : ∀ i, i < t → (n % 4294967296).testBit i = false := fun i hi => by rw [hm, ← hlb, h2 i hi]; simp
    refine lv_iload_n hx hb dJ13_numberOfTrailingZeros_95d88_21 rfl (lv_at hl 0 rfl) ?_
    refine vp_callSi (va_Run.run (va_runS (As := [.int (nI (n % 4294967296))]) (rest := []) ⟨hx, hb, hml, hown, hts⟩ (c_J6_numberOfTrailingZeros_0f7a4 l dC dI cy (n % 4294967296) t (by first | assumption | omega) (by first | assumption | omega) (by first | assumption | omega) (by first | assumption | omega)) (va_cwS 1 hts gJ13_numberOfTrailingZeros_95d88_J6_numberOfTrailingZeros_0f7a4 rfl rfl rfl (by decide +kernel) ⟨Nat.le_of_ble_eq_true rfl, Nat.le_of_ble_eq_true rfl⟩) ⟨fun a U g mk q => q, fun U hU hW => ⟨rfl, trivial⟩⟩ rfl rfl hl.1 rfl (lv_room (Nat.le_of_ble_eq_true rfl)) dJ13_numberOfTrailingZeros_95d88_22 ⟨Nat.le_of_ble_eq_true rfl, Nat.le_of_ble_eq_true rfl⟩)) (fun r_1 hr_1 => ?_)
    rw [hr_1]
    subst hQ
    have hpost : (nI t) = nI t := by
      exact rfl
    exact W.iret (v := nI t) hx hb hr (fun t9 ht hW => ⟨_, rfl, hpost, by rw [ht]⟩) (fun q h => by cases h) dJ13_numberOfTrailingZeros_95d88_25
  · skip
    have q1 : n % 4294967296 = 0 := hz.mp cz
    have q2 : 32 ≤ t := by
      rcases Nat.lt_or_ge t 32 with q | q
      · have z1 := hm t
        rw [q1, ← hlb t, h1, Nat.zero_testBit] at z1
        simp [q] at z1
      · exact q
    have q3 : (n / 4294967296).testBit (t - 32) = true := by rw [hd, show t - 32 + 32 = t by omega, ← hlb, h1]
    have q4 : ∀ i, i < t - 32 → (n / 4294967296).testBit i = false := fun i hi => by rw [hd, ← hlb]; exact h2 _ (by omega)
    have q5 : 1 ≤ n / 4294967296 := by
      rcases Nat.eq_zero_or_pos (n / 4294967296) with q | q
      · rw [q, Nat.zero_testBit] at q3; cases q3
      · exact q
    refine lv_bipush (v := 32) hx hb dJ13_numberOfTrailingZeros_95d88_7 (by decide) ?_
    refine lv_lload_n hx hb dJ13_numberOfTrailingZeros_95d88_9 rfl (lv_at hl 1 rfl) ?_
    refine lv_bipush (v := 32) hx hb dJ13_numberOfTrailingZeros_95d88_10 (by decide) ?_
    refine lv_lushr hx hb dJ13_numberOfTrailingZeros_95d88_12 rfl ?_
    refine lv_topl (fun wb ewb => ?_)
    refine lv_l2i hx hb dJ13_numberOfTrailingZeros_95d88_13 rfl ?_
    refine lv_topi (fun zb ezb => ?_)
    refine bw_re (show zb = nI (n / 4294967296) from (by rw [ezb, ewb, hxn]; rw [show (32 : Int32) = nI 32 from rfl, wb_shr hn (by decide), lN_i])) ?_
    refine vp_callSi (va_Run.run (va_runS (As := [.int (nI (n / 4294967296))]) (rest := [.int 32]) ⟨hx, hb, hml, hown, hts⟩ (c_J6_numberOfTrailingZeros_0f7a4 l dC dI cy (n / 4294967296) (t - 32) (by first | assumption | omega) (by first | assumption | omega) (by first | assumption | omega) (by first | assumption | omega)) (va_cwS 1 hts gJ13_numberOfTrailingZeros_95d88_J6_numberOfTrailingZeros_0f7a4 rfl rfl rfl (by decide +kernel) ⟨Nat.le_of_ble_eq_true rfl, Nat.le_of_ble_eq_true rfl⟩) ⟨fun a U g mk q => q, fun U hU hW => ⟨rfl, trivial⟩⟩ rfl rfl hl.1 rfl (lv_room (Nat.le_of_ble_eq_true rfl)) dJ13_numberOfTrailingZeros_95d88_14 ⟨Nat.le_of_ble_eq_true rfl, Nat.le_of_ble_eq_true rfl⟩)) (fun r_2 hr_2 => ?_)
    rw [hr_2]
    refine lv_iadd hx hb dJ13_numberOfTrailingZeros_95d88_17 ?_
    refine bw_re (show 32 + (nI (t - 32)) = nI (32 + (t - 32)) from nI_add (32) (t - 32)) ?_
    refine lv_goto (tgt := 25) hx hb dJ13_numberOfTrailingZeros_95d88_18 (by decide) ?_
    subst hQ
    have hpost : (nI (32 + (t - 32))) = nI t := by
      rw [show 32 + (t - 32) = t by omega]
    exact W.iret (v := nI (32 + (t - 32))) hx hb hr (fun t9 ht hW => ⟨_, rfl, hpost, by rw [ht]⟩) (fun q h => by cases h) dJ13_numberOfTrailingZeros_95d88_25

set_option maxHeartbeats 4000000 in
set_option maxRecDepth 100000 in
theorem c_J13_numberOfLeadingZeros_95d88 (l : Launch) (dC : Nat → ClassId) (dI : Nat → Nat → Nat) (cy : Nat → ClassId) (x : Int64) (t : Nat) (ht : t < 64) (h1 : lb x t = true) (h2 : ∀ i, t < i → lb x i = false) : Met l yJ13_numberOfLeadingZeros_95d88 wsJ13_numberOfLeadingZeros_95d88 ({ frames := 1, cells := 0, slots := 0, locals := 21 }) (va_Pc [.long x] (fun _ => True)) (vp_Si (fun r => r = nI (63 - t))) 0 0 (fun _ => False) := by
  refine Met.ofW (cc := cJ13_numberOfLeadingZeros_95d88) (maxL := 3) (ret := (some .int)) (by decide) rfl ?_
  intro pp ee ss mm args below meth cc0 s₁ B hml hv
  obtain ⟨rfl, -⟩ := hv
  have hx := B.exec
  have hb := B.bytes
  have hr := B.returns
  have hts := atoms_spec (ws := wsJ13_numberOfLeadingZeros_95d88) B.pre
  have hown : ss.vm.findClass RJ13 = some mm.cls := findClass_of_methodNamed B.named
  have hlocks := B.notSynchronized
  have hl := lv_entry ([.long x]) (n := 3) (Nat.le_of_ble_eq_true rfl)
  rw [lg_entry_eq]
  generalize (lg_sl ([.long x]) ++ List.replicate (3 - (lg_sl ([.long x])).length) Slot.unset).toArray = ls at hl ⊢
  have hl : lv_has ls 3 [(0, .long x)] := hl
  refine bw_Q (fun Q hQ => ?_)
  change W pp l ee { frames := 1, cells := 0, slots := 0, locals := 21 } ss mm _ below meth cc0 ss.heap [] 0 0 Q (F0 mm 0 ls [])
  obtain ⟨n, hn, hxn⟩ := wb_of x
  have hlb : ∀ i, lb x i = n.testBit i := fun i => by rw [hxn]; exact lb_lN hn i
  have hm : ∀ i, (n % 4294967296).testBit i = (decide (i < 32) && n.testBit i) := fun i => by rw [show (4294967296 : Nat) = 2 ^ 32 by decide, Nat.testBit_mod_two_pow]
  have hd : ∀ i, (n / 4294967296).testBit i = n.testBit (i + 32) := fun i => by rw [show (4294967296 : Nat) = 2 ^ 32 by decide, Nat.testBit_div_two_pow]
  have hz := nI_z (m := n % 4294967296) (by omega)
  have hz2 := nI_z (m := n / 4294967296) (by omega)
  have hT := top_bit (n := n) (T := t) (by rw [← hlb]; exact h1) (fun i hi => by rw [← hlb]; exact h2 i hi)
  refine lv_lload_n hx hb dJ13_numberOfLeadingZeros_95d88_0 rfl (lv_at hl 0 rfl) ?_
  refine lv_bipush (v := 32) hx hb dJ13_numberOfLeadingZeros_95d88_1 (by decide) ?_
  refine lv_lushr hx hb dJ13_numberOfLeadingZeros_95d88_3 rfl ?_
  refine lv_topl (fun wb ewb => ?_)
  refine lv_l2i hx hb dJ13_numberOfLeadingZeros_95d88_4 rfl ?_
  refine lv_topi (fun zb ezb => ?_)
  refine bw_re (show zb = nI (n / 4294967296) from (by rw [ezb, ewb, hxn]; rw [show (32 : Int32) = nI 32 from rfl, wb_shr hn (by decide), lN_i])) ?_
  refine lv_istore_n (lv' := [(2, .int (nI (n / 4294967296))), (0, .long x)]) hx hb dJ13_numberOfLeadingZeros_95d88_5 rfl hl (by decide) rfl (fun ls hl => ?_)
  refine lv_iload_n hx hb dJ13_numberOfLeadingZeros_95d88_6 rfl (lv_at hl 0 rfl) ?_
  refine bw_if_ne (tgt := 21) (a := (nI (n / 4294967296)).toInt) hx hb dJ13_numberOfLeadingZeros_95d88_7 (by decide) rfl (fun cz => ?_) (fun cz => ?_)
  · skip
    have q1 : n / 4294967296 ≠ 0 := fun q => cz (hz2.mpr q)
    have q5 : 1 ≤ n / 4294967296 := by omega
    refine lv_iload_n hx hb dJ13_numberOfLeadingZeros_95d88_21 rfl (lv_at hl 0 rfl) ?_
    refine vp_callSi (va_Run.run (va_runS (As := [.int (nI (n / 4294967296))]) (rest := []) ⟨hx, hb, hml, hown, hts⟩ (c_J6_numberOfLeadingZeros_0f7a4 l dC dI cy (n / 4294967296) (by first | assumption | omega) (by first | assumption | omega)) (va_cwS 1 hts gJ13_numberOfLeadingZeros_95d88_J6_numberOfLeadingZeros_0f7a4 rfl rfl rfl (by decide +kernel) ⟨Nat.le_of_ble_eq_true rfl, Nat.le_of_ble_eq_true rfl⟩) ⟨fun a U g mk q => q, fun U hU hW => ⟨rfl, trivial⟩⟩ rfl rfl hl.1 rfl (lv_room (Nat.le_of_ble_eq_true rfl)) dJ13_numberOfLeadingZeros_95d88_22 ⟨Nat.le_of_ble_eq_true rfl, Nat.le_of_ble_eq_true rfl⟩)) (fun r_1 hr_1 => ?_)
    obtain ⟨q9, q91, q92, q93, q94⟩ := hr_1
    rw [q92]
    subst hQ
    have hpost : (nI q9) = nI (63 - t) := by
      have e1 : t = 63 - q9 := by
        have z1 : 2 ^ (63 - q9) = 2 ^ (31 - q9) * 4294967296 := by rw [show (4294967296 : Nat) = 2 ^ 32 by decide, ← Nat.pow_add]; congr 1; omega
        have z2 : 2 ^ (63 - q9 + 1) = 2 ^ (32 - q9) * 4294967296 := by rw [show (4294967296 : Nat) = 2 ^ 32 by decide, ← Nat.pow_add]; congr 1; omega
        exact top_one hT.1 hT.2 (by rw [z1]; omega) (by rw [z2]; omega)
      rw [e1, show 63 - (63 - q9) = q9 by omega]
    exact W.iret (v := nI q9) hx hb hr (fun t9 ht hW => ⟨_, rfl, hpost, by rw [ht]⟩) (fun q h => by cases h) dJ13_numberOfLeadingZeros_95d88_25
  · skip
    have q1 : n / 4294967296 = 0 := hz2.mp cz
    have q2 : n % 4294967296 = n := by omega
    have q5 : 1 ≤ n % 4294967296 := by have := Nat.one_le_two_pow (n := t); omega
    refine lv_bipush (v := 32) hx hb dJ13_numberOfLeadingZeros_95d88_10 (by decide) ?_
    refine lv_lload_n hx hb dJ13_numberOfLeadingZeros_95d88_12 rfl (lv_at hl 1 rfl) ?_
    refine lv_l2i hx hb dJ13_numberOfLeadingZeros_95d88_13 rfl ?_
    refine lv_topi (fun za eza => ?_)
    refine bw_re (show za = nI (n % 4294967296) from (by rw [eza, hxn, lN_i]; exact nI_mod n)) ?_
    refine vp_callSi (va_Run.run (va_runS (As := [.int (nI (n % 4294967296))]) (rest := [.int 32]) ⟨hx, hb, hml, hown, hts⟩ (c_J6_numberOfLeadingZeros_0f7a4 l dC dI cy (n % 4294967296) (by first | assumption | omega) (by first | assumption | omega)) (va_cwS 1 hts gJ13_numberOfLeadingZeros_95d88_J6_numberOfLeadingZeros_0f7a4 rfl rfl rfl (by decide +kernel) ⟨Nat.le_of_ble_eq_true rfl, Nat.le_of_ble_eq_true rfl⟩) ⟨fun a U g mk q => q, fun U hU hW => ⟨rfl, trivial⟩⟩ rfl rfl hl.1 rfl (lv_room (Nat.le_of_ble_eq_true rfl)) dJ13_numberOfLeadingZeros_95d88_14 ⟨Nat.le_of_ble_eq_true rfl, Nat.le_of_ble_eq_true rfl⟩)) (fun r_2 hr_2 => ?_)
    obtain ⟨q9, q91, q92, q93, q94⟩ := hr_2
    rw [q92]
    refine lv_iadd hx hb dJ13_numberOfLeadingZeros_95d88_17 ?_
    refine bw_re (show 32 + (nI q9) = nI (32 + q9) from nI_add (32) (q9)) ?_
    refine lv_goto (tgt := 25) hx hb dJ13_numberOfLeadingZeros_95d88_18 (by decide) ?_
    subst hQ
    have hpost : (nI (32 + q9)) = nI (63 - t) := by
      rw [q2] at q93 q94
      have e1 : t = 31 - q9 := top_one hT.1 hT.2 q93 (by rw [show 31 - q9 + 1 = 32 - q9 by omega]; exact q94)
      rw [e1, show 63 - (31 - q9) = 32 + q9 by omega]
    exact W.iret (v := nI (32 + q9)) hx hb hr (fun t9 ht hW => ⟨_, rfl, hpost, by rw [ht]⟩) (fun q h => by cases h) dJ13_numberOfLeadingZeros_95d88_25

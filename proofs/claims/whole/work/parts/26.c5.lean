/-! rows of bits: one bit a year -/
def rb (f : Nat → Int64) (i : Nat) : Bool := lb (f (i / 64)) (i % 64)
theorem rb_at (f : Nat → Int64) {i k : Nat} (hk : k < 64) : rb f (64 * i + k) = lb (f i) k := by
  unfold rb
  rw [show (64 * i + k) / 64 = i by omega, show (64 * i + k) % 64 = k by omega]
theorem updL_s {f : Nat → Int64} {k : Nat} {x : Int64} : vp_updL f k x k = x := pk_uLs
theorem ay_0 {f : Nat → Int64} {ys w : Int64} {d : Nat} (hs : d % 64 = 0) (hw : w = f (d / 64) ||| (ys <<< ((nI (d % 64)).toInt64 &&& 63))) (i : Nat) : rb (vp_updL f (d / 64) w) i = (rb f i || (decide (d ≤ i) && lb ys (i - d))) := by
  unfold rb
  by_cases q : i / 64 = d / 64
  · rw [q, pk_uLs, hw, lb_or, lb_shl _ (by omega) _ (by omega)]
    rw [show decide (d % 64 ≤ i % 64) = decide (d ≤ i) from decide_eq_decide.mpr (by omega), show i % 64 - d % 64 = i - d by omega]
  · rw [pk_uLn q]
    by_cases q2 : d ≤ i
    · rw [lb_big (x := ys) (show 64 ≤ i - d by omega)]; simp
    · simp [q2]
theorem ay_9 {f : Nat → Int64} {ys w : Int64} {d : Nat} (hd : 9 ≤ d / 64) (hw : w = f (d / 64) ||| (ys <<< ((nI (d % 64)).toInt64 &&& 63))) (i : Nat) (hi : i < 640) : rb (vp_updL f (d / 64) w) i = (rb f i || (decide (d ≤ i) && lb ys (i - d))) := by
  unfold rb
  by_cases q : i / 64 = d / 64
  · rw [q, pk_uLs, hw, lb_or, lb_shl _ (by omega) _ (by omega)]
    by_cases q2 : d % 64 ≤ i % 64
    · rw [decide_eq_true q2, decide_eq_true (show d ≤ i by omega), show i % 64 - d % 64 = i - d by omega]
    · rw [decide_eq_false q2, decide_eq_false (show ¬ d ≤ i by omega)]; rfl
  · rw [pk_uLn q, decide_eq_false (show ¬ d ≤ i by omega)]; simp
theorem ay_2 {f : Nat → Int64} {ys w w2 : Int64} {d : Nat} (hs : d % 64 ≠ 0) (hw : w = f (d / 64) ||| (ys <<< ((nI (d % 64)).toInt64 &&& 63))) (hw2 : w2 = vp_updL f (d / 64) w (d / 64 + 1) ||| (ys.toUInt64 >>> ((nI (64 - d % 64)).toInt64.toUInt64 &&& Int64.toUInt64 63)).toInt64) (i : Nat) : rb (vp_updL (vp_updL f (d / 64) w) (d / 64 + 1) w2) i = (rb f i || (decide (d ≤ i) && lb ys (i - d))) := by
  unfold rb
  by_cases q1 : i / 64 = d / 64 + 1
  · rw [q1, pk_uLs, hw2, pk_uLn (by omega), lb_or, lb_ushr _ (by omega), decide_eq_true (show d ≤ i by omega), show 64 - d % 64 + i % 64 = i - d by omega]; rfl
  · rw [pk_uLn q1]
    by_cases q : i / 64 = d / 64
    · rw [q, pk_uLs, hw, lb_or, lb_shl _ (by omega) _ (by omega)]
      by_cases q2 : d % 64 ≤ i % 64
      · rw [decide_eq_true q2, decide_eq_true (show d ≤ i by omega), show i % 64 - d % 64 = i - d by omega]
      · rw [decide_eq_false q2, decide_eq_false (show ¬ d ≤ i by omega)]; rfl
    · rw [pk_uLn q]
      by_cases q2 : d ≤ i
      · rw [lb_big (x := ys) (show 64 ≤ i - d by omega)]; simp
      · simp [q2]
theorem high_bit {x : Int64} (h : x ≠ 0) : ∃ t, t < 64 ∧ lb x t = true ∧ ∀ i, t < i → lb x i = false := by
  obtain ⟨i, hi, hb⟩ := lb_ne0 h
  obtain ⟨t, ht, h1, h2⟩ := fb_last (p := fun i => lb x i = true) (n := 64) ⟨i, hi, hb⟩
  refine ⟨t, ht, h1, fun j hj => ?_⟩
  rcases Nat.lt_or_ge j 64 with q | q
  · cases hq : lb x j with
    | false => rfl
    | true => exact absurd hq (h2 j hj q)
  · exact lb_big q
/-- who lived where: G t m y says what a street and number is in a year -/
def liv (qp qt qm qf ql qx mk : Nat → Int32) (G : Int32 → Int32 → Int → Prop) (K p : Nat) (y : Int) : Prop := ∃ k, k < K ∧ (qx k).toInt = 0 ∧ (mk (qp k).toInt.toNat).toInt = (mk p).toInt ∧ (qf k).toInt ≤ y ∧ y ≤ (ql k).toInt ∧ G (qt k) (qm k) y
def src (qp qs qt qm qf ql qx mk : Nat → Int32) (G : Int32 → Int32 → Int → Prop) (K p j : Nat) : Prop := ∃ k, k < K ∧ (qx k).toInt = 0 ∧ (mk (qp k).toInt.toNat).toInt = (mk p).toInt ∧ (qs k).toInt = j ∧ ∃ y, (qf k).toInt ≤ y ∧ y ≤ (ql k).toInt ∧ G (qt k) (qm k) y
def qOK (qp qs qf ql qx : Nat → Int32) (qn pn : Nat) : Prop := qn ≤ 100 ∧ pn ≤ 30 ∧ (∀ k, qn ≤ k → qx k = 0) ∧ ∀ k, k < qn → (0 ≤ (qp k).toInt ∧ (qp k).toInt < pn) ∧ (0 ≤ (qs k).toInt ∧ (qs k).toInt ≤ 5) ∧ (1500 ≤ (qf k).toInt ∧ (qf k).toInt ≤ (ql k).toInt ∧ (ql k).toInt ≤ 2100 ∧ (ql k).toInt - (qf k).toInt ≤ 59)
theorem liv_s {qp qt qm qf ql qx mk : Nat → Int32} {G : Int32 → Int32 → Int → Prop} {K p : Nat} {y : Int} : liv qp qt qm qf ql qx mk G (K + 1) p y ↔ liv qp qt qm qf ql qx mk G K p y ∨ ((qx K).toInt = 0 ∧ (mk (qp K).toInt.toNat).toInt = (mk p).toInt ∧ (qf K).toInt ≤ y ∧ y ≤ (ql K).toInt ∧ G (qt K) (qm K) y) := by
  constructor
  · rintro ⟨k, h1, h2⟩
    by_cases q : k = K
    · subst q; exact Or.inr h2
    · exact Or.inl ⟨k, by omega, h2⟩
  · rintro (⟨k, h1, h2⟩ | h2)
    · exact ⟨k, by omega, h2⟩
    · exact ⟨K, by omega, h2⟩
theorem src_s {qp qs qt qm qf ql qx mk : Nat → Int32} {G : Int32 → Int32 → Int → Prop} {K p j : Nat} : src qp qs qt qm qf ql qx mk G (K + 1) p j ↔ src qp qs qt qm qf ql qx mk G K p j ∨ ((qx K).toInt = 0 ∧ (mk (qp K).toInt.toNat).toInt = (mk p).toInt ∧ (qs K).toInt = j ∧ ∃ y, (qf K).toInt ≤ y ∧ y ≤ (ql K).toInt ∧ G (qt K) (qm K) y) := by
  constructor
  · rintro ⟨k, h1, h2⟩
    by_cases q : k = K
    · subst q; exact Or.inr h2
    · exact Or.inl ⟨k, by omega, h2⟩
  · rintro (⟨k, h1, h2⟩ | h2)
    · exact ⟨k, by omega, h2⟩
    · exact ⟨K, by omega, h2⟩
theorem liv_0 {qp qt qm qf ql qx mk : Nat → Int32} {G : Int32 → Int32 → Int → Prop} {p : Nat} {y : Int} : ¬ liv qp qt qm qf ql qx mk G 0 p y := fun ⟨k, h, _⟩ => absurd h (Nat.not_lt_zero _)
theorem src_0 {qp qs qt qm qf ql qx mk : Nat → Int32} {G : Int32 → Int32 → Int → Prop} {p j : Nat} : ¬ src qp qs qt qm qf ql qx mk G 0 p j := fun ⟨k, h, _⟩ => absurd h (Nat.not_lt_zero _)
/-- what addYears laid, by years -/
theorem ay_year {ys : Int64} {d i : Nat} {f l : Int} {P : Int → Prop} (hf : f = 1500 + (d : Int)) (h : ∀ b : Nat, lb ys b = true ↔ f + b ≤ l ∧ P (f + b)) : (decide (d ≤ i) && lb ys (i - d)) = pB (f ≤ 1500 + (i : Int) ∧ 1500 + (i : Int) ≤ l ∧ P (1500 + i)) := by
  by_cases q : d ≤ i
  · rw [decide_eq_true q, Bool.true_and]
    have e : f + ((i - d : Nat) : Int) = 1500 + i := by omega
    have h2 := h (i - d)
    rw [e] at h2
    by_cases q2 : 1500 + (i : Int) ≤ l ∧ P (1500 + i)
    · rw [h2.mpr q2, pB_t ⟨by omega, q2⟩]
    · rw [pB_f (fun z => q2 z.2)]
      cases hb : lb ys (i - d) with
      | false => rfl
      | true => exact absurd (h2.mp hb) q2
  · rw [decide_eq_false q, Bool.false_and, pB_f (fun z => by omega)]
theorem one_shl : ∀ j, j < 6 → (1 : Int32) <<< (nI j &&& 31) = nI (2 ^ j) := by decide +kernel
theorem or64 : ∀ a, a < 64 → ∀ j, j < 6 → a ||| 2 ^ j < 64 := by decide +kernel
theorem zero_years {ys : Int64} {f l : Int} {P : Int → Prop} (hl : f ≤ l) (hsp : l - f ≤ 59) (h : ∀ b : Nat, lb ys b = true ↔ f + b ≤ l ∧ P (f + b)) : ys ≠ 0 ↔ ∃ y, f ≤ y ∧ y ≤ l ∧ P y := by
  constructor
  · intro q
    obtain ⟨b, hb, h1⟩ := lb_ne0 q
    have h2 := (h b).mp h1
    exact ⟨f + b, by omega, h2.1, h2.2⟩
  · rintro ⟨y, h1, h2, h3⟩ q
    have e : f + ((y - f).toNat : Int) = y := by omega
    have h4 := (h (y - f).toNat).mpr (by rw [e]; exact ⟨h2, h3⟩)
    rw [q, lb_0] at h4
    cases h4
set_option maxHeartbeats 4000000 in
set_option maxRecDepth 100000 in
theorem c_X7_addYears (l : Launch) (dC : Nat → ClassId) (dI : Nat → Nat → Nat) (cy : Nat → ClassId) (qa : Nat) (f : Nat → Int64) (ys : Int64) (fi : Int32) (d : Nat) (sz : Nat) (hfi : fi.toInt = 1500 + ((d : Nat) : Int)) (hd : d ≤ 600) : Met l yX7_addYears wsX7_addYears ({ frames := 0, cells := 0, slots := 0, locals := 0 }) (va_Pc [.ref qa, .long ys, .int fi] (fun U => U.heap.size = sz ∧ va_P (dC, dI) vwCl [(qa, .inl (cy 1, 10, .inr (.inl f)))] U.heap ∧ va_K (dC, dI) vwCl (tyL cy) U ∧ va_D (fun _ => True) [(qa, .inl (cy 1, 10, .inr (.inl f)))])) (va_Qv (S := (Nat → Int64)) (fun f2 => ∀ i9, i9 < 640 → rb f2 i9 = (rb f i9 || (decide (d ≤ i9) && lb ys (i9 - d)))) (fun f2 => fun t => va_P (dC, dI) vwCl [(qa, .inl (cy 1, 10, .inr (.inl f2)))] t.heap ∧ va_K (dC, dI) vwCl (tyL cy) t ∧ va_D (va_A [(qa, .inl (cy 1, 10, .inr (.inl f)))] sz) [(qa, .inl (cy 1, 10, .inr (.inl f2)))]) (va_A [(qa, .inl (cy 1, 10, .inr (.inl f)))] sz)) 0 0 (va_A [(qa, .inl (cy 1, 10, .inr (.inl f)))] sz) := by
  refine Met.ofW (cc := cX7_addYears) (maxL := 6) (ret := none) (by decide) rfl ?_
  intro pp ee ss mm args below meth cc0 s₁ B hml hv
  obtain ⟨rfl, hsz, hP, hK, hD0⟩ := hv
  have hx := B.exec
  have hb := B.bytes
  have hr := B.returns
  have hts := atoms_spec (ws := wsX7_addYears) B.pre
  have hown : ss.vm.findClass RX7 = some mm.cls := findClass_of_methodNamed B.named
  have hlocks := B.notSynchronized
  subst hsz
  have hD := hD0.self (sz := ss.heap.size)
  generalize hAe : va_A [(qa, .inl (cy 1, 10, .inr (.inl f)))] ss.heap.size = A at hD ⊢
  have hA : ∀ q : Nat, ss.heap.size ≤ q → A q := fun q h => by rw [← hAe]; exact Or.inr h
  have hS : va_S A ss.heap ss.heap [] := va_S.rf
  have hP : va_P (dC, dI) vwCl [(qa, .inl (cy 1, 10, .inr (.inl f)))] ss.heap := hP
  have hl := lv_entry ([.ref qa, .long ys, .int fi]) (n := 6) (Nat.le_of_ble_eq_true rfl)
  rw [lg_entry_eq]
  generalize (lg_sl ([.ref qa, .long ys, .int fi]) ++ List.replicate (6 - (lg_sl ([.ref qa, .long ys, .int fi])).length) Slot.unset).toArray = ls at hl ⊢
  have hl : lv_has ls 6 [(0, .ref qa), (1, .long ys), (3, .int fi)] := hl
  refine bw_Q (fun Q hQ => ?_)
  refine bw_H0 (fun H locs eH eL => ?_)
  have hS : va_S A ss.heap H locs := by rw [eH, eL]; exact hS
  have hP : va_P (dC, dI) vwCl [(qa, .inl (cy 1, 10, .inr (.inl f)))] H := by rw [eH]; exact hP
  change W pp l ee { frames := 0, cells := 0, slots := 0, locals := 0 } ss mm _ below meth cc0 H locs 0 0 Q (F0 mm 0 ls [])
  refine lv_iload_n hx hb dX7_addYears_0 rfl (lv_at hl 2 rfl) ?_
  refine lv_sipush (v := 1500) hx hb dX7_addYears_1 (by decide) ?_
  refine lv_isub hx hb dX7_addYears_4 ?_
  refine bw_nm (a := (fi.toInt - 1500)) (tI_sub rfl rfl (by omega) (by omega)) (fun z_1 ez_1 tz_1 => ?_)
  refine bw_re (show z_1 = nI d from nI_back (by omega)) ?_
  refine lv_bipush (v := 6) hx hb dX7_addYears_5 (by decide) ?_
  refine lv_ishr hx hb dX7_addYears_7 ?_
  refine bw_re (show (nI d) >>> ((6 : Int32) &&& 31) = nI (d / 64) from (pk_shrN (n := d) (by omega) _ 6 (by decide))) ?_
  refine lv_istore (lv' := [(4, .int (nI (d / 64))), (0, .ref qa), (1, .long ys), (3, .int fi)]) hx hb dX7_addYears_8 hl (by decide) rfl (fun ls hl => ?_)
  refine lv_iload_n hx hb dX7_addYears_10 rfl (lv_at hl 3 rfl) ?_
  refine lv_sipush (v := 1500) hx hb dX7_addYears_11 (by decide) ?_
  refine lv_isub hx hb dX7_addYears_14 ?_
  refine bw_nm (a := (fi.toInt - 1500)) (tI_sub rfl rfl (by omega) (by omega)) (fun z_2 ez_2 tz_2 => ?_)
  refine bw_re (show z_2 = nI d from nI_back (by omega)) ?_
  refine lv_bipush (v := 63) hx hb dX7_addYears_15 (by decide) ?_
  refine lv_iand hx hb dX7_addYears_17 ?_
  refine bw_re (show (nI d) &&& (63 : Int32) = nI (d % 64) from (pk_andN (n := d) (by omega) 6 (by decide))) ?_
  refine lv_istore (lv' := [(5, .int (nI (d % 64))), (4, .int (nI (d / 64))), (0, .ref qa), (1, .long ys), (3, .int fi)]) hx hb dX7_addYears_18 hl (by decide) rfl (fun ls hl => ?_)
  refine lv_aload_n hx hb dX7_addYears_20 rfl (lv_at hl 2 rfl) ?_
  refine lv_iload hx hb dX7_addYears_21 (lv_at hl 1 rfl) ?_
  refine lv_dup2_11 hx hb dX7_addYears_23 rfl rfl ?_
  refine bw_lald hx hb hK hP 0 1 rfl rfl (j := (d / 64)) (nI_toInt (by omega)) (by omega) dX7_addYears_24 ?_
  refine lv_lload_n hx hb dX7_addYears_25 rfl (lv_at hl 3 rfl) ?_
  refine lv_iload hx hb dX7_addYears_26 (lv_at hl 0 rfl) ?_
  refine lv_lshl hx hb dX7_addYears_28 rfl ?_
  refine lv_topl (fun wa ewa => ?_)
  refine lv_lor hx hb dX7_addYears_29 ?_
  refine lv_topl (fun wb ewb => ?_)
  refine bw_last hx hb hK hP hD hS 0 1 rfl rfl (j := (d / 64)) (nI_toInt (by omega)) (by omega) dX7_addYears_30 (fun H locs hP hD hS => ?_)
  have hP : va_P (dC, dI) vwCl [(qa, .inl (cy 1, 10, .inr (.inl (vp_updL f (d / 64) wb))))] H := hP
  have hD : va_D A [(qa, .inl (cy 1, 10, .inr (.inl (vp_updL f (d / 64) wb))))] := hD
  refine lv_iload hx hb dX7_addYears_31 (lv_at hl 0 rfl) ?_
  refine bw_if_eq (tgt := 61) (a := ((d % 64 : Nat) : Int)) hx hb dX7_addYears_33 (by decide) (nI_toInt (by omega)) (fun c_s => ?_) (fun c_s => ?_)
  · skip
    subst hQ
    have hP9 : va_P (dC, dI) vwCl [(qa, .inl (cy 1, 10, .inr (.inl (vp_updL f (d / 64) wb))))] H := hP.sub [0] rfl
    have hD9 : va_D A [(qa, .inl (cy 1, 10, .inr (.inl (vp_updL f (d / 64) wb))))] := hD.sub [0] (by decide) rfl
    have hpost : ∀ i9, i9 < 640 → rb (vp_updL f (d / 64) wb) i9 = (rb f i9 || (decide (d ≤ i9) && lb ys (i9 - d))) := by
      exact fun i9 _ => ay_0 (by omega) (by rw [ewb, ewa]) i9
    exact W.vret hx hb hr (fun t9 ht hW => ⟨⟨(vp_updL f (d / 64) wb), rfl, hpost, by rw [ht]; exact hP9, va_K.moved hW.alike hK, hD9⟩, hS.F ht⟩) hS.2.2 dX7_addYears_61
  · skip
    refine lv_iload hx hb dX7_addYears_36 (lv_at hl 1 rfl) ?_
    refine lv_iconst (v := 1) hx hb dX7_addYears_38 (by decide) ?_
    refine lv_iadd hx hb dX7_addYears_39 ?_
    refine bw_re (show (nI (d / 64)) + 1 = nI (d / 64 + 1) from nI_add (d / 64) (1)) ?_
    refine lv_bipush (v := 10) hx hb dX7_addYears_40 (by decide) ?_
    refine bw_icmp_ge (tgt := 61) (a := ((d / 64 + 1 : Nat) : Int)) (b := 10) hx hb dX7_addYears_42 (by decide) (nI_toInt (by omega)) rfl (fun c_r => ?_) (fun c_r => ?_)
    · skip
      subst hQ
      have hP9 : va_P (dC, dI) vwCl [(qa, .inl (cy 1, 10, .inr (.inl (vp_updL f (d / 64) wb))))] H := hP.sub [0] rfl
      have hD9 : va_D A [(qa, .inl (cy 1, 10, .inr (.inl (vp_updL f (d / 64) wb))))] := hD.sub [0] (by decide) rfl
      have hpost : ∀ i9, i9 < 640 → rb (vp_updL f (d / 64) wb) i9 = (rb f i9 || (decide (d ≤ i9) && lb ys (i9 - d))) := by
        exact fun i9 h9 => ay_9 (by omega) (by rw [ewb, ewa]) i9 h9
      exact W.vret hx hb hr (fun t9 ht hW => ⟨⟨(vp_updL f (d / 64) wb), rfl, hpost, by rw [ht]; exact hP9, va_K.moved hW.alike hK, hD9⟩, hS.F ht⟩) hS.2.2 dX7_addYears_61
    · skip
      refine lv_aload_n hx hb dX7_addYears_45 rfl (lv_at hl 2 rfl) ?_
      refine lv_iload hx hb dX7_addYears_46 (lv_at hl 1 rfl) ?_
      refine lv_iconst (v := 1) hx hb dX7_addYears_48 (by decide) ?_
      refine lv_iadd hx hb dX7_addYears_49 ?_
      refine bw_re (show (nI (d / 64)) + 1 = nI (d / 64 + 1) from nI_add (d / 64) (1)) ?_
      refine lv_dup2_11 hx hb dX7_addYears_50 rfl rfl ?_
      refine bw_lald hx hb hK hP 0 1 rfl rfl (j := (d / 64 + 1)) (nI_toInt (by omega)) (by omega) dX7_addYears_51 ?_
      refine lv_lload_n hx hb dX7_addYears_52 rfl (lv_at hl 3 rfl) ?_
      refine lv_bipush (v := 64) hx hb dX7_addYears_53 (by decide) ?_
      refine lv_iload hx hb dX7_addYears_55 (lv_at hl 0 rfl) ?_
      refine lv_isub hx hb dX7_addYears_57 ?_
      refine bw_re (show 64 - (nI (d % 64)) = nI (64 - (d % 64)) from pk_sub (a := 64) (b := d % 64) (by omega)) ?_
      refine lv_lushr hx hb dX7_addYears_58 rfl ?_
      refine lv_topl (fun wc ewc => ?_)
      refine lv_lor hx hb dX7_addYears_59 ?_
      refine lv_topl (fun wd ewd => ?_)
      refine bw_last hx hb hK hP hD hS 0 1 rfl rfl (j := (d / 64 + 1)) (nI_toInt (by omega)) (by omega) dX7_addYears_60 (fun H locs hP hD hS => ?_)
      have hP : va_P (dC, dI) vwCl [(qa, .inl (cy 1, 10, .inr (.inl (vp_updL (vp_updL f (d / 64) wb) (d / 64 + 1) wd))))] H := hP
      have hD : va_D A [(qa, .inl (cy 1, 10, .inr (.inl (vp_updL (vp_updL f (d / 64) wb) (d / 64 + 1) wd))))] := hD
      subst hQ
      have hP9 : va_P (dC, dI) vwCl [(qa, .inl (cy 1, 10, .inr (.inl (vp_updL (vp_updL f (d / 64) wb) (d / 64 + 1) wd))))] H := hP.sub [0] rfl
      have hD9 : va_D A [(qa, .inl (cy 1, 10, .inr (.inl (vp_updL (vp_updL f (d / 64) wb) (d / 64 + 1) wd))))] := hD.sub [0] (by decide) rfl
      have hpost : ∀ i9, i9 < 640 → rb (vp_updL (vp_updL f (d / 64) wb) (d / 64 + 1) wd) i9 = (rb f i9 || (decide (d ≤ i9) && lb ys (i9 - d))) := by
        exact fun i9 _ => ay_2 (by omega) (by rw [ewb, ewa]) (by rw [ewd, ewc]) i9
      exact W.vret hx hb hr (fun t9 ht hW => ⟨⟨(vp_updL (vp_updL f (d / 64) wb) (d / 64 + 1) wd), rfl, hpost, by rw [ht]; exact hP9, va_K.moved hW.alike hK, hD9⟩, hS.F ht⟩) hS.2.2 dX7_addYears_61

set_option maxHeartbeats 4000000 in
set_option maxRecDepth 100000 in
theorem c_X7_bitsOf (l : Launch) (dC : Nat → ClassId) (dI : Nat → Nat → Nat) (cy : Nat → ClassId) (qa : Nat) (f : Nat → Int64)  : Met l yX7_bitsOf wsX7_bitsOf ({ frames := 1, cells := 0, slots := 0, locals := 21 }) (va_Pc [.ref qa] (fun U => va_P (dC, dI) vwCl [(qa, .inl (cy 1, 10, .inr (.inl f)))] U.heap ∧ va_K (dC, dI) vwCl (tyL cy) U)) (vp_Si (fun r => r = nI (fb_ct (rb f) 640))) 0 0 (fun _ => False) := by
  refine Met.ofW (cc := cX7_bitsOf) (maxL := 3) (ret := (some .int)) (by decide) rfl ?_
  intro pp ee ss mm args below meth cc0 s₁ B hml hv
  obtain ⟨rfl, hP, hK⟩ := hv
  have hx := B.exec
  have hb := B.bytes
  have hr := B.returns
  have hts := atoms_spec (ws := wsX7_bitsOf) B.pre
  have hown : ss.vm.findClass RX7 = some mm.cls := findClass_of_methodNamed B.named
  have hlocks := B.notSynchronized
  have hl := lv_entry ([.ref qa]) (n := 3) (Nat.le_of_ble_eq_true rfl)
  rw [lg_entry_eq]
  generalize (lg_sl ([.ref qa]) ++ List.replicate (3 - (lg_sl ([.ref qa])).length) Slot.unset).toArray = ls at hl ⊢
  have hl : lv_has ls 3 [(0, .ref qa)] := hl
  refine bw_Q (fun Q hQ => ?_)
  change W pp l ee { frames := 1, cells := 0, slots := 0, locals := 21 } ss mm _ below meth cc0 ss.heap [] 0 0 Q (F0 mm 0 ls [])
  refine lv_iconst (v := 0) hx hb dX7_bitsOf_0 (by decide) ?_
  refine lv_istore_n (lv' := [(1, .int 0), (0, .ref qa)]) hx hb dX7_bitsOf_1 rfl hl (by decide) rfl (fun ls hl => ?_)
  refine lv_iconst (v := 0) hx hb dX7_bitsOf_2 (by decide) ?_
  refine lv_istore_n (lv' := [(2, .int 0), (1, .int 0), (0, .ref qa)]) hx hb dX7_bitsOf_3 rfl hl (by decide) rfl (fun ls hl => ?_)
  have L_4 : ∀ (n9 : Nat), ∀ (i : Nat) (n : Nat), (10 - i) < n9 → (i ≤ 10) → (n = fb_ct (rb f) (64 * i)) → ∀ (ls : Array Slot), lv_has ls 3 [(0, .ref qa), (1, .int (nI n)), (2, .int (nI i))] → W pp l ee { frames := 1, cells := 0, slots := 0, locals := 21 } ss mm (List.toArray [Value.ref qa]) below meth cc0 ss.heap [] 0 0 Q (F0 mm 4 ls []) := by
    intro n9
    induction n9 with
    | zero => intro i n hm9; exact absurd hm9 (Nat.not_lt_zero _)
    | succ n9 ih4 =>
      intro i n hm4 hi hn
      intro ls hl
      refine lv_iload_n hx hb dX7_bitsOf_4 rfl (lv_at hl 2 rfl) ?_
      refine lv_bipush (v := 10) hx hb dX7_bitsOf_5 (by decide) ?_
      refine bw_icmp_ge (tgt := 25) (a := ((i : Nat) : Int)) (b := 10) hx hb dX7_bitsOf_7 (by decide) (nI_toInt (by omega)) rfl (fun c_1 => ?_) (fun c_1 => ?_)
      · skip
        refine lv_iload_n hx hb dX7_bitsOf_25 rfl (lv_at hl 1 rfl) ?_
        subst hQ
        have hpost : (nI n) = nI (fb_ct (rb f) 640) := by
          have e9 : i = 10 := by omega
          rw [hn, e9]
        exact W.iret (v := nI n) hx hb hr (fun t9 ht hW => ⟨_, rfl, hpost, by rw [ht]⟩) (fun q h => by cases h) dX7_bitsOf_26
      · skip
        refine lv_iload_n hx hb dX7_bitsOf_10 rfl (lv_at hl 1 rfl) ?_
        refine lv_aload_n hx hb dX7_bitsOf_11 rfl (lv_at hl 0 rfl) ?_
        refine lv_iload_n hx hb dX7_bitsOf_12 rfl (lv_at hl 2 rfl) ?_
        refine bw_lald hx hb hK hP 0 1 rfl rfl (j := i) (nI_toInt (by omega)) (by omega) dX7_bitsOf_13 ?_
        refine vp_callSi (va_Run.run (va_runS (As := [.long (f i)]) (rest := [.int (nI n)]) ⟨hx, hb, hml, hown, hts⟩ (c_J13_bitCount_95d88 l dC dI cy (f i)) (va_cwS 1 hts gX7_bitsOf_J13_bitCount_95d88 rfl rfl rfl (by decide +kernel) ⟨Nat.le_of_ble_eq_true rfl, Nat.le_of_ble_eq_true rfl⟩) ⟨fun a U g mk q => q, fun U hU hW => ⟨rfl, trivial⟩⟩ rfl rfl hl.1 rfl (lv_room (Nat.le_of_ble_eq_true rfl)) dX7_bitsOf_14 ⟨Nat.le_of_ble_eq_true rfl, Nat.le_of_ble_eq_true rfl⟩)) (fun r_2 hr_2 => ?_)
        rw [hr_2]
        refine lv_iadd hx hb dX7_bitsOf_17 ?_
        refine bw_re (show (nI n) + (nI (fb_ct (fun i9 => lb (f i) i9) 64)) = nI (n + (fb_ct (fun i9 => lb (f i) i9) 64)) from nI_add (n) (fb_ct (fun i9 => lb (f i) i9) 64)) ?_
        refine lv_istore_n (lv' := [(1, .int (nI (n + (fb_ct (fun i9 => lb (f i) i9) 64)))), (0, .ref qa), (2, .int (nI i))]) hx hb dX7_bitsOf_18 rfl hl (by decide) rfl (fun ls hl => ?_)
        refine lv_iinc (v := nI (i + 1)) (lv' := [(2, .int (nI (i + 1))), (1, .int (nI (n + (fb_ct (fun i9 => lb (f i) i9) 64)))), (0, .ref qa)]) hx hb dX7_bitsOf_19 hl (k := 2) rfl (show nI i + Int32.ofInt 1 = nI (i + 1) from nI_add i 1) (by decide) rfl (fun ls hl => ?_)
        refine lv_goto (tgt := 4) hx hb dX7_bitsOf_22 (by decide) ?_
        have hI_hn : (n + (fb_ct (fun i9 => lb (f i) i9) 64)) = fb_ct (rb f) (64 * (i + 1)) := by
          rw [show 64 * (i + 1) = 64 * i + 64 by omega, fb_ct_split, hn]
          congr 1
          apply fb_ct_cong
          intro k hk
          exact (rb_at f hk).symm
        exact ih4 (i + 1) (n + (fb_ct (fun i9 => lb (f i) i9) 64)) (by omega) (by first | assumption | omega) hI_hn ls (lv_sub hl [2, 1, 0] rfl)
  have hI_hn : 0 = fb_ct (rb f) (64 * 0) := by
    rfl
  exact L_4 ((10 - 0) + 1) 0 0 (by omega) (by first | assumption | omega) hI_hn ls (lv_sub hl [2, 1, 0] rfl)

set_option maxHeartbeats 4000000 in
set_option maxRecDepth 100000 in
theorem c_X7_sureYears (l : Launch) (dC : Nat → ClassId) (dI : Nat → Nat → Nat) (cy : Nat → ClassId) (ad : Nat → Nat) (sb : Int32) (su : Nat → Int64)  : Met l yX7_sureYears wsX7_sureYears ({ frames := 2, cells := 0, slots := 0, locals := 43 }) (va_Pc [.ref (ad 22)] (fun U => va_P (dC, dI) vwCl [(ad 22, .inr (7, [.ref (ad 3), .ref (ad 9), .ref (ad 14), .ref (ad 23), .ref (ad 24), .int sb])), (ad 23, .inl (cy 1, 10, .inr (.inl su)))] U.heap ∧ va_K (dC, dI) vwCl (tyL cy) U)) (vp_Si (fun r => r = nI (fb_ct (rb su) 640))) 0 0 (fun _ => False) := by
  refine Met.ofW (cc := cX7_sureYears) (maxL := 1) (ret := (some .int)) (by decide) rfl ?_
  intro pp ee ss mm args below meth cc0 s₁ B hml hv
  obtain ⟨rfl, hP, hK⟩ := hv
  have hx := B.exec
  have hb := B.bytes
  have hr := B.returns
  have hts := atoms_spec (ws := wsX7_sureYears) B.pre
  have hown : ss.vm.findClass RX7 = some mm.cls := findClass_of_methodNamed B.named
  have hlocks := B.notSynchronized
  have hL0 := hts (.fieldLink RX7 23 "HereLived$Stay" "sure" "[J") (by decide +kernel)
  have hiX7 : ∀ w ∈ wsX70, w ∈ wsX7_sureYears := by decide +kernel
  have hl := lv_entry ([.ref (ad 22)]) (n := 1) (Nat.le_of_ble_eq_true rfl)
  rw [lg_entry_eq]
  generalize (lg_sl ([.ref (ad 22)]) ++ List.replicate (1 - (lg_sl ([.ref (ad 22)])).length) Slot.unset).toArray = ls at hl ⊢
  have hl : lv_has ls 1 [(0, .ref (ad 22))] := hl
  refine bw_Q (fun Q hQ => ?_)
  change W pp l ee { frames := 2, cells := 0, slots := 0, locals := 43 } ss mm _ below meth cc0 ss.heap [] 0 0 Q (F0 mm 0 ls [])
  refine lv_aload_n hx hb dX7_sureYears_0 rfl (lv_at hl 0 rfl) ?_
  refine va_get (D := (dC, dI)) (ci := 7) (v := .ref (ad 23)) (C := RX7) (T := TX7) (N := 6) hx hb hts hiX7 hown hK hP 0 rfl rfl 3 (by decide) hL0 (fun _ h9 => h9) rfl dX7_sureYears_1 ?_
  have hPc : va_P (dC, dI) vwCl [(ad 23, .inl (cy 1, 10, .inr (.inl su)))] ss.heap := hP.sub [1] rfl
  refine vp_callSi (va_Run.run (va_runS (As := [.ref (ad 23)]) (rest := []) ⟨hx, hb, hml, hown, hts⟩ (c_X7_bitsOf l dC dI cy (ad 23) su) (va_cwS 1 hts gX7_sureYears_X7_bitsOf rfl rfl rfl (by decide +kernel) ⟨Nat.le_of_ble_eq_true rfl, Nat.le_of_ble_eq_true rfl⟩) ⟨fun a U g mk q => by obtain ⟨q0, qP, qK⟩ := q; exact ⟨q0, qP, va_K.moved (u := U) (U := U.calling g mk a) (Vm.Alike.refl U.vm) qK⟩, fun U hU hW => ⟨rfl, by rw [hU]; exact hPc, va_K.moved hW.alike hK⟩⟩ rfl rfl hl.1 rfl (lv_room (Nat.le_of_ble_eq_true rfl)) dX7_sureYears_4 ⟨Nat.le_of_ble_eq_true rfl, Nat.le_of_ble_eq_true rfl⟩)) (fun r_1 hr_1 => ?_)
  rw [hr_1]
  subst hQ
  have hpost : (nI (fb_ct (rb su) 640)) = nI (fb_ct (rb su) 640) := by
    exact rfl
  exact W.iret (v := nI (fb_ct (rb su) 640)) hx hb hr (fun t9 ht hW => ⟨_, rfl, hpost, by rw [ht]⟩) (fun q h => by cases h) dX7_sureYears_7

set_option maxHeartbeats 4000000 in
set_option maxRecDepth 100000 in
theorem c_X7_maybeYears (l : Launch) (dC : Nat → ClassId) (dI : Nat → Nat → Nat) (cy : Nat → ClassId) (ad : Nat → Nat) (sb : Int32) (my : Nat → Int64)  : Met l yX7_maybeYears wsX7_maybeYears ({ frames := 2, cells := 0, slots := 0, locals := 43 }) (va_Pc [.ref (ad 22)] (fun U => va_P (dC, dI) vwCl [(ad 22, .inr (7, [.ref (ad 3), .ref (ad 9), .ref (ad 14), .ref (ad 23), .ref (ad 24), .int sb])), (ad 24, .inl (cy 1, 10, .inr (.inl my)))] U.heap ∧ va_K (dC, dI) vwCl (tyL cy) U)) (vp_Si (fun r => r = nI (fb_ct (rb my) 640))) 0 0 (fun _ => False) := by
  refine Met.ofW (cc := cX7_maybeYears) (maxL := 1) (ret := (some .int)) (by decide) rfl ?_
  intro pp ee ss mm args below meth cc0 s₁ B hml hv
  obtain ⟨rfl, hP, hK⟩ := hv
  have hx := B.exec
  have hb := B.bytes
  have hr := B.returns
  have hts := atoms_spec (ws := wsX7_maybeYears) B.pre
  have hown : ss.vm.findClass RX7 = some mm.cls := findClass_of_methodNamed B.named
  have hlocks := B.notSynchronized
  have hL0 := hts (.fieldLink RX7 27 "HereLived$Stay" "maybe" "[J") (by decide +kernel)
  have hiX7 : ∀ w ∈ wsX70, w ∈ wsX7_maybeYears := by decide +kernel
  have hl := lv_entry ([.ref (ad 22)]) (n := 1) (Nat.le_of_ble_eq_true rfl)
  rw [lg_entry_eq]
  generalize (lg_sl ([.ref (ad 22)]) ++ List.replicate (1 - (lg_sl ([.ref (ad 22)])).length) Slot.unset).toArray = ls at hl ⊢
  have hl : lv_has ls 1 [(0, .ref (ad 22))] := hl
  refine bw_Q (fun Q hQ => ?_)
  change W pp l ee { frames := 2, cells := 0, slots := 0, locals := 43 } ss mm _ below meth cc0 ss.heap [] 0 0 Q (F0 mm 0 ls [])
  refine lv_aload_n hx hb dX7_maybeYears_0 rfl (lv_at hl 0 rfl) ?_
  refine va_get (D := (dC, dI)) (ci := 7) (v := .ref (ad 24)) (C := RX7) (T := TX7) (N := 6) hx hb hts hiX7 hown hK hP 0 rfl rfl 4 (by decide) hL0 (fun _ h9 => h9) rfl dX7_maybeYears_1 ?_
  have hPc : va_P (dC, dI) vwCl [(ad 24, .inl (cy 1, 10, .inr (.inl my)))] ss.heap := hP.sub [1] rfl
  refine vp_callSi (va_Run.run (va_runS (As := [.ref (ad 24)]) (rest := []) ⟨hx, hb, hml, hown, hts⟩ (c_X7_bitsOf l dC dI cy (ad 24) my) (va_cwS 1 hts gX7_maybeYears_X7_bitsOf rfl rfl rfl (by decide +kernel) ⟨Nat.le_of_ble_eq_true rfl, Nat.le_of_ble_eq_true rfl⟩) ⟨fun a U g mk q => by obtain ⟨q0, qP, qK⟩ := q; exact ⟨q0, qP, va_K.moved (u := U) (U := U.calling g mk a) (Vm.Alike.refl U.vm) qK⟩, fun U hU hW => ⟨rfl, by rw [hU]; exact hPc, va_K.moved hW.alike hK⟩⟩ rfl rfl hl.1 rfl (lv_room (Nat.le_of_ble_eq_true rfl)) dX7_maybeYears_4 ⟨Nat.le_of_ble_eq_true rfl, Nat.le_of_ble_eq_true rfl⟩)) (fun r_1 hr_1 => ?_)
  rw [hr_1]
  subst hQ
  have hpost : (nI (fb_ct (rb my) 640)) = nI (fb_ct (rb my) 640) := by
    exact rfl
  exact W.iret (v := nI (fb_ct (rb my) 640)) hx hb hr (fun t9 ht hW => ⟨_, rfl, hpost, by rw [ht]⟩) (fun q h => by cases h) dX7_maybeYears_7

set_option maxHeartbeats 4000000 in
set_option maxRecDepth 100000 in
theorem c_X7_firstSureYear (l : Launch) (dC : Nat → ClassId) (dI : Nat → Nat → Nat) (cy : Nat → ClassId) (ad : Nat → Nat) (sb : Int32) (su : Nat → Int64)  : Met l yX7_firstSureYear wsX7_firstSureYear ({ frames := 2, cells := 0, slots := 0, locals := 43 }) (va_Pc [.ref (ad 22)] (fun U => va_P (dC, dI) vwCl [(ad 22, .inr (7, [.ref (ad 3), .ref (ad 9), .ref (ad 14), .ref (ad 23), .ref (ad 24), .int sb])), (ad 23, .inl (cy 1, 10, .inr (.inl su)))] U.heap ∧ va_K (dC, dI) vwCl (tyL cy) U)) (vp_Si (fun r => (∃ i9, i9 < 640 ∧ rb su i9 = true ∧ (∀ j9, j9 < i9 → rb su j9 = false) ∧ r = nI (1500 + i9)) ∨ (r = -1 ∧ ∀ i9, i9 < 640 → rb su i9 = false))) 0 0 (fun _ => False) := by
  refine Met.ofW (cc := cX7_firstSureYear) (maxL := 2) (ret := (some .int)) (by decide) rfl ?_
  intro pp ee ss mm args below meth cc0 s₁ B hml hv
  obtain ⟨rfl, hP, hK⟩ := hv
  have hx := B.exec
  have hb := B.bytes
  have hr := B.returns
  have hts := atoms_spec (ws := wsX7_firstSureYear) B.pre
  have hown : ss.vm.findClass RX7 = some mm.cls := findClass_of_methodNamed B.named
  have hlocks := B.notSynchronized
  have hL0 := hts (.fieldLink RX7 23 "HereLived$Stay" "sure" "[J") (by decide +kernel)
  have hiX7 : ∀ w ∈ wsX70, w ∈ wsX7_firstSureYear := by decide +kernel
  have hl := lv_entry ([.ref (ad 22)]) (n := 2) (Nat.le_of_ble_eq_true rfl)
  rw [lg_entry_eq]
  generalize (lg_sl ([.ref (ad 22)]) ++ List.replicate (2 - (lg_sl ([.ref (ad 22)])).length) Slot.unset).toArray = ls at hl ⊢
  have hl : lv_has ls 2 [(0, .ref (ad 22))] := hl
  refine bw_Q (fun Q hQ => ?_)
  change W pp l ee { frames := 2, cells := 0, slots := 0, locals := 43 } ss mm _ below meth cc0 ss.heap [] 0 0 Q (F0 mm 0 ls [])
  refine lv_iconst (v := 0) hx hb dX7_firstSureYear_0 (by decide) ?_
  refine lv_istore_n (lv' := [(1, .int 0), (0, .ref (ad 22))]) hx hb dX7_firstSureYear_1 rfl hl (by decide) rfl (fun ls hl => ?_)
  have L_2 : ∀ (n9 : Nat), ∀ (i : Nat), (10 - i) < n9 → (i ≤ 10) → (∀ j, j < 64 * i → rb su j = false) → ∀ (ls : Array Slot), lv_has ls 2 [(0, .ref (ad 22)), (1, .int (nI i))] → W pp l ee { frames := 2, cells := 0, slots := 0, locals := 43 } ss mm (List.toArray [Value.ref (ad 22)]) below meth cc0 ss.heap [] 0 0 Q (F0 mm 2 ls []) := by
    intro n9
    induction n9 with
    | zero => intro i hm9; exact absurd hm9 (Nat.not_lt_zero _)
    | succ n9 ih2 =>
      intro i hm2 hi hno
      intro ls hl
      refine lv_iload_n hx hb dX7_firstSureYear_2 rfl (lv_at hl 1 rfl) ?_
      refine lv_bipush (v := 10) hx hb dX7_firstSureYear_3 (by decide) ?_
      refine bw_icmp_ge (tgt := 44) (a := ((i : Nat) : Int)) (b := 10) hx hb dX7_firstSureYear_5 (by decide) (nI_toInt (by omega)) rfl (fun c_1 => ?_) (fun c_1 => ?_)
      · skip
        refine lv_iconst (v := (-1)) hx hb dX7_firstSureYear_44 (by decide) ?_
        subst hQ
        have hpost : (∃ i9, i9 < 640 ∧ rb su i9 = true ∧ (∀ j9, j9 < i9 → rb su j9 = false) ∧ ((-1) : Int32) = nI (1500 + i9)) ∨ (((-1) : Int32) = -1 ∧ ∀ i9, i9 < 640 → rb su i9 = false) := by
          have e9 : i = 10 := by omega
          rw [e9] at hno
          exact Or.inr ⟨rfl, hno⟩
        exact W.iret (v := (-1)) hx hb hr (fun t9 ht hW => ⟨_, rfl, hpost, by rw [ht]⟩) (fun q h => by cases h) dX7_firstSureYear_45
      · skip
        refine lv_aload_n hx hb dX7_firstSureYear_8 rfl (lv_at hl 0 rfl) ?_
        refine va_get (D := (dC, dI)) (ci := 7) (v := .ref (ad 23)) (C := RX7) (T := TX7) (N := 6) hx hb hts hiX7 hown hK hP 0 rfl rfl 3 (by decide) hL0 (fun _ h9 => h9) rfl dX7_firstSureYear_9 ?_
        refine lv_iload_n hx hb dX7_firstSureYear_12 rfl (lv_at hl 1 rfl) ?_
        refine bw_lald hx hb hK hP 1 1 rfl rfl (j := i) (nI_toInt (by omega)) (by omega) dX7_firstSureYear_13 ?_
        refine lv_lconst (v := 0) hx hb dX7_firstSureYear_14 (by decide) ?_
        refine bw_lcmpE hx hb dX7_firstSureYear_15 (fun zq tzq => ?_)
        refine bw_if_eq (tgt := 38) (a := zq.toInt) hx hb dX7_firstSureYear_16 (by decide) rfl (fun c_z => ?_) (fun c_z => ?_)
        · skip
          refine lv_iinc (v := nI (i + 1)) (lv' := [(1, .int (nI (i + 1))), (0, .ref (ad 22))]) hx hb dX7_firstSureYear_38 hl (k := 1) rfl (show nI i + Int32.ofInt 1 = nI (i + 1) from nI_add i 1) (by decide) rfl (fun ls hl => ?_)
          refine lv_goto (tgt := 2) hx hb dX7_firstSureYear_41 (by decide) ?_
          have hI_hno : ∀ j, j < 64 * (i + 1) → rb su j = false := by
            intro j hj
            rcases Nat.lt_or_ge j (64 * i) with q | q
            · exact hno j q
            · have q2 : j / 64 = i := by omega
              unfold rb
              rw [q2, tzq.mp c_z]
              exact lb_0 _
          exact ih2 (i + 1) (by omega) (by first | assumption | omega) hI_hno ls (lv_sub hl [1, 0] rfl)
        · skip
          obtain ⟨t, ht, ht1, ht2⟩ := low_bit (x := su i) (fun q => c_z (tzq.mpr q))
          refine lv_sipush (v := 1500) hx hb dX7_firstSureYear_19 (by decide) ?_
          refine lv_iload_n hx hb dX7_firstSureYear_22 rfl (lv_at hl 1 rfl) ?_
          refine lv_bipush (v := 64) hx hb dX7_firstSureYear_23 (by decide) ?_
          refine lv_imul hx hb dX7_firstSureYear_25 ?_
          refine bw_re (show (nI i) * 64 = nI (i * 64) from pk_mul (i) (64)) ?_
          refine lv_iadd hx hb dX7_firstSureYear_26 ?_
          refine bw_re (show 1500 + (nI (i * 64)) = nI (1500 + (i * 64)) from nI_add (1500) (i * 64)) ?_
          refine lv_aload_n hx hb dX7_firstSureYear_27 rfl (lv_at hl 0 rfl) ?_
          refine va_get (D := (dC, dI)) (ci := 7) (v := .ref (ad 23)) (C := RX7) (T := TX7) (N := 6) hx hb hts hiX7 hown hK hP 0 rfl rfl 3 (by decide) hL0 (fun _ h9 => h9) rfl dX7_firstSureYear_28 ?_
          refine lv_iload_n hx hb dX7_firstSureYear_31 rfl (lv_at hl 1 rfl) ?_
          refine bw_lald hx hb hK hP 1 1 rfl rfl (j := i) (nI_toInt (by omega)) (by omega) dX7_firstSureYear_32 ?_
          refine vp_callSi (va_Run.run (va_runS (As := [.long (su i)]) (rest := [.int (nI (1500 + (i * 64)))]) ⟨hx, hb, hml, hown, hts⟩ (c_J13_numberOfTrailingZeros_95d88 l dC dI cy (su i) t (by first | assumption | omega) (by first | assumption | omega) (by first | assumption | omega)) (va_cwS 1 hts gX7_firstSureYear_J13_numberOfTrailingZeros_95d88 rfl rfl rfl (by decide +kernel) ⟨Nat.le_of_ble_eq_true rfl, Nat.le_of_ble_eq_true rfl⟩) ⟨fun a U g mk q => q, fun U hU hW => ⟨rfl, trivial⟩⟩ rfl rfl hl.1 rfl (lv_room (Nat.le_of_ble_eq_true rfl)) dX7_firstSureYear_33 ⟨Nat.le_of_ble_eq_true rfl, Nat.le_of_ble_eq_true rfl⟩)) (fun r_2 hr_2 => ?_)
          rw [hr_2]
          refine lv_iadd hx hb dX7_firstSureYear_36 ?_
          refine bw_re (show (nI (1500 + (i * 64))) + (nI t) = nI (1500 + (i * 64) + t) from nI_add (1500 + (i * 64)) (t)) ?_
          subst hQ
          have hpost : (∃ i9, i9 < 640 ∧ rb su i9 = true ∧ (∀ j9, j9 < i9 → rb su j9 = false) ∧ (nI (1500 + (i * 64) + t)) = nI (1500 + i9)) ∨ ((nI (1500 + (i * 64) + t)) = -1 ∧ ∀ i9, i9 < 640 → rb su i9 = false) := by
            refine Or.inl ⟨64 * i + t, by omega, by rw [rb_at su ht]; exact ht1, fun j hj => ?_, by rw [show 1500 + i * 64 + t = 1500 + (64 * i + t) by omega]⟩
            rcases Nat.lt_or_ge j (64 * i) with q | q
            · exact hno j q
            · rw [show j = 64 * i + (j - 64 * i) by omega, rb_at su (by omega)]
              exact ht2 _ (by omega)
          exact W.iret (v := nI (1500 + (i * 64) + t)) hx hb hr (fun t9 ht hW => ⟨_, rfl, hpost, by rw [ht]⟩) (fun q h => by cases h) dX7_firstSureYear_37
  have hI_hno : ∀ j, j < 64 * 0 → rb su j = false := by
    exact fun j hj => absurd hj (Nat.not_lt_zero _)
  exact L_2 ((10 - 0) + 1) 0 (by omega) (by first | assumption | omega) hI_hno ls (lv_sub hl [1, 0] rfl)

set_option maxHeartbeats 4000000 in
set_option maxRecDepth 100000 in
theorem c_X7_lastSureYear (l : Launch) (dC : Nat → ClassId) (dI : Nat → Nat → Nat) (cy : Nat → ClassId) (ad : Nat → Nat) (sb : Int32) (su : Nat → Int64)  : Met l yX7_lastSureYear wsX7_lastSureYear ({ frames := 2, cells := 0, slots := 0, locals := 43 }) (va_Pc [.ref (ad 22)] (fun U => va_P (dC, dI) vwCl [(ad 22, .inr (7, [.ref (ad 3), .ref (ad 9), .ref (ad 14), .ref (ad 23), .ref (ad 24), .int sb])), (ad 23, .inl (cy 1, 10, .inr (.inl su)))] U.heap ∧ va_K (dC, dI) vwCl (tyL cy) U)) (vp_Si (fun r => (∃ i9, i9 < 640 ∧ rb su i9 = true ∧ (∀ j9, i9 < j9 → j9 < 640 → rb su j9 = false) ∧ r = nI (1500 + i9)) ∨ (r = -1 ∧ ∀ i9, i9 < 640 → rb su i9 = false))) 0 0 (fun _ => False) := by
  refine Met.ofW (cc := cX7_lastSureYear) (maxL := 2) (ret := (some .int)) (by decide) rfl ?_
  intro pp ee ss mm args below meth cc0 s₁ B hml hv
  obtain ⟨rfl, hP, hK⟩ := hv
  have hx := B.exec
  have hb := B.bytes
  have hr := B.returns
  have hts := atoms_spec (ws := wsX7_lastSureYear) B.pre
  have hown : ss.vm.findClass RX7 = some mm.cls := findClass_of_methodNamed B.named
  have hlocks := B.notSynchronized
  have hL0 := hts (.fieldLink RX7 23 "HereLived$Stay" "sure" "[J") (by decide +kernel)
  have hiX7 : ∀ w ∈ wsX70, w ∈ wsX7_lastSureYear := by decide +kernel
  have hl := lv_entry ([.ref (ad 22)]) (n := 2) (Nat.le_of_ble_eq_true rfl)
  rw [lg_entry_eq]
  generalize (lg_sl ([.ref (ad 22)]) ++ List.replicate (2 - (lg_sl ([.ref (ad 22)])).length) Slot.unset).toArray = ls at hl ⊢
  have hl : lv_has ls 2 [(0, .ref (ad 22))] := hl
  refine bw_Q (fun Q hQ => ?_)
  change W pp l ee { frames := 2, cells := 0, slots := 0, locals := 43 } ss mm _ below meth cc0 ss.heap [] 0 0 Q (F0 mm 0 ls [])
  refine lv_bipush (v := 9) hx hb dX7_lastSureYear_0 (by decide) ?_
  refine lv_istore_n (lv' := [(1, .int 9), (0, .ref (ad 22))]) hx hb dX7_lastSureYear_2 rfl hl (by decide) rfl (fun ls hl => ?_)
  have L_3 : ∀ (n9 : Nat), ∀ (z : Int32), ((z.toInt + 1).toNat) < n9 → (-1 ≤ z.toInt) → (z.toInt ≤ 9) → (∀ j, j < 640 → z.toInt < ((j / 64 : Nat) : Int) → rb su j = false) → ∀ (ls : Array Slot), lv_has ls 2 [(0, .ref (ad 22)), (1, .int z)] → W pp l ee { frames := 2, cells := 0, slots := 0, locals := 43 } ss mm (List.toArray [Value.ref (ad 22)]) below meth cc0 ss.heap [] 0 0 Q (F0 mm 3 ls []) := by
    intro n9
    induction n9 with
    | zero => intro z hm9; exact absurd hm9 (Nat.not_lt_zero _)
    | succ n9 ih3 =>
      intro z hm3 hz1 hz2 hno
      intro ls hl
      refine lv_iload_n hx hb dX7_lastSureYear_3 rfl (lv_at hl 1 rfl) ?_
      refine bw_if_lt (tgt := 46) (a := z.toInt) hx hb dX7_lastSureYear_4 (by decide) rfl (fun c_1 => ?_) (fun c_1 => ?_)
      · skip
        refine lv_iconst (v := (-1)) hx hb dX7_lastSureYear_46 (by decide) ?_
        subst hQ
        have hpost : (∃ i9, i9 < 640 ∧ rb su i9 = true ∧ (∀ j9, i9 < j9 → j9 < 640 → rb su j9 = false) ∧ ((-1) : Int32) = nI (1500 + i9)) ∨ (((-1) : Int32) = -1 ∧ ∀ i9, i9 < 640 → rb su i9 = false) := by
          exact Or.inr ⟨rfl, fun j hj => hno j hj (by omega)⟩
        exact W.iret (v := (-1)) hx hb hr (fun t9 ht hW => ⟨_, rfl, hpost, by rw [ht]⟩) (fun q h => by cases h) dX7_lastSureYear_47
      · skip
        refine lv_aload_n hx hb dX7_lastSureYear_7 rfl (lv_at hl 0 rfl) ?_
        refine va_get (D := (dC, dI)) (ci := 7) (v := .ref (ad 23)) (C := RX7) (T := TX7) (N := 6) hx hb hts hiX7 hown hK hP 0 rfl rfl 3 (by decide) hL0 (fun _ h9 => h9) rfl dX7_lastSureYear_8 ?_
        refine lv_iload_n hx hb dX7_lastSureYear_11 rfl (lv_at hl 1 rfl) ?_
        refine bw_lald hx hb hK hP 1 1 rfl rfl (j := (z.toInt).toNat) (by omega) (by omega) dX7_lastSureYear_12 ?_
        refine lv_lconst (v := 0) hx hb dX7_lastSureYear_13 (by decide) ?_
        refine bw_lcmpE hx hb dX7_lastSureYear_14 (fun zq tzq => ?_)
        refine bw_if_eq (tgt := 40) (a := zq.toInt) hx hb dX7_lastSureYear_15 (by decide) rfl (fun c_z => ?_) (fun c_z => ?_)
        · skip
          obtain ⟨z_2, ez_2⟩ : ∃ y : Int32, y = z + (-1) := ⟨_, rfl⟩
          have tz_2 : z_2.toInt = z.toInt + (-1) := by rw [ez_2]; exact tI_add rfl rfl (by omega) (by omega)
          refine lv_iinc (v := z_2) (lv' := [(1, .int z_2), (0, .ref (ad 22))]) hx hb dX7_lastSureYear_40 hl (k := 1) rfl (by rw [ez_2]; rfl) (by decide) rfl (fun ls hl => ?_)
          refine lv_goto (tgt := 3) hx hb dX7_lastSureYear_43 (by decide) ?_
          have hI_hz1 : -1 ≤ z_2.toInt := by
            omega
          have hI_hz2 : z_2.toInt ≤ 9 := by
            omega
          have hI_hno : ∀ j, j < 640 → z_2.toInt < ((j / 64 : Nat) : Int) → rb su j = false := by
            intro j hj hj2
            rcases Int.lt_or_le z.toInt ((j / 64 : Nat) : Int) with q | q
            · exact hno j hj q
            · have q2 : j / 64 = z.toInt.toNat := by omega
              unfold rb
              rw [q2, tzq.mp c_z]
              exact lb_0 _
          exact ih3 z_2 (by omega) hI_hz1 hI_hz2 hI_hno ls (lv_sub hl [1, 0] rfl)
        · skip
          obtain ⟨t, ht, ht1, ht2⟩ := high_bit (x := su (z.toInt).toNat) (fun q => c_z (tzq.mpr q))
          refine lv_sipush (v := 1500) hx hb dX7_lastSureYear_18 (by decide) ?_
          refine lv_iload_n hx hb dX7_lastSureYear_21 rfl (lv_at hl 1 rfl) ?_
          refine lv_bipush (v := 64) hx hb dX7_lastSureYear_22 (by decide) ?_
          refine lv_imul hx hb dX7_lastSureYear_24 ?_
          refine bw_nm (a := (z.toInt * 64)) (tI_mul rfl rfl (by omega) (by omega)) (fun z_3 ez_3 tz_3 => ?_)
          refine lv_iadd hx hb dX7_lastSureYear_25 ?_
          refine bw_nm (a := (1500 + (z.toInt * 64))) (tI_add rfl tz_3 (by omega) (by omega)) (fun z_4 ez_4 tz_4 => ?_)
          refine lv_bipush (v := 63) hx hb dX7_lastSureYear_26 (by decide) ?_
          refine lv_iadd hx hb dX7_lastSureYear_28 ?_
          refine bw_nm (a := ((1500 + (z.toInt * 64)) + 63)) (tI_add tz_4 rfl (by omega) (by omega)) (fun z_5 ez_5 tz_5 => ?_)
          refine lv_aload_n hx hb dX7_lastSureYear_29 rfl (lv_at hl 0 rfl) ?_
          refine va_get (D := (dC, dI)) (ci := 7) (v := .ref (ad 23)) (C := RX7) (T := TX7) (N := 6) hx hb hts hiX7 hown hK hP 0 rfl rfl 3 (by decide) hL0 (fun _ h9 => h9) rfl dX7_lastSureYear_30 ?_
          refine lv_iload_n hx hb dX7_lastSureYear_33 rfl (lv_at hl 1 rfl) ?_
          refine bw_lald hx hb hK hP 1 1 rfl rfl (j := (z.toInt).toNat) (by omega) (by omega) dX7_lastSureYear_34 ?_
          refine vp_callSi (va_Run.run (va_runS (As := [.long (su ((z.toInt).toNat))]) (rest := [.int z_5]) ⟨hx, hb, hml, hown, hts⟩ (c_J13_numberOfLeadingZeros_95d88 l dC dI cy (su ((z.toInt).toNat)) t (by first | assumption | omega) (by first | assumption | omega) (by first | assumption | omega)) (va_cwS 1 hts gX7_lastSureYear_J13_numberOfLeadingZeros_95d88 rfl rfl rfl (by decide +kernel) ⟨Nat.le_of_ble_eq_true rfl, Nat.le_of_ble_eq_true rfl⟩) ⟨fun a U g mk q => q, fun U hU hW => ⟨rfl, trivial⟩⟩ rfl rfl hl.1 rfl (lv_room (Nat.le_of_ble_eq_true rfl)) dX7_lastSureYear_35 ⟨Nat.le_of_ble_eq_true rfl, Nat.le_of_ble_eq_true rfl⟩)) (fun r_6 hr_6 => ?_)
          rw [hr_6]
          refine lv_isub hx hb dX7_lastSureYear_38 ?_
          refine bw_nm (a := (((1500 + (z.toInt * 64)) + 63) - ((63 - t : Nat) : Int))) (tI_sub tz_5 (nI_toInt (by omega)) (by omega) (by omega)) (fun zr ezr tzr => ?_)
          subst hQ
          have hpost : (∃ i9, i9 < 640 ∧ rb su i9 = true ∧ (∀ j9, i9 < j9 → j9 < 640 → rb su j9 = false) ∧ zr = nI (1500 + i9)) ∨ (zr = -1 ∧ ∀ i9, i9 < 640 → rb su i9 = false) := by
            have q5 : zr = nI (1500 + (64 * z.toInt.toNat + t)) := nI_back (by omega)
            refine Or.inl ⟨64 * z.toInt.toNat + t, by omega, by rw [rb_at su ht]; exact ht1, fun j hj hj2 => ?_, q5⟩
            rcases Nat.lt_or_ge (j / 64) (z.toInt.toNat + 1) with q | q
            · rw [show j = 64 * z.toInt.toNat + (j - 64 * z.toInt.toNat) by omega, rb_at su (by omega)]
              exact ht2 _ (by omega)
            · exact hno j hj2 (by omega)
          exact W.iret (v := zr) hx hb hr (fun t9 ht hW => ⟨_, rfl, hpost, by rw [ht]⟩) (fun q h => by cases h) dX7_lastSureYear_39
  have hI_hz1 : -1 ≤ (9 : Int32).toInt := by
    decide
  have hI_hz2 : (9 : Int32).toInt ≤ 9 := by
    decide
  have hI_hno : ∀ j, j < 640 → (9 : Int32).toInt < ((j / 64 : Nat) : Int) → rb su j = false := by
    intro j hj hj2
    have q : (9 : Int32).toInt = 9 := rfl
    omega
  exact L_3 ((((9 : Int32).toInt + 1).toNat) + 1) 9 (by omega) hI_hz1 hI_hz2 hI_hno ls (lv_sub hl [1, 0] rfl)

set_option maxHeartbeats 4000000 in
set_option maxRecDepth 100000 in
theorem c_X7_sources (l : Launch) (dC : Nat → ClassId) (dI : Nat → Nat → Nat) (cy : Nat → ClassId) (ad : Nat → Nat) (sb : Int32) (bn : Nat) (hbn : bn < 64) (hsb : sb = nI bn) : Met l yX7_sources wsX7_sources ({ frames := 1, cells := 0, slots := 0, locals := 20 }) (va_Pc [.ref (ad 22)] (fun U => va_P (dC, dI) vwCl [(ad 22, .inr (7, [.ref (ad 3), .ref (ad 9), .ref (ad 14), .ref (ad 23), .ref (ad 24), .int sb]))] U.heap ∧ va_K (dC, dI) vwCl (tyL cy) U)) (vp_Si (fun r => r = nI (fb_ct (fun i9 => Nat.testBit bn i9) 6))) 0 0 (fun _ => False) := by
  refine Met.ofW (cc := cX7_sources) (maxL := 1) (ret := (some .int)) (by decide) rfl ?_
  intro pp ee ss mm args below meth cc0 s₁ B hml hv
  obtain ⟨rfl, hP, hK⟩ := hv
  have hx := B.exec
  have hb := B.bytes
  have hr := B.returns
  have hts := atoms_spec (ws := wsX7_sources) B.pre
  have hown : ss.vm.findClass RX7 = some mm.cls := findClass_of_methodNamed B.named
  have hlocks := B.notSynchronized
  have hL0 := hts (.fieldLink RX7 30 "HereLived$Stay" "sourceBits" "I") (by decide +kernel)
  have hiX7 : ∀ w ∈ wsX70, w ∈ wsX7_sources := by decide +kernel
  have hl := lv_entry ([.ref (ad 22)]) (n := 1) (Nat.le_of_ble_eq_true rfl)
  rw [lg_entry_eq]
  generalize (lg_sl ([.ref (ad 22)]) ++ List.replicate (1 - (lg_sl ([.ref (ad 22)])).length) Slot.unset).toArray = ls at hl ⊢
  have hl : lv_has ls 1 [(0, .ref (ad 22))] := hl
  refine bw_Q (fun Q hQ => ?_)
  change W pp l ee { frames := 1, cells := 0, slots := 0, locals := 20 } ss mm _ below meth cc0 ss.heap [] 0 0 Q (F0 mm 0 ls [])
  refine lv_aload_n hx hb dX7_sources_0 rfl (lv_at hl 0 rfl) ?_
  refine va_get (D := (dC, dI)) (ci := 7) (v := .int sb) (C := RX7) (T := TX7) (N := 6) hx hb hts hiX7 hown hK hP 0 rfl rfl 5 (by decide) hL0 (fun _ h9 => h9) rfl dX7_sources_1 ?_
  refine bw_re (show sb = nI bn from hsb) ?_
  refine vp_callSi (va_Run.run (va_runS (As := [.int (nI bn)]) (rest := []) ⟨hx, hb, hml, hown, hts⟩ (c_J6_bitCount_0f7a4 l dC dI cy bn (by first | assumption | omega)) (va_cwS 1 hts gX7_sources_J6_bitCount_0f7a4 rfl rfl rfl (by decide +kernel) ⟨Nat.le_of_ble_eq_true rfl, Nat.le_of_ble_eq_true rfl⟩) ⟨fun a U g mk q => q, fun U hU hW => ⟨rfl, trivial⟩⟩ rfl rfl hl.1 rfl (lv_room (Nat.le_of_ble_eq_true rfl)) dX7_sources_4 ⟨Nat.le_of_ble_eq_true rfl, Nat.le_of_ble_eq_true rfl⟩)) (fun r_1 hr_1 => ?_)
  rw [hr_1]
  subst hQ
  have hpost : (nI (fb_ct (fun i9 => Nat.testBit bn i9) 6)) = nI (fb_ct (fun i9 => Nat.testBit bn i9) 6) := by
    exact rfl
  exact W.iret (v := nI (fb_ct (fun i9 => Nat.testBit bn i9) 6)) hx hb hr (fun t9 ht hW => ⟨_, rfl, hpost, by rw [ht]⟩) (fun q h => by cases h) dX7_sources_7

set_option maxHeartbeats 4000000 in
set_option maxRecDepth 100000 in
theorem c_X7_isSure (l : Launch) (dC : Nat → ClassId) (dI : Nat → Nat → Nat) (cy : Nat → ClassId) (ad : Nat → Nat) (sb : Int32) (su : Nat → Int64) (y : Int32)  : Met l yX7_isSure wsX7_isSure ({ frames := 1, cells := 0, slots := 0, locals := 20 }) (va_Pc [.ref (ad 22), .int y] (fun U => va_P (dC, dI) vwCl [(ad 22, .inr (7, [.ref (ad 3), .ref (ad 9), .ref (ad 14), .ref (ad 23), .ref (ad 24), .int sb])), (ad 23, .inl (cy 1, 10, .inr (.inl su)))] U.heap ∧ va_K (dC, dI) vwCl (tyL cy) U ∧ va_Nw (.methodLinkNest RX7 85 yX10_isYear "HereLived") U)) (vp_Si (fun r => r = pI ((1500 ≤ y.toInt ∧ y.toInt ≤ 2100) ∧ rb su (y.toInt - 1500).toNat = true))) 0 0 (fun _ => False) := by
  refine Met.ofW (cc := cX7_isSure) (maxL := 3) (ret := (some .boolean)) (by decide) rfl ?_
  intro pp ee ss mm args below meth cc0 s₁ B hml hv
  obtain ⟨rfl, hP, hK, hn0⟩ := hv
  have hx := B.exec
  have hb := B.bytes
  have hr := B.returns
  have hts := atoms_spec (ws := wsX7_isSure) B.pre
  have hown : ss.vm.findClass RX7 = some mm.cls := findClass_of_methodNamed B.named
  have hlocks := B.notSynchronized
  have hL0 := hts (.initialized RX10) (by decide +kernel)
  have hL1 := hts (.static yX10_isYear) (by decide +kernel)
  have hL2 := hts (.fieldLink RX7 23 "HereLived$Stay" "sure" "[J") (by decide +kernel)
  have hiX7 : ∀ w ∈ wsX70, w ∈ wsX7_isSure := by decide +kernel
  have hl := lv_entry ([.ref (ad 22), .int y]) (n := 3) (Nat.le_of_ble_eq_true rfl)
  rw [lg_entry_eq]
  generalize (lg_sl ([.ref (ad 22), .int y]) ++ List.replicate (3 - (lg_sl ([.ref (ad 22), .int y])).length) Slot.unset).toArray = ls at hl ⊢
  have hl : lv_has ls 3 [(0, .ref (ad 22)), (1, .int y)] := hl
  refine bw_Q (fun Q hQ => ?_)
  change W pp l ee { frames := 1, cells := 0, slots := 0, locals := 20 } ss mm _ below meth cc0 ss.heap [] 0 0 Q (F0 mm 0 ls [])
  refine lv_iload_n hx hb dX7_isSure_0 rfl (lv_at hl 1 rfl) ?_
  refine vp_callSi (va_Run.run (va_runSN (As := [.int y]) (rest := []) ⟨hx, hb, hml, hown, hts⟩ (c_X10_isYear l dC dI cy y) ⟨va_cnB 1 hts gX7_isSure_X10_isYear_n85 rfl rfl rfl hn0 hL0 (by decide +kernel) ⟨Nat.le_of_ble_eq_true rfl, Nat.le_of_ble_eq_true rfl⟩, hL1, trivial⟩ ⟨fun a U g mk q => q, fun U hU hW => ⟨rfl, trivial⟩⟩ rfl rfl hl.1 rfl (lv_room (Nat.le_of_ble_eq_true rfl)) dX7_isSure_1 ⟨Nat.le_of_ble_eq_true rfl, Nat.le_of_ble_eq_true rfl⟩)) (fun r_1 hr_1 => ?_)
  refine bw_ifneB (tgt := 9) hx hb dX7_isSure_4 (by decide) hr_1 (fun c_2 => ?_) (fun c_2 => ?_)
  · skip
    refine lv_iload_n hx hb dX7_isSure_9 rfl (lv_at hl 1 rfl) ?_
    refine lv_sipush (v := 1500) hx hb dX7_isSure_10 (by decide) ?_
    refine lv_isub hx hb dX7_isSure_13 ?_
    refine bw_nm (a := (y.toInt - 1500)) (tI_sub rfl rfl (by omega) (by omega)) (fun z_3 ez_3 tz_3 => ?_)
    refine bw_re (show z_3 = nI ((y.toInt - 1500).toNat) from nI_back (by omega)) ?_
    refine lv_istore_n (lv' := [(2, .int (nI ((y.toInt - 1500).toNat))), (0, .ref (ad 22)), (1, .int y)]) hx hb dX7_isSure_14 rfl hl (by decide) rfl (fun ls hl => ?_)
    refine lv_aload_n hx hb dX7_isSure_15 rfl (lv_at hl 1 rfl) ?_
    refine va_get (D := (dC, dI)) (ci := 7) (v := .ref (ad 23)) (C := RX7) (T := TX7) (N := 6) hx hb hts hiX7 hown hK hP 0 rfl rfl 3 (by decide) hL2 (fun _ h9 => h9) rfl dX7_isSure_16 ?_
    refine lv_iload_n hx hb dX7_isSure_19 rfl (lv_at hl 0 rfl) ?_
    refine lv_bipush (v := 6) hx hb dX7_isSure_20 (by decide) ?_
    refine lv_ishr hx hb dX7_isSure_22 ?_
    refine bw_re (show (nI ((y.toInt - 1500).toNat)) >>> ((6 : Int32) &&& 31) = nI ((y.toInt - 1500).toNat / 64) from (pk_shrN (n := (y.toInt - 1500).toNat) (by omega) _ 6 (by decide))) ?_
    refine bw_lald hx hb hK hP 1 1 rfl rfl (j := ((y.toInt - 1500).toNat / 64)) (nI_toInt (by omega)) (by omega) dX7_isSure_23 ?_
    refine lv_iload_n hx hb dX7_isSure_24 rfl (lv_at hl 0 rfl) ?_
    refine lv_bipush (v := 63) hx hb dX7_isSure_25 (by decide) ?_
    refine lv_iand hx hb dX7_isSure_27 ?_
    refine bw_re (show (nI ((y.toInt - 1500).toNat)) &&& (63 : Int32) = nI ((y.toInt - 1500).toNat % 64) from (pk_andN (n := (y.toInt - 1500).toNat) (by omega) 6 (by decide))) ?_
    refine lv_lushr hx hb dX7_isSure_28 rfl ?_
    refine lv_topl (fun wa ewa => ?_)
    refine lv_lconst (v := 1) hx hb dX7_isSure_29 (by decide) ?_
    refine lv_land hx hb dX7_isSure_30 ?_
    refine lv_topl (fun wb ewb => ?_)
    refine lv_lconst (v := 0) hx hb dX7_isSure_31 (by decide) ?_
    refine bw_lcmpE hx hb dX7_isSure_32 (fun zq tzq => ?_)
    refine bw_if_eq (tgt := 40) (a := zq.toInt) hx hb dX7_isSure_33 (by decide) rfl (fun c_z => ?_) (fun c_z => ?_)
    · skip
      refine lv_iconst (v := 0) hx hb dX7_isSure_40 (by decide) ?_
      subst hQ
      have hpost : (0 : Int32) = pI ((1500 ≤ y.toInt ∧ y.toInt ≤ 2100) ∧ rb su (y.toInt - 1500).toNat = true) := by
        have q1 : wb = 0 ↔ rb su (y.toInt - 1500).toNat = false := by
          rw [ewb, ewa, lb_and1, lb_ushr _ (by omega), Nat.add_zero]
          exact Iff.rfl
        exact (pI_f (fun q => by rw [q1.mp (tzq.mp c_z)] at q; exact absurd q.2 (by decide))).symm
      exact W.zret (v := 0) hx hb hr (by rfl) (fun t9 ht hW => ⟨_, rfl, hpost, by rw [ht]⟩) (fun q h => by cases h) dX7_isSure_41
    · skip
      refine lv_iconst (v := 1) hx hb dX7_isSure_36 (by decide) ?_
      refine lv_goto (tgt := 41) hx hb dX7_isSure_37 (by decide) ?_
      subst hQ
      have hpost : (1 : Int32) = pI ((1500 ≤ y.toInt ∧ y.toInt ≤ 2100) ∧ rb su (y.toInt - 1500).toNat = true) := by
        have q1 : wb = 0 ↔ rb su (y.toInt - 1500).toNat = false := by
          rw [ewb, ewa, lb_and1, lb_ushr _ (by omega), Nat.add_zero]
          exact Iff.rfl
        exact (pI_t ⟨by omega, by
          cases hq : rb su (y.toInt - 1500).toNat with
          | true => rfl
          | false => exact absurd (tzq.mpr (q1.mpr hq)) c_z⟩).symm
      exact W.zret (v := 1) hx hb hr (by rfl) (fun t9 ht hW => ⟨_, rfl, hpost, by rw [ht]⟩) (fun q h => by cases h) dX7_isSure_41
  · skip
    refine lv_iconst (v := 0) hx hb dX7_isSure_7 (by decide) ?_
    subst hQ
    have hpost : (0 : Int32) = pI ((1500 ≤ y.toInt ∧ y.toInt ≤ 2100) ∧ rb su (y.toInt - 1500).toNat = true) := by
      exact (pI_f (fun q => by omega)).symm
    exact W.zret (v := 0) hx hb hr (by rfl) (fun t9 ht hW => ⟨_, rfl, hpost, by rw [ht]⟩) (fun q h => by cases h) dX7_isSure_8

set_option maxHeartbeats 4000000 in
set_option maxRecDepth 100000 in
theorem c_X7_addPaper (l : Launch) (dC : Nat → ClassId) (dI : Nat → Nat → Nat) (cy : Nat → ClassId) (ad : Nat → Nat) (sb : Int32) (su : Nat → Int64) (my : Nat → Int64) (pn : Nat) (qn : Nat) (qp : Nat → Int32) (qs : Nat → Int32) (qt : Nat → Int32) (qm : Nat → Int32) (qf : Nat → Int32) (ql : Nat → Int32) (qx : Nat → Int32) (sn : Nat) (nb : Nat → Int32) (fr : Nat → Int32) (tt : Nat → Int32) (st : Nat → Int32) (nu : Nat → Int32) (k : Nat) (s : Nat) (bn : Nat) (sz : Nat) (hall : sOK nb fr tt sn) (hq : qOK qp qs qf ql qx qn pn) (hk9 : k < qn) (hs9 : s < sn) (hbn : bn < 64) (hsb : sb = nI bn) : Met l yX7_addPaper wsX7_addPaper ({ frames := 3, cells := 0, slots := 0, locals := 85 }) (va_Pc [.ref (ad 22), .int (nI k), .int (nI s)] (fun U => U.heap.size = sz ∧ va_P (dC, dI) vwCl [(ad 22, .inr (7, [.ref (ad 3), .ref (ad 9), .ref (ad 14), .ref (ad 23), .ref (ad 24), .int sb])), (ad 23, .inl (cy 1, 10, .inr (.inl su))), (ad 24, .inl (cy 1, 10, .inr (.inl my))), (ad 14, .inr (2, [.ref (ad 15), .ref (ad 16), .ref (ad 17), .ref (ad 18), .ref (ad 19), .ref (ad 20), .ref (ad 21), .int (nI qn)])), (ad 15, .inl (cy 0, 100, .inl qp)), (ad 16, .inl (cy 0, 100, .inl qs)), (ad 17, .inl (cy 0, 100, .inl qt)), (ad 18, .inl (cy 0, 100, .inl qm)), (ad 19, .inl (cy 0, 100, .inl qf)), (ad 20, .inl (cy 0, 100, .inl ql)), (ad 21, .inl (cy 2, 100, .inl qx)), (ad 3, .inr (6, [.ref (ad 4), .ref (ad 5), .ref (ad 6), .ref (ad 7), .ref (ad 8), .int (nI sn)])), (ad 4, .inl (cy 0, 40, .inl nb)), (ad 5, .inl (cy 0, 320, .inl fr)), (ad 6, .inl (cy 0, 320, .inl tt)), (ad 7, .inl (cy 0, 320, .inl st)), (ad 8, .inl (cy 0, 320, .inl nu))] U.heap ∧ va_K (dC, dI) vwCl (tyL cy) U ∧ va_D (fun _ => True) [(ad 22, .inr (7, [.ref (ad 3), .ref (ad 9), .ref (ad 14), .ref (ad 23), .ref (ad 24), .int sb])), (ad 23, .inl (cy 1, 10, .inr (.inl su))), (ad 24, .inl (cy 1, 10, .inr (.inl my))), (ad 14, .inr (2, [.ref (ad 15), .ref (ad 16), .ref (ad 17), .ref (ad 18), .ref (ad 19), .ref (ad 20), .ref (ad 21), .int (nI qn)])), (ad 15, .inl (cy 0, 100, .inl qp)), (ad 16, .inl (cy 0, 100, .inl qs)), (ad 17, .inl (cy 0, 100, .inl qt)), (ad 18, .inl (cy 0, 100, .inl qm)), (ad 19, .inl (cy 0, 100, .inl qf)), (ad 20, .inl (cy 0, 100, .inl ql)), (ad 21, .inl (cy 2, 100, .inl qx)), (ad 3, .inr (6, [.ref (ad 4), .ref (ad 5), .ref (ad 6), .ref (ad 7), .ref (ad 8), .int (nI sn)])), (ad 4, .inl (cy 0, 40, .inl nb)), (ad 5, .inl (cy 0, 320, .inl fr)), (ad 6, .inl (cy 0, 320, .inl tt)), (ad 7, .inl (cy 0, 320, .inl st)), (ad 8, .inl (cy 0, 320, .inl nu))])) (va_Qv (S := Int32 × (Nat → Int64) × (Nat → Int64)) (fun u => match u with | (sb2, su2, my2) => (∀ i9, i9 < 640 → rb su2 i9 = (rb su i9 || pB ((qf k).toInt ≤ 1500 + ((i9 : Nat) : Int) ∧ 1500 + ((i9 : Nat) : Int) ≤ (ql k).toInt ∧ sOnly nb fr tt st nu sn s (qt k) (qm k) (1500 + ((i9 : Nat) : Int))))) ∧ (∀ i9, i9 < 640 → rb my2 i9 = (rb my i9 || pB ((qf k).toInt ≤ 1500 + ((i9 : Nat) : Int) ∧ 1500 + ((i9 : Nat) : Int) ≤ (ql k).toInt ∧ sPos nb fr tt st nu s (qt k) (qm k) (1500 + ((i9 : Nat) : Int))))) ∧ (∃ b9, b9 < 64 ∧ sb2 = nI b9 ∧ ∀ j9, j9 < 6 → b9.testBit j9 = (bn.testBit j9 || pB ((qs k).toInt = ((j9 : Nat) : Int) ∧ ∃ y9, (qf k).toInt ≤ y9 ∧ y9 ≤ (ql k).toInt ∧ sOnly nb fr tt st nu sn s (qt k) (qm k) y9)))) (fun u => match u with | (sb2, su2, my2) => fun t => va_P (dC, dI) vwCl [(ad 22, .inr (7, [.ref (ad 3), .ref (ad 9), .ref (ad 14), .ref (ad 23), .ref (ad 24), .int sb2])), (ad 23, .inl (cy 1, 10, .inr (.inl su2))), (ad 24, .inl (cy 1, 10, .inr (.inl my2))), (ad 14, .inr (2, [.ref (ad 15), .ref (ad 16), .ref (ad 17), .ref (ad 18), .ref (ad 19), .ref (ad 20), .ref (ad 21), .int (nI qn)])), (ad 15, .inl (cy 0, 100, .inl qp)), (ad 16, .inl (cy 0, 100, .inl qs)), (ad 17, .inl (cy 0, 100, .inl qt)), (ad 18, .inl (cy 0, 100, .inl qm)), (ad 19, .inl (cy 0, 100, .inl qf)), (ad 20, .inl (cy 0, 100, .inl ql)), (ad 21, .inl (cy 2, 100, .inl qx)), (ad 3, .inr (6, [.ref (ad 4), .ref (ad 5), .ref (ad 6), .ref (ad 7), .ref (ad 8), .int (nI sn)])), (ad 4, .inl (cy 0, 40, .inl nb)), (ad 5, .inl (cy 0, 320, .inl fr)), (ad 6, .inl (cy 0, 320, .inl tt)), (ad 7, .inl (cy 0, 320, .inl st)), (ad 8, .inl (cy 0, 320, .inl nu))] t.heap ∧ va_K (dC, dI) vwCl (tyL cy) t ∧ va_D (va_A [(ad 22, .inr (7, [.ref (ad 3), .ref (ad 9), .ref (ad 14), .ref (ad 23), .ref (ad 24), .int sb])), (ad 23, .inl (cy 1, 10, .inr (.inl su))), (ad 24, .inl (cy 1, 10, .inr (.inl my))), (ad 14, .inr (2, [.ref (ad 15), .ref (ad 16), .ref (ad 17), .ref (ad 18), .ref (ad 19), .ref (ad 20), .ref (ad 21), .int (nI qn)])), (ad 15, .inl (cy 0, 100, .inl qp)), (ad 16, .inl (cy 0, 100, .inl qs)), (ad 17, .inl (cy 0, 100, .inl qt)), (ad 18, .inl (cy 0, 100, .inl qm)), (ad 19, .inl (cy 0, 100, .inl qf)), (ad 20, .inl (cy 0, 100, .inl ql)), (ad 21, .inl (cy 2, 100, .inl qx)), (ad 3, .inr (6, [.ref (ad 4), .ref (ad 5), .ref (ad 6), .ref (ad 7), .ref (ad 8), .int (nI sn)])), (ad 4, .inl (cy 0, 40, .inl nb)), (ad 5, .inl (cy 0, 320, .inl fr)), (ad 6, .inl (cy 0, 320, .inl tt)), (ad 7, .inl (cy 0, 320, .inl st)), (ad 8, .inl (cy 0, 320, .inl nu))] sz) [(ad 22, .inr (7, [.ref (ad 3), .ref (ad 9), .ref (ad 14), .ref (ad 23), .ref (ad 24), .int sb2])), (ad 23, .inl (cy 1, 10, .inr (.inl su2))), (ad 24, .inl (cy 1, 10, .inr (.inl my2))), (ad 14, .inr (2, [.ref (ad 15), .ref (ad 16), .ref (ad 17), .ref (ad 18), .ref (ad 19), .ref (ad 20), .ref (ad 21), .int (nI qn)])), (ad 15, .inl (cy 0, 100, .inl qp)), (ad 16, .inl (cy 0, 100, .inl qs)), (ad 17, .inl (cy 0, 100, .inl qt)), (ad 18, .inl (cy 0, 100, .inl qm)), (ad 19, .inl (cy 0, 100, .inl qf)), (ad 20, .inl (cy 0, 100, .inl ql)), (ad 21, .inl (cy 2, 100, .inl qx)), (ad 3, .inr (6, [.ref (ad 4), .ref (ad 5), .ref (ad 6), .ref (ad 7), .ref (ad 8), .int (nI sn)])), (ad 4, .inl (cy 0, 40, .inl nb)), (ad 5, .inl (cy 0, 320, .inl fr)), (ad 6, .inl (cy 0, 320, .inl tt)), (ad 7, .inl (cy 0, 320, .inl st)), (ad 8, .inl (cy 0, 320, .inl nu))]) (va_A [(ad 22, .inr (7, [.ref (ad 3), .ref (ad 9), .ref (ad 14), .ref (ad 23), .ref (ad 24), .int sb])), (ad 23, .inl (cy 1, 10, .inr (.inl su))), (ad 24, .inl (cy 1, 10, .inr (.inl my))), (ad 14, .inr (2, [.ref (ad 15), .ref (ad 16), .ref (ad 17), .ref (ad 18), .ref (ad 19), .ref (ad 20), .ref (ad 21), .int (nI qn)])), (ad 15, .inl (cy 0, 100, .inl qp)), (ad 16, .inl (cy 0, 100, .inl qs)), (ad 17, .inl (cy 0, 100, .inl qt)), (ad 18, .inl (cy 0, 100, .inl qm)), (ad 19, .inl (cy 0, 100, .inl qf)), (ad 20, .inl (cy 0, 100, .inl ql)), (ad 21, .inl (cy 2, 100, .inl qx)), (ad 3, .inr (6, [.ref (ad 4), .ref (ad 5), .ref (ad 6), .ref (ad 7), .ref (ad 8), .int (nI sn)])), (ad 4, .inl (cy 0, 40, .inl nb)), (ad 5, .inl (cy 0, 320, .inl fr)), (ad 6, .inl (cy 0, 320, .inl tt)), (ad 7, .inl (cy 0, 320, .inl st)), (ad 8, .inl (cy 0, 320, .inl nu))] sz)) 0 0 (va_A [(ad 22, .inr (7, [.ref (ad 3), .ref (ad 9), .ref (ad 14), .ref (ad 23), .ref (ad 24), .int sb])), (ad 23, .inl (cy 1, 10, .inr (.inl su))), (ad 24, .inl (cy 1, 10, .inr (.inl my))), (ad 14, .inr (2, [.ref (ad 15), .ref (ad 16), .ref (ad 17), .ref (ad 18), .ref (ad 19), .ref (ad 20), .ref (ad 21), .int (nI qn)])), (ad 15, .inl (cy 0, 100, .inl qp)), (ad 16, .inl (cy 0, 100, .inl qs)), (ad 17, .inl (cy 0, 100, .inl qt)), (ad 18, .inl (cy 0, 100, .inl qm)), (ad 19, .inl (cy 0, 100, .inl qf)), (ad 20, .inl (cy 0, 100, .inl ql)), (ad 21, .inl (cy 2, 100, .inl qx)), (ad 3, .inr (6, [.ref (ad 4), .ref (ad 5), .ref (ad 6), .ref (ad 7), .ref (ad 8), .int (nI sn)])), (ad 4, .inl (cy 0, 40, .inl nb)), (ad 5, .inl (cy 0, 320, .inl fr)), (ad 6, .inl (cy 0, 320, .inl tt)), (ad 7, .inl (cy 0, 320, .inl st)), (ad 8, .inl (cy 0, 320, .inl nu))] sz) := by
  refine Met.ofW (cc := cX7_addPaper) (maxL := 9) (ret := none) (by decide) rfl ?_
  intro pp ee ss mm args below meth cc0 s₁ B hml hv
  obtain ⟨rfl, hsz, hP, hK, hD0⟩ := hv
  have hx := B.exec
  have hb := B.bytes
  have hr := B.returns
  have hts := atoms_spec (ws := wsX7_addPaper) B.pre
  have hown : ss.vm.findClass RX7 = some mm.cls := findClass_of_methodNamed B.named
  have hlocks := B.notSynchronized
  have hL0 := hts (.fieldLink RX7 19 "HereLived$Stay" "papers" "LHereLived$Papers;") (by decide +kernel)
  have hL1 := hts (.fieldLink RX7 57 "HereLived$Papers" "from" "[I") (by decide +kernel)
  have hL2 := hts (.fieldLink RX7 60 "HereLived$Papers" "to" "[I") (by decide +kernel)
  have hL3 := hts (.fieldLink RX7 9 "HereLived$Stay" "sites" "LHereLived$Sites;") (by decide +kernel)
  have hL4 := hts (.fieldLink RX7 63 "HereLived$Papers" "street" "[I") (by decide +kernel)
  have hL5 := hts (.fieldLink RX7 66 "HereLived$Papers" "number" "[I") (by decide +kernel)
  have hL6 := hts (.fieldLink RX7 27 "HereLived$Stay" "maybe" "[J") (by decide +kernel)
  have hL7 := hts (.fieldLink RX7 23 "HereLived$Stay" "sure" "[J") (by decide +kernel)
  have hL8 := hts (.fieldLink RX7 30 "HereLived$Stay" "sourceBits" "I") (by decide +kernel)
  have hL9 := hts (.fieldLink RX7 82 "HereLived$Papers" "source" "[I") (by decide +kernel)
  have hiX2 : ∀ w ∈ wsX20, w ∈ wsX7_addPaper := by decide +kernel
  have hiX7 : ∀ w ∈ wsX70, w ∈ wsX7_addPaper := by decide +kernel
  subst hsz
  have hD := hD0.self (sz := ss.heap.size)
  generalize hAe : va_A [(ad 22, .inr (7, [.ref (ad 3), .ref (ad 9), .ref (ad 14), .ref (ad 23), .ref (ad 24), .int sb])), (ad 23, .inl (cy 1, 10, .inr (.inl su))), (ad 24, .inl (cy 1, 10, .inr (.inl my))), (ad 14, .inr (2, [.ref (ad 15), .ref (ad 16), .ref (ad 17), .ref (ad 18), .ref (ad 19), .ref (ad 20), .ref (ad 21), .int (nI qn)])), (ad 15, .inl (cy 0, 100, .inl qp)), (ad 16, .inl (cy 0, 100, .inl qs)), (ad 17, .inl (cy 0, 100, .inl qt)), (ad 18, .inl (cy 0, 100, .inl qm)), (ad 19, .inl (cy 0, 100, .inl qf)), (ad 20, .inl (cy 0, 100, .inl ql)), (ad 21, .inl (cy 2, 100, .inl qx)), (ad 3, .inr (6, [.ref (ad 4), .ref (ad 5), .ref (ad 6), .ref (ad 7), .ref (ad 8), .int (nI sn)])), (ad 4, .inl (cy 0, 40, .inl nb)), (ad 5, .inl (cy 0, 320, .inl fr)), (ad 6, .inl (cy 0, 320, .inl tt)), (ad 7, .inl (cy 0, 320, .inl st)), (ad 8, .inl (cy 0, 320, .inl nu))] ss.heap.size = A at hD ⊢
  have hA : ∀ q : Nat, ss.heap.size ≤ q → A q := fun q h => by rw [← hAe]; exact Or.inr h
  have hS : va_S A ss.heap ss.heap [] := va_S.rf
  have hP : va_P (dC, dI) vwCl [(ad 22, .inr (7, [.ref (ad 3), .ref (ad 9), .ref (ad 14), .ref (ad 23), .ref (ad 24), .int sb])), (ad 23, .inl (cy 1, 10, .inr (.inl su))), (ad 24, .inl (cy 1, 10, .inr (.inl my))), (ad 14, .inr (2, [.ref (ad 15), .ref (ad 16), .ref (ad 17), .ref (ad 18), .ref (ad 19), .ref (ad 20), .ref (ad 21), .int (nI qn)])), (ad 15, .inl (cy 0, 100, .inl qp)), (ad 16, .inl (cy 0, 100, .inl qs)), (ad 17, .inl (cy 0, 100, .inl qt)), (ad 18, .inl (cy 0, 100, .inl qm)), (ad 19, .inl (cy 0, 100, .inl qf)), (ad 20, .inl (cy 0, 100, .inl ql)), (ad 21, .inl (cy 2, 100, .inl qx)), (ad 3, .inr (6, [.ref (ad 4), .ref (ad 5), .ref (ad 6), .ref (ad 7), .ref (ad 8), .int (nI sn)])), (ad 4, .inl (cy 0, 40, .inl nb)), (ad 5, .inl (cy 0, 320, .inl fr)), (ad 6, .inl (cy 0, 320, .inl tt)), (ad 7, .inl (cy 0, 320, .inl st)), (ad 8, .inl (cy 0, 320, .inl nu))] ss.heap := hP
  have hl := lv_entry ([.ref (ad 22), .int (nI k), .int (nI s)]) (n := 9) (Nat.le_of_ble_eq_true rfl)
  rw [lg_entry_eq]
  generalize (lg_sl ([.ref (ad 22), .int (nI k), .int (nI s)]) ++ List.replicate (9 - (lg_sl ([.ref (ad 22), .int (nI k), .int (nI s)])).length) Slot.unset).toArray = ls at hl ⊢
  have hl : lv_has ls 9 [(0, .ref (ad 22)), (1, .int (nI k)), (2, .int (nI s))] := hl
  refine bw_Q (fun Q hQ => ?_)
  refine bw_H0 (fun H locs eH eL => ?_)
  have hS : va_S A ss.heap H locs := by rw [eH, eL]; exact hS
  have hP : va_P (dC, dI) vwCl [(ad 22, .inr (7, [.ref (ad 3), .ref (ad 9), .ref (ad 14), .ref (ad 23), .ref (ad 24), .int sb])), (ad 23, .inl (cy 1, 10, .inr (.inl su))), (ad 24, .inl (cy 1, 10, .inr (.inl my))), (ad 14, .inr (2, [.ref (ad 15), .ref (ad 16), .ref (ad 17), .ref (ad 18), .ref (ad 19), .ref (ad 20), .ref (ad 21), .int (nI qn)])), (ad 15, .inl (cy 0, 100, .inl qp)), (ad 16, .inl (cy 0, 100, .inl qs)), (ad 17, .inl (cy 0, 100, .inl qt)), (ad 18, .inl (cy 0, 100, .inl qm)), (ad 19, .inl (cy 0, 100, .inl qf)), (ad 20, .inl (cy 0, 100, .inl ql)), (ad 21, .inl (cy 2, 100, .inl qx)), (ad 3, .inr (6, [.ref (ad 4), .ref (ad 5), .ref (ad 6), .ref (ad 7), .ref (ad 8), .int (nI sn)])), (ad 4, .inl (cy 0, 40, .inl nb)), (ad 5, .inl (cy 0, 320, .inl fr)), (ad 6, .inl (cy 0, 320, .inl tt)), (ad 7, .inl (cy 0, 320, .inl st)), (ad 8, .inl (cy 0, 320, .inl nu))] H := by rw [eH]; exact hP
  change W pp l ee { frames := 3, cells := 0, slots := 0, locals := 85 } ss mm _ below meth cc0 H locs 0 0 Q (F0 mm 0 ls [])
  have h40 := hall.1
  have hq1 := hq.2.2.2 k hk9
  have hqn := hq.1
  obtain ⟨kk, hk, hk1, hk8, hok⟩ := hall.2.2 s hs9
  obtain ⟨d, hd⟩ : ∃ d : Nat, d = ((qf k).toInt - 1500).toNat := ⟨_, rfl⟩
  refine lv_aload_n hx hb dX7_addPaper_0 rfl (lv_at hl 0 rfl) ?_
  refine va_get (D := (dC, dI)) (ci := 7) (v := .ref (ad 14)) (C := RX7) (T := TX7) (N := 6) hx hb hts hiX7 hown hK hP 0 rfl rfl 2 (by decide) hL0 (fun _ h9 => h9) rfl dX7_addPaper_1 ?_
  refine va_get (D := (dC, dI)) (ci := 2) (v := .ref (ad 19)) (C := RX2) (T := TX2) (N := 8) hx hb hts hiX2 hown hK hP 3 rfl rfl 4 (by decide) hL1 (fun _ h9 => h9) rfl dX7_addPaper_4 ?_
  refine lv_iload_n hx hb dX7_addPaper_7 rfl (lv_at hl 1 rfl) ?_
  refine bw_iald hx hb hK hP 8 0 rfl rfl (j := k) (nI_toInt (by omega)) (by omega) dX7_addPaper_8 ?_
  refine lv_istore_n (lv' := [(3, .int (qf k)), (0, .ref (ad 22)), (1, .int (nI k)), (2, .int (nI s))]) hx hb dX7_addPaper_9 rfl hl (by decide) rfl (fun ls hl => ?_)
  refine lv_aload_n hx hb dX7_addPaper_10 rfl (lv_at hl 1 rfl) ?_
  refine va_get (D := (dC, dI)) (ci := 7) (v := .ref (ad 14)) (C := RX7) (T := TX7) (N := 6) hx hb hts hiX7 hown hK hP 0 rfl rfl 2 (by decide) hL0 (fun _ h9 => h9) rfl dX7_addPaper_11 ?_
  refine va_get (D := (dC, dI)) (ci := 2) (v := .ref (ad 20)) (C := RX2) (T := TX2) (N := 8) hx hb hts hiX2 hown hK hP 3 rfl rfl 5 (by decide) hL2 (fun _ h9 => h9) rfl dX7_addPaper_14 ?_
  refine lv_iload_n hx hb dX7_addPaper_17 rfl (lv_at hl 2 rfl) ?_
  refine bw_iald hx hb hK hP 9 0 rfl rfl (j := k) (nI_toInt (by omega)) (by omega) dX7_addPaper_18 ?_
  refine lv_istore (lv' := [(4, .int (ql k)), (3, .int (qf k)), (0, .ref (ad 22)), (1, .int (nI k)), (2, .int (nI s))]) hx hb dX7_addPaper_19 hl (by decide) rfl (fun ls hl => ?_)
  refine lv_aload_n hx hb dX7_addPaper_21 rfl (lv_at hl 2 rfl) ?_
  refine va_get (D := (dC, dI)) (ci := 7) (v := .ref (ad 3)) (C := RX7) (T := TX7) (N := 6) hx hb hts hiX7 hown hK hP 0 rfl rfl 0 (by decide) hL3 (fun _ h9 => h9) rfl dX7_addPaper_22 ?_
  refine lv_iload_n hx hb dX7_addPaper_25 rfl (lv_at hl 4 rfl) ?_
  refine lv_aload_n hx hb dX7_addPaper_26 rfl (lv_at hl 2 rfl) ?_
  refine va_get (D := (dC, dI)) (ci := 7) (v := .ref (ad 14)) (C := RX7) (T := TX7) (N := 6) hx hb hts hiX7 hown hK hP 0 rfl rfl 2 (by decide) hL0 (fun _ h9 => h9) rfl dX7_addPaper_27 ?_
  refine va_get (D := (dC, dI)) (ci := 2) (v := .ref (ad 17)) (C := RX2) (T := TX2) (N := 8) hx hb hts hiX2 hown hK hP 3 rfl rfl 2 (by decide) hL4 (fun _ h9 => h9) rfl dX7_addPaper_30 ?_
  refine lv_iload_n hx hb dX7_addPaper_33 rfl (lv_at hl 3 rfl) ?_
  refine bw_iald hx hb hK hP 6 0 rfl rfl (j := k) (nI_toInt (by omega)) (by omega) dX7_addPaper_34 ?_
  refine lv_aload_n hx hb dX7_addPaper_35 rfl (lv_at hl 2 rfl) ?_
  refine va_get (D := (dC, dI)) (ci := 7) (v := .ref (ad 14)) (C := RX7) (T := TX7) (N := 6) hx hb hts hiX7 hown hK hP 0 rfl rfl 2 (by decide) hL0 (fun _ h9 => h9) rfl dX7_addPaper_36 ?_
  refine va_get (D := (dC, dI)) (ci := 2) (v := .ref (ad 18)) (C := RX2) (T := TX2) (N := 8) hx hb hts hiX2 hown hK hP 3 rfl rfl 3 (by decide) hL5 (fun _ h9 => h9) rfl dX7_addPaper_39 ?_
  refine lv_iload_n hx hb dX7_addPaper_42 rfl (lv_at hl 3 rfl) ?_
  refine bw_iald hx hb hK hP 7 0 rfl rfl (j := k) (nI_toInt (by omega)) (by omega) dX7_addPaper_43 ?_
  refine lv_iload_n hx hb dX7_addPaper_44 rfl (lv_at hl 1 rfl) ?_
  refine lv_iload hx hb dX7_addPaper_45 (lv_at hl 0 rfl) ?_
  have hPc : va_P (dC, dI) vwCl [(ad 3, .inr (6, [.ref (ad 4), .ref (ad 5), .ref (ad 6), .ref (ad 7), .ref (ad 8), .int (nI sn)])), (ad 4, .inl (cy 0, 40, .inl nb)), (ad 5, .inl (cy 0, 320, .inl fr)), (ad 6, .inl (cy 0, 320, .inl tt)), (ad 7, .inl (cy 0, 320, .inl st)), (ad 8, .inl (cy 0, 320, .inl nu))] H := hP.sub [11, 12, 13, 14, 15, 16] rfl
  refine vp_callSl (va_Run.run (va_runV (As := [.int (nI s), .int (qt k), .int (qm k), .int (qf k), .int (ql k)]) (rest := []) ⟨hx, hb, hml, hown, hts⟩ (c_X6_yearsMaybe l dC dI cy ad sn nb fr tt st nu s kk (qt k) (qm k) (qf k) (ql k) (by first | assumption | omega) (by first | assumption | omega) (by first | assumption | omega) (by first | assumption | omega) (by first | assumption | omega) (by first | assumption | omega) (by first | assumption | omega)) (cwV 5 hts gX7_addPaper_X6_yearsMaybe rfl rfl rfl (by decide +kernel) ⟨Nat.le_of_ble_eq_true rfl, Nat.le_of_ble_eq_true rfl⟩) ⟨fun a U g mk q => by obtain ⟨q0, qP, qK⟩ := q; exact ⟨q0, qP, va_K.moved (u := U) (U := U.calling g mk a) (Vm.Alike.refl U.vm) qK⟩, va_recv hK hPc (ci := 6) (q0 := 0) rfl rfl, fun U hU hW => ⟨rfl, by rw [hU]; exact hPc, va_K.moved hW.alike hK⟩⟩ rfl rfl hl.1 rfl (lv_room (Nat.le_of_ble_eq_true rfl)) dX7_addPaper_47 ⟨Nat.le_of_ble_eq_true rfl, Nat.le_of_ble_eq_true rfl⟩)) (fun rp_ hrp_ => ?_)
  refine lv_lstore (lv' := [(5, .long rp_), (4, .int (ql k)), (3, .int (qf k)), (0, .ref (ad 22)), (1, .int (nI k)), (2, .int (nI s))]) hx hb dX7_addPaper_50 hl (by decide) rfl (fun ls hl => ?_)
  refine lv_aload_n hx hb dX7_addPaper_52 rfl (lv_at hl 3 rfl) ?_
  refine va_get (D := (dC, dI)) (ci := 7) (v := .ref (ad 3)) (C := RX7) (T := TX7) (N := 6) hx hb hts hiX7 hown hK hP 0 rfl rfl 0 (by decide) hL3 (fun _ h9 => h9) rfl dX7_addPaper_53 ?_
  refine lv_iload_n hx hb dX7_addPaper_56 rfl (lv_at hl 5 rfl) ?_
  refine lv_aload_n hx hb dX7_addPaper_57 rfl (lv_at hl 3 rfl) ?_
  refine va_get (D := (dC, dI)) (ci := 7) (v := .ref (ad 14)) (C := RX7) (T := TX7) (N := 6) hx hb hts hiX7 hown hK hP 0 rfl rfl 2 (by decide) hL0 (fun _ h9 => h9) rfl dX7_addPaper_58 ?_
  refine va_get (D := (dC, dI)) (ci := 2) (v := .ref (ad 17)) (C := RX2) (T := TX2) (N := 8) hx hb hts hiX2 hown hK hP 3 rfl rfl 2 (by decide) hL4 (fun _ h9 => h9) rfl dX7_addPaper_61 ?_
  refine lv_iload_n hx hb dX7_addPaper_64 rfl (lv_at hl 4 rfl) ?_
  refine bw_iald hx hb hK hP 6 0 rfl rfl (j := k) (nI_toInt (by omega)) (by omega) dX7_addPaper_65 ?_
  refine lv_aload_n hx hb dX7_addPaper_66 rfl (lv_at hl 3 rfl) ?_
  refine va_get (D := (dC, dI)) (ci := 7) (v := .ref (ad 14)) (C := RX7) (T := TX7) (N := 6) hx hb hts hiX7 hown hK hP 0 rfl rfl 2 (by decide) hL0 (fun _ h9 => h9) rfl dX7_addPaper_67 ?_
  refine va_get (D := (dC, dI)) (ci := 2) (v := .ref (ad 18)) (C := RX2) (T := TX2) (N := 8) hx hb hts hiX2 hown hK hP 3 rfl rfl 3 (by decide) hL5 (fun _ h9 => h9) rfl dX7_addPaper_70 ?_
  refine lv_iload_n hx hb dX7_addPaper_73 rfl (lv_at hl 4 rfl) ?_
  refine bw_iald hx hb hK hP 7 0 rfl rfl (j := k) (nI_toInt (by omega)) (by omega) dX7_addPaper_74 ?_
  refine lv_iload_n hx hb dX7_addPaper_75 rfl (lv_at hl 2 rfl) ?_
  refine lv_iload hx hb dX7_addPaper_76 (lv_at hl 1 rfl) ?_
  have hPc : va_P (dC, dI) vwCl [(ad 3, .inr (6, [.ref (ad 4), .ref (ad 5), .ref (ad 6), .ref (ad 7), .ref (ad 8), .int (nI sn)])), (ad 4, .inl (cy 0, 40, .inl nb)), (ad 5, .inl (cy 0, 320, .inl fr)), (ad 6, .inl (cy 0, 320, .inl tt)), (ad 7, .inl (cy 0, 320, .inl st)), (ad 8, .inl (cy 0, 320, .inl nu))] H := hP.sub [11, 12, 13, 14, 15, 16] rfl
  refine vp_callSl (va_Run.run (va_runV (As := [.int (nI s), .int (qt k), .int (qm k), .int (qf k), .int (ql k)]) (rest := []) ⟨hx, hb, hml, hown, hts⟩ (c_X6_yearsSurely l dC dI cy ad sn nb fr tt st nu s kk (qt k) (qm k) (qf k) (ql k) (by first | assumption | omega) (by first | assumption | omega) (by first | assumption | omega) (by first | assumption | omega) (by first | assumption | omega) (by first | assumption | omega) (by first | assumption | omega) (by first | assumption | omega) (by first | assumption | omega)) (cwV 5 hts gX7_addPaper_X6_yearsSurely rfl rfl rfl (by decide +kernel) ⟨Nat.le_of_ble_eq_true rfl, Nat.le_of_ble_eq_true rfl⟩) ⟨fun a U g mk q => by obtain ⟨q0, qP, qK⟩ := q; exact ⟨q0, qP, va_K.moved (u := U) (U := U.calling g mk a) (Vm.Alike.refl U.vm) qK⟩, va_recv hK hPc (ci := 6) (q0 := 0) rfl rfl, fun U hU hW => ⟨rfl, by rw [hU]; exact hPc, va_K.moved hW.alike hK⟩⟩ rfl rfl hl.1 rfl (lv_room (Nat.le_of_ble_eq_true rfl)) dX7_addPaper_78 ⟨Nat.le_of_ble_eq_true rfl, Nat.le_of_ble_eq_true rfl⟩)) (fun rs_ hrs_ => ?_)
  refine lv_lstore (lv' := [(7, .long rs_), (5, .long rp_), (4, .int (ql k)), (3, .int (qf k)), (0, .ref (ad 22)), (1, .int (nI k)), (2, .int (nI s))]) hx hb dX7_addPaper_81 hl (by decide) rfl (fun ls hl => ?_)
  refine lv_aload_n hx hb dX7_addPaper_83 rfl (lv_at hl 4 rfl) ?_
  refine va_get (D := (dC, dI)) (ci := 7) (v := .ref (ad 24)) (C := RX7) (T := TX7) (N := 6) hx hb hts hiX7 hown hK hP 0 rfl rfl 4 (by decide) hL6 (fun _ h9 => h9) rfl dX7_addPaper_84 ?_
  refine lv_lload hx hb dX7_addPaper_87 (lv_at hl 1 rfl) ?_
  refine lv_iload_n hx hb dX7_addPaper_89 rfl (lv_at hl 3 rfl) ?_
  have hPc : va_P (dC, dI) vwCl [(ad 24, .inl (cy 1, 10, .inr (.inl my)))] H := hP.sub [2] rfl
  have hDc : va_D A [(ad 24, .inl (cy 1, 10, .inr (.inl my)))] := hD.sub [2] (by decide) rfl
  have hFc := va_free (wc := [(ad 24, .inl (cy 1, 10, .inr (.inl my)))]) hD hS hA [2] rfl
  refine va_callv (va_runS (As := [.ref (ad 24), .long rp_, .int (qf k)]) (rest := []) ⟨hx, hb, hml, hown, hts⟩ (c_X7_addYears l dC dI cy (ad 24) my rp_ (qf k) d H.size (by first | assumption | omega) (by first | assumption | omega)) (va_cwS 3 hts gX7_addPaper_X7_addYears rfl rfl rfl (by decide +kernel) ⟨Nat.le_of_ble_eq_true rfl, Nat.le_of_ble_eq_true rfl⟩) ⟨fun a U g mk q => by obtain ⟨q0, q1, qP, qK, qD⟩ := q; exact ⟨q0, q1, qP, va_K.moved (u := U) (U := U.calling g mk a) (Vm.Alike.refl U.vm) qK, qD⟩, fun U hU hW => ⟨rfl, by rw [hU], by rw [hU]; exact hPc, va_K.moved hW.alike hK, hDc.weaken (fun _ _ _ _ => trivial)⟩⟩ rfl rfl hl.1 rfl (lv_room (Nat.le_of_ble_eq_true rfl)) dX7_addPaper_90 ⟨Nat.le_of_ble_eq_true rfl, Nat.le_of_ble_eq_true rfl⟩) hS (fun q _ h => hFc q h) hFc (fun u t9 H1 locs ht hvm hw hB hz1 hk1 hS => ?_)
  obtain ⟨f2_1, rfl⟩ : ∃ z, z = u := ⟨_, rfl⟩
  have hay1 := hw
  try dsimp only at hay1
  obtain ⟨hP1, hK1, hD1⟩ := hB
  rw [ht] at hP1
  obtain ⟨hP, hD⟩ := va_join (wr := [(ad 22, .inr (7, [.ref (ad 3), .ref (ad 9), .ref (ad 14), .ref (ad 23), .ref (ad 24), .int sb])), (ad 23, .inl (cy 1, 10, .inr (.inl su))), (ad 14, .inr (2, [.ref (ad 15), .ref (ad 16), .ref (ad 17), .ref (ad 18), .ref (ad 19), .ref (ad 20), .ref (ad 21), .int (nI qn)])), (ad 15, .inl (cy 0, 100, .inl qp)), (ad 16, .inl (cy 0, 100, .inl qs)), (ad 17, .inl (cy 0, 100, .inl qt)), (ad 18, .inl (cy 0, 100, .inl qm)), (ad 19, .inl (cy 0, 100, .inl qf)), (ad 20, .inl (cy 0, 100, .inl ql)), (ad 21, .inl (cy 2, 100, .inl qx)), (ad 3, .inr (6, [.ref (ad 4), .ref (ad 5), .ref (ad 6), .ref (ad 7), .ref (ad 8), .int (nI sn)])), (ad 4, .inl (cy 0, 40, .inl nb)), (ad 5, .inl (cy 0, 320, .inl fr)), (ad 6, .inl (cy 0, 320, .inl tt)), (ad 7, .inl (cy 0, 320, .inl st)), (ad 8, .inl (cy 0, 320, .inl nu))]) (w1 := [(ad 24, .inl (cy 1, 10, .inr (.inl f2_1)))]) hP hD [2] [0, 1, 3, 4, 5, 6, 7, 8, 9, 10, 11, 12, 13, 14, 15, 16] rfl rfl (by decide) (by decide) hk1 hFc hP1 hD1
  generalize H1 = H at hP hS ⊢
  have hP : va_P (dC, dI) vwCl [(ad 22, .inr (7, [.ref (ad 3), .ref (ad 9), .ref (ad 14), .ref (ad 23), .ref (ad 24), .int sb])), (ad 23, .inl (cy 1, 10, .inr (.inl su))), (ad 24, .inl (cy 1, 10, .inr (.inl f2_1))), (ad 14, .inr (2, [.ref (ad 15), .ref (ad 16), .ref (ad 17), .ref (ad 18), .ref (ad 19), .ref (ad 20), .ref (ad 21), .int (nI qn)])), (ad 15, .inl (cy 0, 100, .inl qp)), (ad 16, .inl (cy 0, 100, .inl qs)), (ad 17, .inl (cy 0, 100, .inl qt)), (ad 18, .inl (cy 0, 100, .inl qm)), (ad 19, .inl (cy 0, 100, .inl qf)), (ad 20, .inl (cy 0, 100, .inl ql)), (ad 21, .inl (cy 2, 100, .inl qx)), (ad 3, .inr (6, [.ref (ad 4), .ref (ad 5), .ref (ad 6), .ref (ad 7), .ref (ad 8), .int (nI sn)])), (ad 4, .inl (cy 0, 40, .inl nb)), (ad 5, .inl (cy 0, 320, .inl fr)), (ad 6, .inl (cy 0, 320, .inl tt)), (ad 7, .inl (cy 0, 320, .inl st)), (ad 8, .inl (cy 0, 320, .inl nu))] H := hP.sub [0, 1, 16, 2, 3, 4, 5, 6, 7, 8, 9, 10, 11, 12, 13, 14, 15] rfl
  have hD : va_D A [(ad 22, .inr (7, [.ref (ad 3), .ref (ad 9), .ref (ad 14), .ref (ad 23), .ref (ad 24), .int sb])), (ad 23, .inl (cy 1, 10, .inr (.inl su))), (ad 24, .inl (cy 1, 10, .inr (.inl f2_1))), (ad 14, .inr (2, [.ref (ad 15), .ref (ad 16), .ref (ad 17), .ref (ad 18), .ref (ad 19), .ref (ad 20), .ref (ad 21), .int (nI qn)])), (ad 15, .inl (cy 0, 100, .inl qp)), (ad 16, .inl (cy 0, 100, .inl qs)), (ad 17, .inl (cy 0, 100, .inl qt)), (ad 18, .inl (cy 0, 100, .inl qm)), (ad 19, .inl (cy 0, 100, .inl qf)), (ad 20, .inl (cy 0, 100, .inl ql)), (ad 21, .inl (cy 2, 100, .inl qx)), (ad 3, .inr (6, [.ref (ad 4), .ref (ad 5), .ref (ad 6), .ref (ad 7), .ref (ad 8), .int (nI sn)])), (ad 4, .inl (cy 0, 40, .inl nb)), (ad 5, .inl (cy 0, 320, .inl fr)), (ad 6, .inl (cy 0, 320, .inl tt)), (ad 7, .inl (cy 0, 320, .inl st)), (ad 8, .inl (cy 0, 320, .inl nu))] := hD.sub [0, 1, 16, 2, 3, 4, 5, 6, 7, 8, 9, 10, 11, 12, 13, 14, 15] (by decide) rfl
  refine lv_aload_n hx hb dX7_addPaper_93 rfl (lv_at hl 4 rfl) ?_
  refine va_get (D := (dC, dI)) (ci := 7) (v := .ref (ad 23)) (C := RX7) (T := TX7) (N := 6) hx hb hts hiX7 hown hK hP 0 rfl rfl 3 (by decide) hL7 (fun _ h9 => h9) rfl dX7_addPaper_94 ?_
  refine lv_lload hx hb dX7_addPaper_97 (lv_at hl 0 rfl) ?_
  refine lv_iload_n hx hb dX7_addPaper_99 rfl (lv_at hl 3 rfl) ?_
  have hPc : va_P (dC, dI) vwCl [(ad 23, .inl (cy 1, 10, .inr (.inl su)))] H := hP.sub [1] rfl
  have hDc : va_D A [(ad 23, .inl (cy 1, 10, .inr (.inl su)))] := hD.sub [1] (by decide) rfl
  have hFc := va_free (wc := [(ad 23, .inl (cy 1, 10, .inr (.inl su)))]) hD hS hA [1] rfl
  refine va_callv (va_runS (As := [.ref (ad 23), .long rs_, .int (qf k)]) (rest := []) ⟨hx, hb, hml, hown, hts⟩ (c_X7_addYears l dC dI cy (ad 23) su rs_ (qf k) d H.size (by first | assumption | omega) (by first | assumption | omega)) (va_cwS 3 hts gX7_addPaper_X7_addYears rfl rfl rfl (by decide +kernel) ⟨Nat.le_of_ble_eq_true rfl, Nat.le_of_ble_eq_true rfl⟩) ⟨fun a U g mk q => by obtain ⟨q0, q1, qP, qK, qD⟩ := q; exact ⟨q0, q1, qP, va_K.moved (u := U) (U := U.calling g mk a) (Vm.Alike.refl U.vm) qK, qD⟩, fun U hU hW => ⟨rfl, by rw [hU], by rw [hU]; exact hPc, va_K.moved hW.alike hK, hDc.weaken (fun _ _ _ _ => trivial)⟩⟩ rfl rfl hl.1 rfl (lv_room (Nat.le_of_ble_eq_true rfl)) dX7_addPaper_100 ⟨Nat.le_of_ble_eq_true rfl, Nat.le_of_ble_eq_true rfl⟩) hS (fun q _ h => hFc q h) hFc (fun u t9 H1 locs ht hvm hw hB hz1 hk1 hS => ?_)
  obtain ⟨f2_2, rfl⟩ : ∃ z, z = u := ⟨_, rfl⟩
  have hay2 := hw
  try dsimp only at hay2
  obtain ⟨hP1, hK1, hD1⟩ := hB
  rw [ht] at hP1
  obtain ⟨hP, hD⟩ := va_join (wr := [(ad 22, .inr (7, [.ref (ad 3), .ref (ad 9), .ref (ad 14), .ref (ad 23), .ref (ad 24), .int sb])), (ad 24, .inl (cy 1, 10, .inr (.inl f2_1))), (ad 14, .inr (2, [.ref (ad 15), .ref (ad 16), .ref (ad 17), .ref (ad 18), .ref (ad 19), .ref (ad 20), .ref (ad 21), .int (nI qn)])), (ad 15, .inl (cy 0, 100, .inl qp)), (ad 16, .inl (cy 0, 100, .inl qs)), (ad 17, .inl (cy 0, 100, .inl qt)), (ad 18, .inl (cy 0, 100, .inl qm)), (ad 19, .inl (cy 0, 100, .inl qf)), (ad 20, .inl (cy 0, 100, .inl ql)), (ad 21, .inl (cy 2, 100, .inl qx)), (ad 3, .inr (6, [.ref (ad 4), .ref (ad 5), .ref (ad 6), .ref (ad 7), .ref (ad 8), .int (nI sn)])), (ad 4, .inl (cy 0, 40, .inl nb)), (ad 5, .inl (cy 0, 320, .inl fr)), (ad 6, .inl (cy 0, 320, .inl tt)), (ad 7, .inl (cy 0, 320, .inl st)), (ad 8, .inl (cy 0, 320, .inl nu))]) (w1 := [(ad 23, .inl (cy 1, 10, .inr (.inl f2_2)))]) hP hD [1] [0, 2, 3, 4, 5, 6, 7, 8, 9, 10, 11, 12, 13, 14, 15, 16] rfl rfl (by decide) (by decide) hk1 hFc hP1 hD1
  generalize H1 = H at hP hS ⊢
  have hP : va_P (dC, dI) vwCl [(ad 22, .inr (7, [.ref (ad 3), .ref (ad 9), .ref (ad 14), .ref (ad 23), .ref (ad 24), .int sb])), (ad 23, .inl (cy 1, 10, .inr (.inl f2_2))), (ad 24, .inl (cy 1, 10, .inr (.inl f2_1))), (ad 14, .inr (2, [.ref (ad 15), .ref (ad 16), .ref (ad 17), .ref (ad 18), .ref (ad 19), .ref (ad 20), .ref (ad 21), .int (nI qn)])), (ad 15, .inl (cy 0, 100, .inl qp)), (ad 16, .inl (cy 0, 100, .inl qs)), (ad 17, .inl (cy 0, 100, .inl qt)), (ad 18, .inl (cy 0, 100, .inl qm)), (ad 19, .inl (cy 0, 100, .inl qf)), (ad 20, .inl (cy 0, 100, .inl ql)), (ad 21, .inl (cy 2, 100, .inl qx)), (ad 3, .inr (6, [.ref (ad 4), .ref (ad 5), .ref (ad 6), .ref (ad 7), .ref (ad 8), .int (nI sn)])), (ad 4, .inl (cy 0, 40, .inl nb)), (ad 5, .inl (cy 0, 320, .inl fr)), (ad 6, .inl (cy 0, 320, .inl tt)), (ad 7, .inl (cy 0, 320, .inl st)), (ad 8, .inl (cy 0, 320, .inl nu))] H := hP.sub [0, 16, 1, 2, 3, 4, 5, 6, 7, 8, 9, 10, 11, 12, 13, 14, 15] rfl
  have hD : va_D A [(ad 22, .inr (7, [.ref (ad 3), .ref (ad 9), .ref (ad 14), .ref (ad 23), .ref (ad 24), .int sb])), (ad 23, .inl (cy 1, 10, .inr (.inl f2_2))), (ad 24, .inl (cy 1, 10, .inr (.inl f2_1))), (ad 14, .inr (2, [.ref (ad 15), .ref (ad 16), .ref (ad 17), .ref (ad 18), .ref (ad 19), .ref (ad 20), .ref (ad 21), .int (nI qn)])), (ad 15, .inl (cy 0, 100, .inl qp)), (ad 16, .inl (cy 0, 100, .inl qs)), (ad 17, .inl (cy 0, 100, .inl qt)), (ad 18, .inl (cy 0, 100, .inl qm)), (ad 19, .inl (cy 0, 100, .inl qf)), (ad 20, .inl (cy 0, 100, .inl ql)), (ad 21, .inl (cy 2, 100, .inl qx)), (ad 3, .inr (6, [.ref (ad 4), .ref (ad 5), .ref (ad 6), .ref (ad 7), .ref (ad 8), .int (nI sn)])), (ad 4, .inl (cy 0, 40, .inl nb)), (ad 5, .inl (cy 0, 320, .inl fr)), (ad 6, .inl (cy 0, 320, .inl tt)), (ad 7, .inl (cy 0, 320, .inl st)), (ad 8, .inl (cy 0, 320, .inl nu))] := hD.sub [0, 16, 1, 2, 3, 4, 5, 6, 7, 8, 9, 10, 11, 12, 13, 14, 15] (by decide) rfl
  refine lv_lload hx hb dX7_addPaper_103 (lv_at hl 0 rfl) ?_
  refine lv_lconst (v := 0) hx hb dX7_addPaper_105 (by decide) ?_
  refine bw_lcmpE hx hb dX7_addPaper_106 (fun zq tzq => ?_)
  refine bw_if_eq (tgt := 130) (a := zq.toInt) hx hb dX7_addPaper_107 (by decide) rfl (fun c_z => ?_) (fun c_z => ?_)
  · skip
    subst hQ
    have hP9 : va_P (dC, dI) vwCl [(ad 22, .inr (7, [.ref (ad 3), .ref (ad 9), .ref (ad 14), .ref (ad 23), .ref (ad 24), .int sb])), (ad 23, .inl (cy 1, 10, .inr (.inl f2_2))), (ad 24, .inl (cy 1, 10, .inr (.inl f2_1))), (ad 14, .inr (2, [.ref (ad 15), .ref (ad 16), .ref (ad 17), .ref (ad 18), .ref (ad 19), .ref (ad 20), .ref (ad 21), .int (nI qn)])), (ad 15, .inl (cy 0, 100, .inl qp)), (ad 16, .inl (cy 0, 100, .inl qs)), (ad 17, .inl (cy 0, 100, .inl qt)), (ad 18, .inl (cy 0, 100, .inl qm)), (ad 19, .inl (cy 0, 100, .inl qf)), (ad 20, .inl (cy 0, 100, .inl ql)), (ad 21, .inl (cy 2, 100, .inl qx)), (ad 3, .inr (6, [.ref (ad 4), .ref (ad 5), .ref (ad 6), .ref (ad 7), .ref (ad 8), .int (nI sn)])), (ad 4, .inl (cy 0, 40, .inl nb)), (ad 5, .inl (cy 0, 320, .inl fr)), (ad 6, .inl (cy 0, 320, .inl tt)), (ad 7, .inl (cy 0, 320, .inl st)), (ad 8, .inl (cy 0, 320, .inl nu))] H := hP.sub [0, 1, 2, 3, 4, 5, 6, 7, 8, 9, 10, 11, 12, 13, 14, 15, 16] rfl
    have hD9 : va_D A [(ad 22, .inr (7, [.ref (ad 3), .ref (ad 9), .ref (ad 14), .ref (ad 23), .ref (ad 24), .int sb])), (ad 23, .inl (cy 1, 10, .inr (.inl f2_2))), (ad 24, .inl (cy 1, 10, .inr (.inl f2_1))), (ad 14, .inr (2, [.ref (ad 15), .ref (ad 16), .ref (ad 17), .ref (ad 18), .ref (ad 19), .ref (ad 20), .ref (ad 21), .int (nI qn)])), (ad 15, .inl (cy 0, 100, .inl qp)), (ad 16, .inl (cy 0, 100, .inl qs)), (ad 17, .inl (cy 0, 100, .inl qt)), (ad 18, .inl (cy 0, 100, .inl qm)), (ad 19, .inl (cy 0, 100, .inl qf)), (ad 20, .inl (cy 0, 100, .inl ql)), (ad 21, .inl (cy 2, 100, .inl qx)), (ad 3, .inr (6, [.ref (ad 4), .ref (ad 5), .ref (ad 6), .ref (ad 7), .ref (ad 8), .int (nI sn)])), (ad 4, .inl (cy 0, 40, .inl nb)), (ad 5, .inl (cy 0, 320, .inl fr)), (ad 6, .inl (cy 0, 320, .inl tt)), (ad 7, .inl (cy 0, 320, .inl st)), (ad 8, .inl (cy 0, 320, .inl nu))] := hD.sub [0, 1, 2, 3, 4, 5, 6, 7, 8, 9, 10, 11, 12, 13, 14, 15, 16] (by decide) rfl
    have hpost : (∀ i9, i9 < 640 → rb f2_2 i9 = (rb su i9 || pB ((qf k).toInt ≤ 1500 + ((i9 : Nat) : Int) ∧ 1500 + ((i9 : Nat) : Int) ≤ (ql k).toInt ∧ sOnly nb fr tt st nu sn s (qt k) (qm k) (1500 + ((i9 : Nat) : Int))))) ∧ (∀ i9, i9 < 640 → rb f2_1 i9 = (rb my i9 || pB ((qf k).toInt ≤ 1500 + ((i9 : Nat) : Int) ∧ 1500 + ((i9 : Nat) : Int) ≤ (ql k).toInt ∧ sPos nb fr tt st nu s (qt k) (qm k) (1500 + ((i9 : Nat) : Int))))) ∧ (∃ b9, b9 < 64 ∧ sb = nI b9 ∧ ∀ j9, j9 < 6 → b9.testBit j9 = (bn.testBit j9 || pB ((qs k).toInt = ((j9 : Nat) : Int) ∧ ∃ y9, (qf k).toInt ≤ y9 ∧ y9 ≤ (ql k).toInt ∧ sOnly nb fr tt st nu sn s (qt k) (qm k) y9))) := by
      have g1 : ∀ b : Nat, lb rs_ b = true ↔ (qf k).toInt + b ≤ (ql k).toInt ∧ sOnly nb fr tt st nu sn s (qt k) (qm k) ((qf k).toInt + b) := hrs_
      refine ⟨fun i9 h9 => ?_, fun i9 h9 => ?_, ?_⟩
      · rw [hay2 i9 h9, ay_year (f := (qf k).toInt) (l := (ql k).toInt) (P := fun z => sOnly nb fr tt st nu sn s (qt k) (qm k) z) (by omega) g1]
      · rw [hay1 i9 h9, ay_year (f := (qf k).toInt) (l := (ql k).toInt) (P := fun z => sPos nb fr tt st nu s (qt k) (qm k) z) (by omega) hrp_]
      · have q1 : ¬ ∃ y, (qf k).toInt ≤ y ∧ y ≤ (ql k).toInt ∧ sOnly nb fr tt st nu sn s (qt k) (qm k) y := fun z => (zero_years (by omega) (by omega) g1).mpr z (tzq.mp c_z)
        refine ⟨bn, hbn, hsb, fun j9 h9 => ?_⟩
        rw [pB_f (fun z => q1 z.2), Bool.or_false]
    exact W.vret hx hb hr (fun t9 ht hW => ⟨⟨(sb, f2_2, f2_1), rfl, hpost, by rw [ht]; exact hP9, va_K.moved hW.alike hK, hD9⟩, hS.F ht⟩) hS.2.2 dX7_addPaper_130
  · skip
    refine lv_aload_n hx hb dX7_addPaper_110 rfl (lv_at hl 4 rfl) ?_
    refine lv_dup hx hb dX7_addPaper_111 rfl ?_
    refine va_get (D := (dC, dI)) (ci := 7) (v := .int sb) (C := RX7) (T := TX7) (N := 6) hx hb hts hiX7 hown hK hP 0 rfl rfl 5 (by decide) hL8 (fun _ h9 => h9) rfl dX7_addPaper_112 ?_
    refine bw_re (show sb = nI bn from hsb) ?_
    refine lv_iconst (v := 1) hx hb dX7_addPaper_115 (by decide) ?_
    refine lv_aload_n hx hb dX7_addPaper_116 rfl (lv_at hl 4 rfl) ?_
    refine va_get (D := (dC, dI)) (ci := 7) (v := .ref (ad 14)) (C := RX7) (T := TX7) (N := 6) hx hb hts hiX7 hown hK hP 0 rfl rfl 2 (by decide) hL0 (fun _ h9 => h9) rfl dX7_addPaper_117 ?_
    refine va_get (D := (dC, dI)) (ci := 2) (v := .ref (ad 16)) (C := RX2) (T := TX2) (N := 8) hx hb hts hiX2 hown hK hP 3 rfl rfl 1 (by decide) hL9 (fun _ h9 => h9) rfl dX7_addPaper_120 ?_
    refine lv_iload_n hx hb dX7_addPaper_123 rfl (lv_at hl 5 rfl) ?_
    refine bw_iald hx hb hK hP 5 0 rfl rfl (j := k) (nI_toInt (by omega)) (by omega) dX7_addPaper_124 ?_
    refine lv_ishl hx hb dX7_addPaper_125 ?_
    refine bw_re (show (1 : Int32) <<< ((qs k) &&& 31) = nI (2 ^ (qs k).toInt.toNat) from (by rw [show qs k = nI (qs k).toInt.toNat from nI_back (by omega)]; rw [one_shl _ (by omega)]; rw [nI_toInt (by omega)]; rfl)) ?_
    refine lv_ior hx hb dX7_addPaper_126 ?_
    refine bw_re (show (nI bn) ||| (nI (2 ^ (qs k).toInt.toNat)) = nI (bn ||| 2 ^ (qs k).toInt.toNat) from (fa_or _ _)) ?_
    refine va_put (D := (dC, dI)) (ci := 7) (v := .int (nI (bn ||| 2 ^ (qs k).toInt.toNat))) (ty := (tyX7 5)) (C := RX7) (T := TX7) (N := 6) hx hb hts hiX7 tyX7 tyX7_ok nmX7 hown hK hP hD hS 0 rfl rfl 5 (by decide) hL8 (fun _ h9 => h9) rfl (by decide +kernel) rfl rfl (Nat.le_of_ble_eq_true rfl) dX7_addPaper_127 (fun H locs hP hD hS => ?_)
    have hP : va_P (dC, dI) vwCl [(ad 22, .inr (7, [.ref (ad 3), .ref (ad 9), .ref (ad 14), .ref (ad 23), .ref (ad 24), .int (nI (bn ||| 2 ^ (qs k).toInt.toNat))])), (ad 23, .inl (cy 1, 10, .inr (.inl f2_2))), (ad 24, .inl (cy 1, 10, .inr (.inl f2_1))), (ad 14, .inr (2, [.ref (ad 15), .ref (ad 16), .ref (ad 17), .ref (ad 18), .ref (ad 19), .ref (ad 20), .ref (ad 21), .int (nI qn)])), (ad 15, .inl (cy 0, 100, .inl qp)), (ad 16, .inl (cy 0, 100, .inl qs)), (ad 17, .inl (cy 0, 100, .inl qt)), (ad 18, .inl (cy 0, 100, .inl qm)), (ad 19, .inl (cy 0, 100, .inl qf)), (ad 20, .inl (cy 0, 100, .inl ql)), (ad 21, .inl (cy 2, 100, .inl qx)), (ad 3, .inr (6, [.ref (ad 4), .ref (ad 5), .ref (ad 6), .ref (ad 7), .ref (ad 8), .int (nI sn)])), (ad 4, .inl (cy 0, 40, .inl nb)), (ad 5, .inl (cy 0, 320, .inl fr)), (ad 6, .inl (cy 0, 320, .inl tt)), (ad 7, .inl (cy 0, 320, .inl st)), (ad 8, .inl (cy 0, 320, .inl nu))] H := hP
    have hD : va_D A [(ad 22, .inr (7, [.ref (ad 3), .ref (ad 9), .ref (ad 14), .ref (ad 23), .ref (ad 24), .int (nI (bn ||| 2 ^ (qs k).toInt.toNat))])), (ad 23, .inl (cy 1, 10, .inr (.inl f2_2))), (ad 24, .inl (cy 1, 10, .inr (.inl f2_1))), (ad 14, .inr (2, [.ref (ad 15), .ref (ad 16), .ref (ad 17), .ref (ad 18), .ref (ad 19), .ref (ad 20), .ref (ad 21), .int (nI qn)])), (ad 15, .inl (cy 0, 100, .inl qp)), (ad 16, .inl (cy 0, 100, .inl qs)), (ad 17, .inl (cy 0, 100, .inl qt)), (ad 18, .inl (cy 0, 100, .inl qm)), (ad 19, .inl (cy 0, 100, .inl qf)), (ad 20, .inl (cy 0, 100, .inl ql)), (ad 21, .inl (cy 2, 100, .inl qx)), (ad 3, .inr (6, [.ref (ad 4), .ref (ad 5), .ref (ad 6), .ref (ad 7), .ref (ad 8), .int (nI sn)])), (ad 4, .inl (cy 0, 40, .inl nb)), (ad 5, .inl (cy 0, 320, .inl fr)), (ad 6, .inl (cy 0, 320, .inl tt)), (ad 7, .inl (cy 0, 320, .inl st)), (ad 8, .inl (cy 0, 320, .inl nu))] := hD
    subst hQ
    have hP9 : va_P (dC, dI) vwCl [(ad 22, .inr (7, [.ref (ad 3), .ref (ad 9), .ref (ad 14), .ref (ad 23), .ref (ad 24), .int (nI (bn ||| 2 ^ (qs k).toInt.toNat))])), (ad 23, .inl (cy 1, 10, .inr (.inl f2_2))), (ad 24, .inl (cy 1, 10, .inr (.inl f2_1))), (ad 14, .inr (2, [.ref (ad 15), .ref (ad 16), .ref (ad 17), .ref (ad 18), .ref (ad 19), .ref (ad 20), .ref (ad 21), .int (nI qn)])), (ad 15, .inl (cy 0, 100, .inl qp)), (ad 16, .inl (cy 0, 100, .inl qs)), (ad 17, .inl (cy 0, 100, .inl qt)), (ad 18, .inl (cy 0, 100, .inl qm)), (ad 19, .inl (cy 0, 100, .inl qf)), (ad 20, .inl (cy 0, 100, .inl ql)), (ad 21, .inl (cy 2, 100, .inl qx)), (ad 3, .inr (6, [.ref (ad 4), .ref (ad 5), .ref (ad 6), .ref (ad 7), .ref (ad 8), .int (nI sn)])), (ad 4, .inl (cy 0, 40, .inl nb)), (ad 5, .inl (cy 0, 320, .inl fr)), (ad 6, .inl (cy 0, 320, .inl tt)), (ad 7, .inl (cy 0, 320, .inl st)), (ad 8, .inl (cy 0, 320, .inl nu))] H := hP.sub [0, 1, 2, 3, 4, 5, 6, 7, 8, 9, 10, 11, 12, 13, 14, 15, 16] rfl
    have hD9 : va_D A [(ad 22, .inr (7, [.ref (ad 3), .ref (ad 9), .ref (ad 14), .ref (ad 23), .ref (ad 24), .int (nI (bn ||| 2 ^ (qs k).toInt.toNat))])), (ad 23, .inl (cy 1, 10, .inr (.inl f2_2))), (ad 24, .inl (cy 1, 10, .inr (.inl f2_1))), (ad 14, .inr (2, [.ref (ad 15), .ref (ad 16), .ref (ad 17), .ref (ad 18), .ref (ad 19), .ref (ad 20), .ref (ad 21), .int (nI qn)])), (ad 15, .inl (cy 0, 100, .inl qp)), (ad 16, .inl (cy 0, 100, .inl qs)), (ad 17, .inl (cy 0, 100, .inl qt)), (ad 18, .inl (cy 0, 100, .inl qm)), (ad 19, .inl (cy 0, 100, .inl qf)), (ad 20, .inl (cy 0, 100, .inl ql)), (ad 21, .inl (cy 2, 100, .inl qx)), (ad 3, .inr (6, [.ref (ad 4), .ref (ad 5), .ref (ad 6), .ref (ad 7), .ref (ad 8), .int (nI sn)])), (ad 4, .inl (cy 0, 40, .inl nb)), (ad 5, .inl (cy 0, 320, .inl fr)), (ad 6, .inl (cy 0, 320, .inl tt)), (ad 7, .inl (cy 0, 320, .inl st)), (ad 8, .inl (cy 0, 320, .inl nu))] := hD.sub [0, 1, 2, 3, 4, 5, 6, 7, 8, 9, 10, 11, 12, 13, 14, 15, 16] (by decide) rfl
    have hpost : (∀ i9, i9 < 640 → rb f2_2 i9 = (rb su i9 || pB ((qf k).toInt ≤ 1500 + ((i9 : Nat) : Int) ∧ 1500 + ((i9 : Nat) : Int) ≤ (ql k).toInt ∧ sOnly nb fr tt st nu sn s (qt k) (qm k) (1500 + ((i9 : Nat) : Int))))) ∧ (∀ i9, i9 < 640 → rb f2_1 i9 = (rb my i9 || pB ((qf k).toInt ≤ 1500 + ((i9 : Nat) : Int) ∧ 1500 + ((i9 : Nat) : Int) ≤ (ql k).toInt ∧ sPos nb fr tt st nu s (qt k) (qm k) (1500 + ((i9 : Nat) : Int))))) ∧ (∃ b9, b9 < 64 ∧ (nI (bn ||| 2 ^ (qs k).toInt.toNat)) = nI b9 ∧ ∀ j9, j9 < 6 → b9.testBit j9 = (bn.testBit j9 || pB ((qs k).toInt = ((j9 : Nat) : Int) ∧ ∃ y9, (qf k).toInt ≤ y9 ∧ y9 ≤ (ql k).toInt ∧ sOnly nb fr tt st nu sn s (qt k) (qm k) y9))) := by
      have g1 : ∀ b : Nat, lb rs_ b = true ↔ (qf k).toInt + b ≤ (ql k).toInt ∧ sOnly nb fr tt st nu sn s (qt k) (qm k) ((qf k).toInt + b) := hrs_
      refine ⟨fun i9 h9 => ?_, fun i9 h9 => ?_, ?_⟩
      · rw [hay2 i9 h9, ay_year (f := (qf k).toInt) (l := (ql k).toInt) (P := fun z => sOnly nb fr tt st nu sn s (qt k) (qm k) z) (by omega) g1]
      · rw [hay1 i9 h9, ay_year (f := (qf k).toInt) (l := (ql k).toInt) (P := fun z => sPos nb fr tt st nu s (qt k) (qm k) z) (by omega) hrp_]
      · have q1 := (zero_years (by omega) (by omega) g1).mp (fun q => c_z (tzq.mpr q))
        refine ⟨bn ||| 2 ^ (qs k).toInt.toNat, or64 bn hbn _ (by omega), rfl, fun j9 h9 => ?_⟩
        rw [fb_bit_set]
        congr 1
        by_cases q2 : (qs k).toInt = ((j9 : Nat) : Int)
        · rw [pB_t ⟨q2, q1⟩]; exact decide_eq_true (by omega)
        · rw [pB_f (fun z => q2 z.1)]; exact decide_eq_false (by omega)
    exact W.vret hx hb hr (fun t9 ht hW => ⟨⟨(nI (bn ||| 2 ^ (qs k).toInt.toNat), f2_2, f2_1), rfl, hpost, by rw [ht]; exact hP9, va_K.moved hW.alike hK, hD9⟩, hS.F ht⟩) hS.2.2 dX7_addPaper_130

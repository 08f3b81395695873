theorem bw_Qe {p : Program} {l : Launch} {e : Env} {R : Room} {s : State} {m : MethodId} {args : Array Value} {below : List Frame} {meth : Method} {c : Code} {H : Heap} {locs : List Loc} {cells slots : Nat} {Q Q1 : State → Prop} {g : JFrame} (h : Q = Q1) (k : W p l e R s m args below meth c H locs cells slots Q1 g) : W p l e R s m args below meth c H locs cells slots Q g := by
  rw [h]; exact k
def sbIs (b : Int32) (p : Nat → Bool) : Prop := ∃ b9, b9 < 64 ∧ b = nI b9 ∧ ∀ j9, j9 < 6 → b9.testBit j9 = p j9
theorem pI_ne {P : Prop} : (pI P).toInt ≠ 0 ↔ P := by
  by_cases h : P
  · rw [pI_t h]; exact ⟨fun _ => h, fun _ => by decide⟩
  · rw [pI_f h]; exact ⟨fun q => absurd rfl q, fun q => absurd q h⟩
theorem pI_e0 {P : Prop} : (pI P).toInt = 0 ↔ ¬ P := by
  by_cases h : P
  · rw [pI_t h]; exact ⟨fun q => absurd q (by decide), fun q => absurd h q⟩
  · rw [pI_f h]; exact ⟨fun _ => h, fun _ => rfl⟩
theorem bits_st : ∀ m, m < 64 → m ≠ 0 → (m &&& (m - 1)) < m ∧ fb_ct (fun i => (m &&& (m - 1)).testBit i) 6 + 1 = fb_ct (fun i => m.testBit i) 6 := by decide +kernel
/-- the first, the last, so far -/
def fstTo (p : Nat → Bool) (n : Nat) (r : Int32) : Prop := (∃ i9, i9 < n ∧ p i9 = true ∧ (∀ j9, j9 < i9 → p j9 = false) ∧ r = nI (1500 + i9)) ∨ (r = -1 ∧ ∀ i9, i9 < n → p i9 = false)
def lstTo (p : Nat → Bool) (n : Nat) (r : Int32) : Prop := (∃ i9, i9 < n ∧ p i9 = true ∧ (∀ j9, i9 < j9 → j9 < n → p j9 = false) ∧ r = nI (1500 + i9)) ∨ (r = -1 ∧ ∀ i9, i9 < n → p i9 = false)
theorem fstTo_no {p : Nat → Bool} {n : Nat} {r : Int32} (h : fstTo p n r) (hp : p n = false) : fstTo p (n + 1) r := by
  rcases h with ⟨i, a1, a2, a3, a4⟩ | ⟨a1, a2⟩
  · exact Or.inl ⟨i, by omega, a2, a3, a4⟩
  · refine Or.inr ⟨a1, fun i hi => ?_⟩
    by_cases q : i = n
    · rw [q]; exact hp
    · exact a2 i (by omega)
theorem lstTo_no {p : Nat → Bool} {n : Nat} {r : Int32} (h : lstTo p n r) (hp : p n = false) : lstTo p (n + 1) r := by
  rcases h with ⟨i, a1, a2, a3, a4⟩ | ⟨a1, a2⟩
  · refine Or.inl ⟨i, by omega, a2, fun j h1 h2 => ?_, a4⟩
    by_cases q : j = n
    · rw [q]; exact hp
    · exact a3 j h1 (by omega)
  · refine Or.inr ⟨a1, fun i hi => ?_⟩
    by_cases q : i = n
    · rw [q]; exact hp
    · exact a2 i (by omega)
theorem lstTo_yes {p : Nat → Bool} {n : Nat} (hp : p n = true) : lstTo p (n + 1) (nI (1500 + n)) := Or.inl ⟨n, by omega, hp, fun j h1 h2 => by omega, rfl⟩
theorem fstTo_old {p : Nat → Bool} {n : Nat} {r : Int32} (h : fstTo p n r) (hr : r.toInt ≠ -1) : fstTo p (n + 1) r := by
  rcases h with ⟨i, a1, a2, a3, a4⟩ | ⟨a1, a2⟩
  · exact Or.inl ⟨i, by omega, a2, a3, a4⟩
  · rw [a1] at hr; exact absurd rfl hr
theorem fstTo_new {p : Nat → Bool} {n : Nat} {r : Int32} (hn : n ≤ 601) (h : fstTo p n r) (hr : r.toInt = -1) (hp : p n = true) : fstTo p (n + 1) (nI (1500 + n)) := by
  rcases h with ⟨i, a1, a2, a3, a4⟩ | ⟨a1, a2⟩
  · rw [a4, nI_toInt (by omega)] at hr; omega
  · exact Or.inl ⟨n, by omega, hp, a2, rfl⟩
def lvPost (LS LP SR : Nat → Bool) (zss zsy zpy zfs zls : Int32) (zsi : Nat → Int32) : Prop := zsy = nI (fb_ct LS 601) ∧ zpy = nI (fb_ct LP 601) ∧ fstIs LS zfs ∧ lstIs LS zls ∧ sbIs zss SR ∧ ∀ i9, i9 < 601 → zsi i9 = pI (LS i9 = true)
theorem fst_of {p : Nat → Bool} {r : Int32} (h : fstTo p 601 r) : fstIs p r := h
theorem lst_of {p : Nat → Bool} {r : Int32} (h : lstTo p 601 r) : lstIs p r := h
theorem lvPost_of {L : Int → Prop} {LP SR : Nat → Bool} {zss zfs zls : Int32} {zsi : Nat → Int32} {n1 n2 n : Nat} (e : n = 601) (h1 : n1 = fb_ct (lvB L) n) (h2 : n2 = fb_ct LP n) (h3 : fstTo (lvB L) n zfs) (h4 : lstTo (lvB L) n zls) (h5 : sbIs zss SR) (h6 : ∀ i9, i9 < 601 → zsi i9 = pI (L (1500 + ((i9 : Nat) : Int)))) : lvPost (lvB L) LP SR zss (nI n1) (nI n2) zfs zls zsi := by
  subst e
  exact ⟨congrArg nI h1, congrArg nI h2, fst_of h3, lst_of h4, h5, fun i9 h9 => (h6 i9 h9).trans (pI_cong pB_iff.symm)⟩
set_option maxHeartbeats 4000000 in
set_option maxRecDepth 100000 in
theorem c_X12_bits (l : Launch) (dC : Nat → ClassId) (dI : Nat → Nat → Nat) (cy : Nat → ClassId) (n0 : Nat) (hn0 : n0 < 64) : Met l yX12_bits wsX12_bits ({ frames := 0, cells := 0, slots := 0, locals := 0 }) (va_Pc [.int (nI n0)] (fun _ => True)) (vp_Si (fun r => r = nI (fb_ct (fun i9 => Nat.testBit n0 i9) 6))) 0 0 (fun _ => False) := by
  refine Met.ofW (cc := cX12_bits) (maxL := 3) (ret := (some .int)) (by decide) rfl ?_
  intro pp ee ss mm args below meth cc0 s₁ B hml hv
  obtain ⟨rfl, -⟩ := hv
  have hx := B.exec
  have hb := B.bytes
  have hr := B.returns
  have hts := atoms_spec (ws := wsX12_bits) B.pre
  have hown : ss.vm.findClass RX12 = some mm.cls := findClass_of_methodNamed B.named
  have hlocks := B.notSynchronized
  have hl := lv_entry ([.int (nI n0)]) (n := 3) (Nat.le_of_ble_eq_true rfl)
  rw [lg_entry_eq]
  generalize (lg_sl ([.int (nI n0)]) ++ List.replicate (3 - (lg_sl ([.int (nI n0)])).length) Slot.unset).toArray = ls at hl ⊢
  have hl : lv_has ls 3 [(0, .int (nI n0))] := hl
  refine bw_Q (fun Q hQ => ?_)
  change W pp l ee { frames := 0, cells := 0, slots := 0, locals := 0 } ss mm _ below meth cc0 ss.heap [] 0 0 Q (F0 mm 0 ls [])
  refine lv_iconst (v := 0) hx hb dX12_bits_0 (by decide) ?_
  refine lv_istore_n (lv' := [(1, .int 0), (0, .int (nI n0))]) hx hb dX12_bits_1 rfl hl (by decide) rfl (fun ls hl => ?_)
  refine lv_iload_n hx hb dX12_bits_2 rfl (lv_at hl 1 rfl) ?_
  refine lv_istore_n (lv' := [(2, .int (nI n0)), (1, .int 0), (0, .int (nI n0))]) hx hb dX12_bits_3 rfl hl (by decide) rfl (fun ls hl => ?_)
  have L_4 : ∀ (n9 : Nat), ∀ (m : Nat) (n : Nat), m < n9 → (m < 64) → (n + fb_ct (fun i9 => Nat.testBit m i9) 6 = fb_ct (fun i9 => Nat.testBit n0 i9) 6) → ∀ (ls : Array Slot), lv_has ls 3 [(0, .int (nI n0)), (1, .int (nI n)), (2, .int (nI m))] → W pp l ee { frames := 0, cells := 0, slots := 0, locals := 0 } ss mm (List.toArray [Value.int (nI n0)]) below meth cc0 ss.heap [] 0 0 Q (F0 mm 4 ls []) := by
    intro n9
    induction n9 with
    | zero => intro m n hm9; exact absurd hm9 (Nat.not_lt_zero _)
    | succ n9 ih4 =>
      intro m n hm4 hm hn
      intro ls hl
      refine lv_iload_n hx hb dX12_bits_4 rfl (lv_at hl 2 rfl) ?_
      refine bw_if_eq (tgt := 20) (a := ((m : Nat) : Int)) hx hb dX12_bits_5 (by decide) (nI_toInt (by omega)) (fun c_1 => ?_) (fun c_1 => ?_)
      · skip
        refine lv_iload_n hx hb dX12_bits_20 rfl (lv_at hl 1 rfl) ?_
        refine bw_Qe hQ ?_
        have hpost : (nI n) = nI (fb_ct (fun i9 => Nat.testBit n0 i9) 6) := by
          have e9 : m = 0 := by omega
          rw [e9] at hn
          have q : fb_ct (fun i9 => Nat.testBit 0 i9) 6 = 0 := by decide
          rw [q] at hn
          rw [← hn]; rfl
        exact W.iret (v := nI n) hx hb hr (fun t9 ht hW => ⟨_, rfl, hpost, by rw [ht]⟩) (fun q h => by cases h) dX12_bits_21
      · skip
        have hst := bits_st m hm (by omega)
        refine lv_iinc (v := nI (n + 1)) (lv' := [(1, .int (nI (n + 1))), (0, .int (nI n0)), (2, .int (nI m))]) hx hb dX12_bits_8 hl (k := 1) rfl (show nI n + Int32.ofInt 1 = nI (n + 1) from nI_add n 1) (by decide) rfl (fun ls hl => ?_)
        refine lv_iload_n hx hb dX12_bits_11 rfl (lv_at hl 2 rfl) ?_
        refine lv_iload_n hx hb dX12_bits_12 rfl (lv_at hl 2 rfl) ?_
        refine lv_iconst (v := 1) hx hb dX12_bits_13 (by decide) ?_
        refine lv_isub hx hb dX12_bits_14 ?_
        refine bw_re (show (nI m) - 1 = nI (m - 1) from pk_sub (a := m) (b := 1) (by omega)) ?_
        refine lv_iand hx hb dX12_bits_15 ?_
        refine bw_re (show (nI m) &&& (nI (m - 1)) = nI (m &&& (m - 1)) from (fa_and _ _)) ?_
        refine lv_istore_n (lv' := [(2, .int (nI (m &&& (m - 1)))), (1, .int (nI (n + 1))), (0, .int (nI n0))]) hx hb dX12_bits_16 rfl hl (by decide) rfl (fun ls hl => ?_)
        refine lv_goto (tgt := 4) hx hb dX12_bits_17 (by decide) ?_
        have hI_hm : (m &&& (m - 1)) < 64 := by
          have := bits_st m hm (by omega)
          omega
        have hI_hn : (n + 1) + fb_ct (fun i9 => Nat.testBit (m &&& (m - 1)) i9) 6 = fb_ct (fun i9 => Nat.testBit n0 i9) 6 := by
          have := (bits_st m hm (by omega)).2
          omega
        exact ih4 (m &&& (m - 1)) (n + 1) (by omega) hI_hm hI_hn ls (lv_sub hl [2, 1, 0] rfl)
  have hI_hm : n0 < 64 := by
    omega
  have hI_hn : 0 + fb_ct (fun i9 => Nat.testBit n0 i9) 6 = fb_ct (fun i9 => Nat.testBit n0 i9) 6 := by
    omega
  exact L_4 (n0 + 1) n0 0 (by omega) hI_hm hI_hn ls (lv_sub hl [2, 1, 0] rfl)

set_option maxHeartbeats 4000000 in
set_option maxRecDepth 100000 in
theorem c_X12_isOf (l : Launch) (dC : Nat → ClassId) (dI : Nat → Nat → Nat) (cy : Nat → ClassId) (am : Nat → Nat) (tn : Nat) (zsz : Nat) (zfr : Nat) (zbe : Nat) (zha : Int32) (zva : Int32) (fk : Int32) (fp : Int32) (sn : Nat) (pn : Nat) (qn : Nat) (zss : Int32) (zsy : Int32) (zpy : Int32) (zfs : Int32) (zls : Int32) (an : Nat) (zw : Nat) (mk : Nat → Int32) (qp : Nat → Int32) (qx : Nat → Int32) (k : Nat) (p : Nat) (hk : k < 100) (hp : p < 30) (hw : 0 ≤ (qp k).toInt ∧ (qp k).toInt < 30) : Met l yX12_isOf wsX12_isOf ({ frames := 0, cells := 0, slots := 0, locals := 0 }) (va_Pc [.ref (am 0), .int (nI k), .int (nI p)] (fun U => va_P (dC, dI) vwCl [(am 0, .inr (12, [.ref (am 1), .ref (am 2), .ref (am 3), .ref (am 4), .int (nI tn), .int (nI zsz), .int (nI zfr), .int (nI zbe), .int zha, .int zva, .int fk, .int fp, .ref (am 13), .int (nI sn), .ref (am 15), .ref (am 16), .ref (am 17), .ref (am 18), .ref (am 19), .int (nI pn), .int (nI qn), .ref (am 22), .ref (am 23), .ref (am 24), .ref (am 25), .ref (am 26), .ref (am 27), .ref (am 28), .ref (am 29), .ref (am 30), .ref (am 31), .ref (am 32), .ref (am 33), .ref (am 34), .int zss, .int zsy, .int zpy, .int zfs, .int zls, .int (nI an), .ref (am 41), .ref (am 42), .ref (am 43), .ref (am 44), .ref (am 45), .ref (am 46), .ref (am 47), .ref (am 48), .ref (am 49), .ref (am 50), .int (nI zw), .ref (am 52), .ref (am 53)])), (am 25, .inl (cy 0, 30, .inl mk)), (am 26, .inl (cy 0, 100, .inl qp)), (am 32, .inl (cy 2, 100, .inl qx))] U.heap ∧ va_K (dC, dI) vwCl (tyL cy) U)) (vp_Si (fun r => r = if (qx k).toInt = 0 ∧ (mk (qp k).toInt.toNat).toInt = (mk p).toInt then 1 else 0)) 0 0 (fun _ => False) := by
  refine Met.ofW (cc := cX12_isOf) (maxL := 3) (ret := (some .boolean)) (by decide) rfl ?_
  intro pp ee ss mm args below meth cc0 s₁ B hml hv
  obtain ⟨rfl, hP, hK⟩ := hv
  have hx := B.exec
  have hb := B.bytes
  have hr := B.returns
  have hts := atoms_spec (ws := wsX12_isOf) B.pre
  have hown : ss.vm.findClass RX12 = some mm.cls := findClass_of_methodNamed B.named
  have hlocks := B.notSynchronized
  have hL0 := hts (.fieldLink RX12 172 "HereLivedModel" "isFalse" "[Z") (by decide +kernel)
  have hL1 := hts (.fieldLink RX12 152 "HereLivedModel" "one" "[I") (by decide +kernel)
  have hL2 := hts (.fieldLink RX12 154 "HereLivedModel" "who" "[I") (by decide +kernel)
  have hiX12 : ∀ w ∈ wsX120, w ∈ wsX12_isOf := by decide +kernel
  have hl := lv_entry ([.ref (am 0), .int (nI k), .int (nI p)]) (n := 3) (Nat.le_of_ble_eq_true rfl)
  rw [lg_entry_eq]
  generalize (lg_sl ([.ref (am 0), .int (nI k), .int (nI p)]) ++ List.replicate (3 - (lg_sl ([.ref (am 0), .int (nI k), .int (nI p)])).length) Slot.unset).toArray = ls at hl ⊢
  have hl : lv_has ls 3 [(0, .ref (am 0)), (1, .int (nI k)), (2, .int (nI p))] := hl
  refine bw_Q (fun Q hQ => ?_)
  change W pp l ee { frames := 0, cells := 0, slots := 0, locals := 0 } ss mm _ below meth cc0 ss.heap [] 0 0 Q (F0 mm 0 ls [])
  refine lv_aload_n hx hb dX12_isOf_0 rfl (lv_at hl 0 rfl) ?_
  refine va_get (D := (dC, dI)) (ci := 12) (v := .ref (am 32)) (C := RX12) (T := TX12) (N := 53) hx hb hts hiX12 hown hK hP 0 rfl rfl 31 (by decide) hL0 (fun _ h9 => h9) rfl dX12_isOf_1 ?_
  refine lv_iload_n hx hb dX12_isOf_4 rfl (lv_at hl 1 rfl) ?_
  refine bw_zald hx hb hK hP 3 2 rfl rfl (j := k) (nI_toInt (by omega)) (by omega) dX12_isOf_5 ?_
  refine bw_if_ne (tgt := 33) (a := (qx k).toInt) hx hb dX12_isOf_6 (by decide) rfl (fun c_1 => ?_) (fun c_1 => ?_)
  · skip
    refine lv_iconst (v := 0) hx hb dX12_isOf_33 (by decide) ?_
    refine bw_Qe hQ ?_
    have hpost : (0 : Int32) = if (qx k).toInt = 0 ∧ (mk (qp k).toInt.toNat).toInt = (mk p).toInt then 1 else 0 := by
      first | rw [if_pos (by omega)] | rw [if_neg (by omega)]
    exact W.zret (v := 0) hx hb hr (by rfl) (fun t9 ht hW => ⟨_, rfl, hpost, by rw [ht]⟩) (fun q h => by cases h) dX12_isOf_34
  · skip
    refine lv_aload_n hx hb dX12_isOf_9 rfl (lv_at hl 0 rfl) ?_
    refine va_get (D := (dC, dI)) (ci := 12) (v := .ref (am 25)) (C := RX12) (T := TX12) (N := 53) hx hb hts hiX12 hown hK hP 0 rfl rfl 24 (by decide) hL1 (fun _ h9 => h9) rfl dX12_isOf_10 ?_
    refine lv_aload_n hx hb dX12_isOf_13 rfl (lv_at hl 0 rfl) ?_
    refine va_get (D := (dC, dI)) (ci := 12) (v := .ref (am 26)) (C := RX12) (T := TX12) (N := 53) hx hb hts hiX12 hown hK hP 0 rfl rfl 25 (by decide) hL2 (fun _ h9 => h9) rfl dX12_isOf_14 ?_
    refine lv_iload_n hx hb dX12_isOf_17 rfl (lv_at hl 1 rfl) ?_
    refine bw_iald hx hb hK hP 2 0 rfl rfl (j := k) (nI_toInt (by omega)) (by omega) dX12_isOf_18 ?_
    refine bw_iald hx hb hK hP 1 0 rfl rfl (j := ((qp k).toInt).toNat) (by omega) (by omega) dX12_isOf_19 ?_
    refine lv_aload_n hx hb dX12_isOf_20 rfl (lv_at hl 0 rfl) ?_
    refine va_get (D := (dC, dI)) (ci := 12) (v := .ref (am 25)) (C := RX12) (T := TX12) (N := 53) hx hb hts hiX12 hown hK hP 0 rfl rfl 24 (by decide) hL1 (fun _ h9 => h9) rfl dX12_isOf_21 ?_
    refine lv_iload_n hx hb dX12_isOf_24 rfl (lv_at hl 2 rfl) ?_
    refine bw_iald hx hb hK hP 1 0 rfl rfl (j := p) (nI_toInt (by omega)) (by omega) dX12_isOf_25 ?_
    refine bw_icmp_ne (tgt := 33) (a := (mk (((qp k).toInt).toNat)).toInt) (b := (mk p).toInt) hx hb dX12_isOf_26 (by decide) rfl rfl (fun c_2 => ?_) (fun c_2 => ?_)
    · skip
      refine lv_iconst (v := 0) hx hb dX12_isOf_33 (by decide) ?_
      refine bw_Qe hQ ?_
      have hpost : (0 : Int32) = if (qx k).toInt = 0 ∧ (mk (qp k).toInt.toNat).toInt = (mk p).toInt then 1 else 0 := by
        first | rw [if_pos (by omega)] | rw [if_neg (by omega)]
      exact W.zret (v := 0) hx hb hr (by rfl) (fun t9 ht hW => ⟨_, rfl, hpost, by rw [ht]⟩) (fun q h => by cases h) dX12_isOf_34
    · skip
      refine lv_iconst (v := 1) hx hb dX12_isOf_29 (by decide) ?_
      refine lv_goto (tgt := 34) hx hb dX12_isOf_30 (by decide) ?_
      refine bw_Qe hQ ?_
      have hpost : (1 : Int32) = if (qx k).toInt = 0 ∧ (mk (qp k).toInt.toNat).toInt = (mk p).toInt then 1 else 0 := by
        first | rw [if_pos (by omega)] | rw [if_neg (by omega)]
      exact W.zret (v := 1) hx hb hr (by rfl) (fun t9 ht hW => ⟨_, rfl, hpost, by rw [ht]⟩) (fun q h => by cases h) dX12_isOf_34

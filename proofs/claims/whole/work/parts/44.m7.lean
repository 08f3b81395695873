/-! the reference's scanner -/
theorem mT_and : ∀ x : Nat, x < 256 → ((nI x).toInt8.toInt32 &&& 255) = nI x ∧ ((x < 128 ∧ (nI x).toInt8.toInt32.toInt = (x : Int)) ∨ (128 ≤ x ∧ (nI x).toInt8.toInt32.toInt = (x : Int) - 256)) := by decide +kernel
def byOK (tb : Nat → Int32) : Prop := ∀ k, 0 ≤ (tb k).toInt ∧ (tb k).toInt ≤ 255
theorem mT_255 {tb : Nat → Int32} (h : byOK tb) (k : Nat) : mTape tb k &&& 255 = tb k := by
  have q := h k
  have e : tb k = nI (tb k).toInt.toNat := nI_back (by omega)
  show (tb k).toInt8.toInt32 &&& 255 = tb k
  rw [e]; exact (mT_and _ (by omega)).1
theorem mT_or {tb : Nat → Int32} (h : byOK tb) (k : Nat) : ((tb k).toInt < 128 ∧ (mTape tb k).toInt = (tb k).toInt) ∨ (128 ≤ (tb k).toInt ∧ (mTape tb k).toInt = (tb k).toInt - 256) := by
  have q := h k
  have e : tb k = nI (tb k).toInt.toNat := nI_back (by omega)
  have z := (mT_and (tb k).toInt.toNat (by omega)).2
  rw [← e] at z
  show ((tb k).toInt < 128 ∧ (tb k).toInt8.toInt32.toInt = (tb k).toInt) ∨ (128 ≤ (tb k).toInt ∧ (tb k).toInt8.toInt32.toInt = (tb k).toInt - 256)
  omega
def bAt (tb : Nat → Int32) (n k : Nat) : Int32 := if k < n then tb k else 0
theorem bAt_in {tb : Nat → Int32} {n k : Nat} (h : k < n) : bAt tb n k = tb k := if_pos h
theorem bAt_out {tb : Nat → Int32} {n k : Nat} (h : n ≤ k) : bAt tb n k = 0 := if_neg (by omega)
theorem bAt_sm {tb : Nat → Int32} {n k : Nat} : (97 ≤ (bAt tb n k).toInt ∧ (bAt tb n k).toInt ≤ 122) ↔ bSm tb n k := by
  by_cases h : k < n
  · rw [bAt_in h]; exact ⟨fun q => ⟨h, q⟩, fun q => q.2⟩
  · rw [bAt_out (by omega)]; exact ⟨fun q => absurd q.1 (by decide), fun q => absurd q.1 h⟩
theorem bAt_dg {tb : Nat → Int32} {n k : Nat} : (48 ≤ (bAt tb n k).toInt ∧ (bAt tb n k).toInt ≤ 57) ↔ bDg tb n k := by
  by_cases h : k < n
  · rw [bAt_in h]; exact ⟨fun q => ⟨h, q⟩, fun q => q.2⟩
  · rw [bAt_out (by omega)]; exact ⟨fun q => absurd q.1 (by decide), fun q => absurd q.1 h⟩
/-- the token at hand -/
def tokI (tb : Nat → Int32) (n fr be : Nat) (ha va : Int) : Prop := (n ≤ fr → ha = 0) ∧ (bSm tb n fr → ha = 1) ∧ (bDg tb n fr → be ≤ fr + 4 → ha = 2 ∧ va = vN tb fr (be - fr)) ∧ (bDg tb n fr → fr + 4 < be → ha = 4) ∧ (fr < n → ¬ bSm tb n fr → ¬ bDg tb n fr → (tb fr).toInt = 59 → ha = 3) ∧ (fr < n → ¬ bSm tb n fr → ¬ bDg tb n fr → (tb fr).toInt ≠ 59 → ha = 4)
/-- the look ahead -/
def lk (tb : Nat → Int32) (n fr be : Nat) (ha va : Int) : Prop := fr ≤ n ∧ be ≤ n ∧ fr ≤ be ∧ (fr < n → be = tE tb n fr ∧ fr < be ∧ tEnd tb n fr be) ∧ (n ≤ fr → be = fr) ∧ tokI tb n fr be ha va
def scP (tb : Nat → Int32) (n be0 fr be : Nat) (ha va : Int) : Prop := fr = tS tb n be0 ∧ lk tb n fr be ha va
theorem scP_of {tb : Nat → Int32} {n be0 fr be : Nat} {ha va : Int} (h : tokP tb n be0 fr be) (h2 : tokI tb n fr be ha va) : scP tb n be0 fr be ha va := ⟨h.1, h.2.2.1, h.2.2.2.1, h.2.2.2.2.1, h.2.2.2.2.2.1, h.2.2.2.2.2.2, h2⟩
theorem ti_end {tb : Nat → Int32} {n fr be : Nat} {va : Int} (h : n ≤ fr) : tokI tb n fr be 0 va := ⟨fun _ => rfl, fun q => absurd q.1 (by omega), fun q => absurd q.1 (by omega), fun q => absurd q.1 (by omega), fun q => absurd q (by omega), fun q => absurd q (by omega)⟩
theorem ti_sm {tb : Nat → Int32} {n fr be : Nat} {va : Int} (h : bSm tb n fr) : tokI tb n fr be 1 va := ⟨fun q => absurd h.1 (by omega), fun _ => rfl, fun q => absurd q.2.1 (by have := h.2; have := q.2; omega), fun q => absurd q.2.1 (by have := h.2; have := q.2; omega), fun _ q => absurd h q, fun _ q => absurd h q⟩
theorem ti_d2 {tb : Nat → Int32} {n fr be : Nat} {va : Int} (h : bDg tb n fr) (h4 : be ≤ fr + 4) (hv : va = vN tb fr (be - fr)) : tokI tb n fr be 2 va := ⟨fun q => absurd h.1 (by omega), fun q => absurd q.2.1 (by have := h.2; have := q.2; omega), fun _ _ => ⟨rfl, hv⟩, fun _ q => absurd q (by omega), fun _ _ q => absurd h q, fun _ _ q => absurd h q⟩
theorem ti_d4 {tb : Nat → Int32} {n fr be : Nat} {va : Int} (h : bDg tb n fr) (h4 : fr + 4 < be) : tokI tb n fr be 4 va := ⟨fun q => absurd h.1 (by omega), fun q => absurd q.2.1 (by have := h.2; have := q.2; omega), fun _ q => absurd q (by omega), fun _ _ => rfl, fun _ _ q => absurd h q, fun _ _ q => absurd h q⟩
theorem ti_o3 {tb : Nat → Int32} {n fr be : Nat} {va : Int} (h0 : fr < n) (h1 : ¬ bSm tb n fr) (h2 : ¬ bDg tb n fr) (h : (tb fr).toInt = 59) : tokI tb n fr be 3 va := ⟨fun q => absurd h0 (by omega), fun q => absurd q h1, fun q => absurd q h2, fun q => absurd q h2, fun _ _ _ _ => rfl, fun _ _ _ q => absurd h q⟩
theorem ti_o4 {tb : Nat → Int32} {n fr be : Nat} {va : Int} (h0 : fr < n) (h1 : ¬ bSm tb n fr) (h2 : ¬ bDg tb n fr) (h : (tb fr).toInt ≠ 59) : tokI tb n fr be 4 va := ⟨fun q => absurd h0 (by omega), fun q => absurd q h1, fun q => absurd q h2, fun q => absurd q h2, fun _ _ _ q => absurd q h, fun _ _ _ _ => rfl⟩
theorem wdB_0 : ∀ w, w < 10 → 97 ≤ (wdB w).getD 0 0 ∧ (wdB w).getD 0 0 ≤ 122 ∧ 1 ≤ (wdB w).length := by decide +kernel
theorem isW_sm {tb : Nat → Int32} {n fr be w : Nat} (hw : w < 10) (h : isW tb fr be w) (hb : be ≤ n) : bSm tb n fr := by
  have q := wdB_0 w hw
  have z := h.2 0 (by omega)
  have z1 := h.1
  rw [Nat.add_zero] at z
  exact ⟨by omega, by omega, by omega⟩
theorem kw_none {tb : Nat → Int32} {ts te : Nat} : ∀ k, (∀ m, m < k → ¬ isW tb ts te m) → kwTo tb ts te k = -1
  | 0, _ => rfl
  | k + 1, h => kw_miss (kw_none k (fun m hm => h m (by omega))) (h k (by omega))
theorem kw_is {tb : Nat → Int32} {ts te k : Nat} (hk : k < 8) (h : ∀ m, m < k → ¬ isW tb ts te m) (h2 : isW tb ts te k) : kwTo tb ts te 8 = k := by
  have q := kw_hit (kw_none k h) h2
  rw [show 8 = (k + 1) + (7 - k) by omega, kw_stay (by omega), q]
set_option maxHeartbeats 4000000 in
set_option maxRecDepth 100000 in
theorem c_X12_plain (l : Launch) (dC : Nat → ClassId) (dI : Nat → Nat → Nat) (cy : Nat → ClassId) (qb : Nat) (f : Nat → Int32) (sz : Nat)  : Met l yX12_plain wsX12_plain ({ frames := 0, cells := 0, slots := 0, locals := 0 }) (va_Pc [.ref qb] (fun U => U.heap.size = sz ∧ va_P (dC, dI) vwCl [(qb, .inl (cy 0, 18, .inl f))] U.heap ∧ va_K (dC, dI) vwCl (tyL cy) U ∧ va_D (fun _ => True) [(qb, .inl (cy 0, 18, .inl f))])) (va_Qv (S := (Nat → Int32)) (fun f2 => agr f2 dPl) (fun f2 => fun t => va_P (dC, dI) vwCl [(qb, .inl (cy 0, 18, .inl f2))] t.heap ∧ va_K (dC, dI) vwCl (tyL cy) t ∧ va_D (va_A [(qb, .inl (cy 0, 18, .inl f))] sz) [(qb, .inl (cy 0, 18, .inl f2))]) (va_A [(qb, .inl (cy 0, 18, .inl f))] sz)) 0 0 (va_A [(qb, .inl (cy 0, 18, .inl f))] sz) := by
  refine Met.ofW (cc := cX12_plain) (maxL := 2) (ret := none) (by decide) rfl ?_
  intro pp ee ss mm args below meth cc0 s₁ B hml hv
  obtain ⟨rfl, hsz, hP, hK, hD0⟩ := hv
  have hx := B.exec
  have hb := B.bytes
  have hr := B.returns
  have hts := atoms_spec (ws := wsX12_plain) B.pre
  have hown : ss.vm.findClass RX12 = some mm.cls := findClass_of_methodNamed B.named
  have hlocks := B.notSynchronized
  subst hsz
  have hD := hD0.self (sz := ss.heap.size)
  generalize hAe : va_A [(qb, .inl (cy 0, 18, .inl f))] ss.heap.size = A at hD ⊢
  have hA : ∀ q : Nat, ss.heap.size ≤ q → A q := fun q h => by rw [← hAe]; exact Or.inr h
  have hS : va_S A ss.heap ss.heap [] := va_S.rf
  have hP : va_P (dC, dI) vwCl [(qb, .inl (cy 0, 18, .inl f))] ss.heap := hP
  have hl := lv_entry ([.ref qb]) (n := 2) (Nat.le_of_ble_eq_true rfl)
  rw [lg_entry_eq]
  generalize (lg_sl ([.ref qb]) ++ List.replicate (2 - (lg_sl ([.ref qb])).length) Slot.unset).toArray = ls at hl ⊢
  have hl : lv_has ls 2 [(0, .ref qb)] := hl
  refine bw_Q (fun Q hQ => ?_)
  refine bw_H0 (fun H locs eH eL => ?_)
  have hS : va_S A ss.heap H locs := by rw [eH, eL]; exact hS
  have hP : va_P (dC, dI) vwCl [(qb, .inl (cy 0, 18, .inl f))] H := by rw [eH]; exact hP
  change W pp l ee { frames := 0, cells := 0, slots := 0, locals := 0 } ss mm _ below meth cc0 H locs 0 0 Q (F0 mm 0 ls [])
  refine lv_iconst (v := 0) hx hb dX12_plain_0 (by decide) ?_
  refine lv_istore_n (lv' := [(1, .int 0), (0, .ref qb)]) hx hb dX12_plain_1 rfl hl (by decide) rfl (fun ls hl => ?_)
  have L_2 : ∀ (n9 : Nat), ∀ (t : Nat) (g : Nat → Int32), (18 - t) < n9 → (t ≤ 18) → (∀ j, j < t → g j = -1) → ∀ (H : Heap) (locs : List Loc), va_P (dC, dI) vwCl [(qb, .inl (cy 0, 18, .inl g))] H → va_D A [(qb, .inl (cy 0, 18, .inl g))] → va_S A ss.heap H locs → ∀ (ls : Array Slot), lv_has ls 2 [(0, .ref qb), (1, .int (nI t))] → W pp l ee { frames := 0, cells := 0, slots := 0, locals := 0 } ss mm (List.toArray [Value.ref qb]) below meth cc0 H locs 0 0 Q (F0 mm 2 ls []) := by
    intro n9
    induction n9 with
    | zero => intro t g hm9; exact absurd hm9 (Nat.not_lt_zero _)
    | succ n9 ih2 =>
      intro t g hm2 ht8 hg
      intro H locs hP hD hS
      intro ls hl
      refine lv_iload_n hx hb dX12_plain_2 rfl (lv_at hl 1 rfl) ?_
      refine lv_bipush (v := 18) hx hb dX12_plain_3 (by decide) ?_
      refine bw_icmp_ge (tgt := 18) (a := ((t : Nat) : Int)) (b := 18) hx hb dX12_plain_5 (by decide) (nI_toInt (by omega)) rfl (fun c_1 => ?_) (fun c_1 => ?_)
      · skip
        refine lv_aload_n hx hb dX12_plain_18 rfl (lv_at hl 0 rfl) ?_
        refine lv_iconst (v := 0) hx hb dX12_plain_19 (by decide) ?_
        refine lv_bipush (v := 20) hx hb dX12_plain_20 (by decide) ?_
        refine bw_iast hx hb hK hP hD hS 0 0 rfl rfl (j := 0) rfl (by omega) dX12_plain_22 (fun H locs hP hD hS => ?_)
        have hP : va_P (dC, dI) vwCl [(qb, .inl (cy 0, 18, .inl (upd g 0 20)))] H := hP
        have hD : va_D A [(qb, .inl (cy 0, 18, .inl (upd g 0 20)))] := hD
        refine lv_aload_n hx hb dX12_plain_23 rfl (lv_at hl 0 rfl) ?_
        refine lv_iconst (v := 1) hx hb dX12_plain_24 (by decide) ?_
        refine lv_iconst (v := 1) hx hb dX12_plain_25 (by decide) ?_
        refine bw_iast hx hb hK hP hD hS 0 0 rfl rfl (j := 1) rfl (by omega) dX12_plain_26 (fun H locs hP hD hS => ?_)
        have hP : va_P (dC, dI) vwCl [(qb, .inl (cy 0, 18, .inl (upd (upd g 0 20) 1 1)))] H := hP
        have hD : va_D A [(qb, .inl (cy 0, 18, .inl (upd (upd g 0 20) 1 1)))] := hD
        refine lv_aload_n hx hb dX12_plain_27 rfl (lv_at hl 0 rfl) ?_
        refine lv_iconst (v := 2) hx hb dX12_plain_28 (by decide) ?_
        refine lv_iconst (v := 1) hx hb dX12_plain_29 (by decide) ?_
        refine bw_iast hx hb hK hP hD hS 0 0 rfl rfl (j := 2) rfl (by omega) dX12_plain_30 (fun H locs hP hD hS => ?_)
        have hP : va_P (dC, dI) vwCl [(qb, .inl (cy 0, 18, .inl (upd (upd (upd g 0 20) 1 1) 2 1)))] H := hP
        have hD : va_D A [(qb, .inl (cy 0, 18, .inl (upd (upd (upd g 0 20) 1 1) 2 1)))] := hD
        refine lv_aload_n hx hb dX12_plain_31 rfl (lv_at hl 0 rfl) ?_
        refine lv_iconst (v := 3) hx hb dX12_plain_32 (by decide) ?_
        refine lv_sipush (v := 999) hx hb dX12_plain_33 (by decide) ?_
        refine bw_iast hx hb hK hP hD hS 0 0 rfl rfl (j := 3) rfl (by omega) dX12_plain_36 (fun H locs hP hD hS => ?_)
        have hP : va_P (dC, dI) vwCl [(qb, .inl (cy 0, 18, .inl (upd (upd (upd (upd g 0 20) 1 1) 2 1) 3 999)))] H := hP
        have hD : va_D A [(qb, .inl (cy 0, 18, .inl (upd (upd (upd (upd g 0 20) 1 1) 2 1) 3 999)))] := hD
        refine lv_aload_n hx hb dX12_plain_37 rfl (lv_at hl 0 rfl) ?_
        refine lv_iconst (v := 4) hx hb dX12_plain_38 (by decide) ?_
        refine lv_iconst (v := 1) hx hb dX12_plain_39 (by decide) ?_
        refine bw_iast hx hb hK hP hD hS 0 0 rfl rfl (j := 4) rfl (by omega) dX12_plain_40 (fun H locs hP hD hS => ?_)
        have hP : va_P (dC, dI) vwCl [(qb, .inl (cy 0, 18, .inl (upd (upd (upd (upd (upd g 0 20) 1 1) 2 1) 3 999) 4 1)))] H := hP
        have hD : va_D A [(qb, .inl (cy 0, 18, .inl (upd (upd (upd (upd (upd g 0 20) 1 1) 2 1) 3 999) 4 1)))] := hD
        refine lv_aload_n hx hb dX12_plain_41 rfl (lv_at hl 0 rfl) ?_
        refine lv_iconst (v := 5) hx hb dX12_plain_42 (by decide) ?_
        refine lv_iconst (v := 3) hx hb dX12_plain_43 (by decide) ?_
        refine bw_iast hx hb hK hP hD hS 0 0 rfl rfl (j := 5) rfl (by omega) dX12_plain_44 (fun H locs hP hD hS => ?_)
        have hP : va_P (dC, dI) vwCl [(qb, .inl (cy 0, 18, .inl (upd (upd (upd (upd (upd (upd g 0 20) 1 1) 2 1) 3 999) 4 1) 5 3)))] H := hP
        have hD : va_D A [(qb, .inl (cy 0, 18, .inl (upd (upd (upd (upd (upd (upd g 0 20) 1 1) 2 1) 3 999) 4 1) 5 3)))] := hD
        refine lv_aload_n hx hb dX12_plain_45 rfl (lv_at hl 0 rfl) ?_
        refine lv_bipush (v := 6) hx hb dX12_plain_46 (by decide) ?_
        refine lv_bipush (v := 50) hx hb dX12_plain_48 (by decide) ?_
        refine bw_iast hx hb hK hP hD hS 0 0 rfl rfl (j := 6) rfl (by omega) dX12_plain_50 (fun H locs hP hD hS => ?_)
        have hP : va_P (dC, dI) vwCl [(qb, .inl (cy 0, 18, .inl (upd (upd (upd (upd (upd (upd (upd g 0 20) 1 1) 2 1) 3 999) 4 1) 5 3) 6 50)))] H := hP
        have hD : va_D A [(qb, .inl (cy 0, 18, .inl (upd (upd (upd (upd (upd (upd (upd g 0 20) 1 1) 2 1) 3 999) 4 1) 5 3) 6 50)))] := hD
        refine lv_aload_n hx hb dX12_plain_51 rfl (lv_at hl 0 rfl) ?_
        refine lv_bipush (v := 7) hx hb dX12_plain_52 (by decide) ?_
        refine lv_bipush (v := 66) hx hb dX12_plain_54 (by decide) ?_
        refine bw_iast hx hb hK hP hD hS 0 0 rfl rfl (j := 7) rfl (by omega) dX12_plain_56 (fun H locs hP hD hS => ?_)
        have hP : va_P (dC, dI) vwCl [(qb, .inl (cy 0, 18, .inl (upd (upd (upd (upd (upd (upd (upd (upd g 0 20) 1 1) 2 1) 3 999) 4 1) 5 3) 6 50) 7 66)))] H := hP
        have hD : va_D A [(qb, .inl (cy 0, 18, .inl (upd (upd (upd (upd (upd (upd (upd (upd g 0 20) 1 1) 2 1) 3 999) 4 1) 5 3) 6 50) 7 66)))] := hD
        refine bw_Qe hQ ?_
        have hP9 : va_P (dC, dI) vwCl [(qb, .inl (cy 0, 18, .inl (upd (upd (upd (upd (upd (upd (upd (upd g 0 20) 1 1) 2 1) 3 999) 4 1) 5 3) 6 50) 7 66)))] H := hP.sub [0] rfl
        have hD9 : va_D A [(qb, .inl (cy 0, 18, .inl (upd (upd (upd (upd (upd (upd (upd (upd g 0 20) 1 1) 2 1) 3 999) 4 1) 5 3) 6 50) 7 66)))] := hD.sub [0] (by decide) rfl
        have hpost : agr (upd (upd (upd (upd (upd (upd (upd (upd g 0 20) 1 1) 2 1) 3 999) 4 1) 5 3) 6 50) 7 66) dPl := by
          refine agr_pl rfl rfl rfl rfl rfl rfl rfl rfl (fun j hj => ?_)
          rw [pk_un (by omega), pk_un (by omega), pk_un (by omega), pk_un (by omega), pk_un (by omega), pk_un (by omega), pk_un (by omega), pk_un (by omega)]
          exact hg _ (by omega)
        exact W.vret hx hb hr (fun t9 ht hW => ⟨⟨(upd (upd (upd (upd (upd (upd (upd (upd g 0 20) 1 1) 2 1) 3 999) 4 1) 5 3) 6 50) 7 66), rfl, hpost, by rw [ht]; exact hP9, va_K.moved hW.alike hK, hD9⟩, hS.F ht⟩) hS.2.2 dX12_plain_57
      · skip
        refine lv_aload_n hx hb dX12_plain_8 rfl (lv_at hl 0 rfl) ?_
        refine lv_iload_n hx hb dX12_plain_9 rfl (lv_at hl 1 rfl) ?_
        refine lv_iconst (v := (-1)) hx hb dX12_plain_10 (by decide) ?_
        refine bw_iast hx hb hK hP hD hS 0 0 rfl rfl (j := t) (nI_toInt (by omega)) (by omega) dX12_plain_11 (fun H locs hP hD hS => ?_)
        have hP : va_P (dC, dI) vwCl [(qb, .inl (cy 0, 18, .inl (upd g t (-1))))] H := hP
        have hD : va_D A [(qb, .inl (cy 0, 18, .inl (upd g t (-1))))] := hD
        refine lv_iinc (v := nI (t + 1)) (lv' := [(1, .int (nI (t + 1))), (0, .ref qb)]) hx hb dX12_plain_12 hl (k := 1) rfl (show nI t + Int32.ofInt 1 = nI (t + 1) from nI_add t 1) (by decide) rfl (fun ls hl => ?_)
        refine lv_goto (tgt := 2) hx hb dX12_plain_15 (by decide) ?_
        have hI_hg : ∀ j, j < (t + 1) → (upd g t (-1)) j = -1 := by
          intro j hj
          by_cases q : j = t
          · subst q; exact pk_us
          · rw [pk_un q]; exact hg j (by omega)
        exact ih2 (t + 1) (upd g t (-1)) (by omega) (by first | assumption | omega) hI_hg H locs hP hD hS ls (lv_sub hl [1, 0] rfl)
  have hI_hg : ∀ j, j < 0 → f j = -1 := by
    exact fun j hj => absurd hj (Nat.not_lt_zero _)
  exact L_2 ((18 - 0) + 1) 0 f (by omega) (by first | assumption | omega) hI_hg H locs hP hD hS ls (lv_sub hl [1, 0] rfl)

set_option maxHeartbeats 4000000 in
set_option maxRecDepth 100000 in
theorem c_X12_wrong (l : Launch) (dC : Nat → ClassId) (dI : Nat → Nat → Nat) (cy : Nat → ClassId) (am : Nat → Nat) (tn : Nat) (zsz : Nat) (zfr : Nat) (zbe : Nat) (zha : Int32) (zva : Int32) (fk : Int32) (fp : Int32) (sn : Nat) (pn : Nat) (qn : Nat) (zss : Int32) (zsy : Int32) (zpy : Int32) (zfs : Int32) (zls : Int32) (an : Nat) (zw : Nat) (x : Int32) (sz : Nat)  : Met l yX12_wrong wsX12_wrong ({ frames := 0, cells := 0, slots := 0, locals := 0 }) (va_Pc [.ref (am 0), .int x] (fun U => U.heap.size = sz ∧ va_P (dC, dI) vwCl [(am 0, .inr (12, [.ref (am 1), .ref (am 2), .ref (am 3), .ref (am 4), .int (nI tn), .int (nI zsz), .int (nI zfr), .int (nI zbe), .int zha, .int zva, .int fk, .int fp, .ref (am 13), .int (nI sn), .ref (am 15), .ref (am 16), .ref (am 17), .ref (am 18), .ref (am 19), .int (nI pn), .int (nI qn), .ref (am 22), .ref (am 23), .ref (am 24), .ref (am 25), .ref (am 26), .ref (am 27), .ref (am 28), .ref (am 29), .ref (am 30), .ref (am 31), .ref (am 32), .ref (am 33), .ref (am 34), .int zss, .int zsy, .int zpy, .int zfs, .int zls, .int (nI an), .ref (am 41), .ref (am 42), .ref (am 43), .ref (am 44), .ref (am 45), .ref (am 46), .ref (am 47), .ref (am 48), .ref (am 49), .ref (am 50), .int (nI zw), .ref (am 52), .ref (am 53)]))] U.heap ∧ va_K (dC, dI) vwCl (tyL cy) U ∧ va_D (fun _ => True) [(am 0, .inr (12, [.ref (am 1), .ref (am 2), .ref (am 3), .ref (am 4), .int (nI tn), .int (nI zsz), .int (nI zfr), .int (nI zbe), .int zha, .int zva, .int fk, .int fp, .ref (am 13), .int (nI sn), .ref (am 15), .ref (am 16), .ref (am 17), .ref (am 18), .ref (am 19), .int (nI pn), .int (nI qn), .ref (am 22), .ref (am 23), .ref (am 24), .ref (am 25), .ref (am 26), .ref (am 27), .ref (am 28), .ref (am 29), .ref (am 30), .ref (am 31), .ref (am 32), .ref (am 33), .ref (am 34), .int zss, .int zsy, .int zpy, .int zfs, .int zls, .int (nI an), .ref (am 41), .ref (am 42), .ref (am 43), .ref (am 44), .ref (am 45), .ref (am 46), .ref (am 47), .ref (am 48), .ref (am 49), .ref (am 50), .int (nI zw), .ref (am 52), .ref (am 53)]))])) (va_Qr (S := Unit) (fun _ => True) (fun _ => fun a9 t => a9 = am 3 ∧ va_P (dC, dI) vwCl [(am 0, .inr (12, [.ref (am 1), .ref (am 2), .ref (am 3), .ref (am 4), .int (nI tn), .int (nI zsz), .int (nI zfr), .int (nI zbe), .int zha, .int zva, .int x, .int (nI zfr), .ref (am 13), .int (nI sn), .ref (am 15), .ref (am 16), .ref (am 17), .ref (am 18), .ref (am 19), .int (nI pn), .int (nI qn), .ref (am 22), .ref (am 23), .ref (am 24), .ref (am 25), .ref (am 26), .ref (am 27), .ref (am 28), .ref (am 29), .ref (am 30), .ref (am 31), .ref (am 32), .ref (am 33), .ref (am 34), .int zss, .int zsy, .int zpy, .int zfs, .int zls, .int (nI an), .ref (am 41), .ref (am 42), .ref (am 43), .ref (am 44), .ref (am 45), .ref (am 46), .ref (am 47), .ref (am 48), .ref (am 49), .ref (am 50), .int (nI zw), .ref (am 52), .ref (am 53)]))] t.heap ∧ va_K (dC, dI) vwCl (tyL cy) t ∧ va_D (va_A [(am 0, .inr (12, [.ref (am 1), .ref (am 2), .ref (am 3), .ref (am 4), .int (nI tn), .int (nI zsz), .int (nI zfr), .int (nI zbe), .int zha, .int zva, .int fk, .int fp, .ref (am 13), .int (nI sn), .ref (am 15), .ref (am 16), .ref (am 17), .ref (am 18), .ref (am 19), .int (nI pn), .int (nI qn), .ref (am 22), .ref (am 23), .ref (am 24), .ref (am 25), .ref (am 26), .ref (am 27), .ref (am 28), .ref (am 29), .ref (am 30), .ref (am 31), .ref (am 32), .ref (am 33), .ref (am 34), .int zss, .int zsy, .int zpy, .int zfs, .int zls, .int (nI an), .ref (am 41), .ref (am 42), .ref (am 43), .ref (am 44), .ref (am 45), .ref (am 46), .ref (am 47), .ref (am 48), .ref (am 49), .ref (am 50), .int (nI zw), .ref (am 52), .ref (am 53)]))] sz) [(am 0, .inr (12, [.ref (am 1), .ref (am 2), .ref (am 3), .ref (am 4), .int (nI tn), .int (nI zsz), .int (nI zfr), .int (nI zbe), .int zha, .int zva, .int x, .int (nI zfr), .ref (am 13), .int (nI sn), .ref (am 15), .ref (am 16), .ref (am 17), .ref (am 18), .ref (am 19), .int (nI pn), .int (nI qn), .ref (am 22), .ref (am 23), .ref (am 24), .ref (am 25), .ref (am 26), .ref (am 27), .ref (am 28), .ref (am 29), .ref (am 30), .ref (am 31), .ref (am 32), .ref (am 33), .ref (am 34), .int zss, .int zsy, .int zpy, .int zfs, .int zls, .int (nI an), .ref (am 41), .ref (am 42), .ref (am 43), .ref (am 44), .ref (am 45), .ref (am 46), .ref (am 47), .ref (am 48), .ref (am 49), .ref (am 50), .int (nI zw), .ref (am 52), .ref (am 53)]))]) (va_A [(am 0, .inr (12, [.ref (am 1), .ref (am 2), .ref (am 3), .ref (am 4), .int (nI tn), .int (nI zsz), .int (nI zfr), .int (nI zbe), .int zha, .int zva, .int fk, .int fp, .ref (am 13), .int (nI sn), .ref (am 15), .ref (am 16), .ref (am 17), .ref (am 18), .ref (am 19), .int (nI pn), .int (nI qn), .ref (am 22), .ref (am 23), .ref (am 24), .ref (am 25), .ref (am 26), .ref (am 27), .ref (am 28), .ref (am 29), .ref (am 30), .ref (am 31), .ref (am 32), .ref (am 33), .ref (am 34), .int zss, .int zsy, .int zpy, .int zfs, .int zls, .int (nI an), .ref (am 41), .ref (am 42), .ref (am 43), .ref (am 44), .ref (am 45), .ref (am 46), .ref (am 47), .ref (am 48), .ref (am 49), .ref (am 50), .int (nI zw), .ref (am 52), .ref (am 53)]))] sz)) 0 0 (va_A [(am 0, .inr (12, [.ref (am 1), .ref (am 2), .ref (am 3), .ref (am 4), .int (nI tn), .int (nI zsz), .int (nI zfr), .int (nI zbe), .int zha, .int zva, .int fk, .int fp, .ref (am 13), .int (nI sn), .ref (am 15), .ref (am 16), .ref (am 17), .ref (am 18), .ref (am 19), .int (nI pn), .int (nI qn), .ref (am 22), .ref (am 23), .ref (am 24), .ref (am 25), .ref (am 26), .ref (am 27), .ref (am 28), .ref (am 29), .ref (am 30), .ref (am 31), .ref (am 32), .ref (am 33), .ref (am 34), .int zss, .int zsy, .int zpy, .int zfs, .int zls, .int (nI an), .ref (am 41), .ref (am 42), .ref (am 43), .ref (am 44), .ref (am 45), .ref (am 46), .ref (am 47), .ref (am 48), .ref (am 49), .ref (am 50), .int (nI zw), .ref (am 52), .ref (am 53)]))] sz) := by
  refine Met.ofW (cc := cX12_wrong) (maxL := 2) (ret := (some (.object "HereLivedModel$Stop"))) (by decide) rfl ?_
  intro pp ee ss mm args below meth cc0 s₁ B hml hv
  obtain ⟨rfl, hsz, hP, hK, hD0⟩ := hv
  have hx := B.exec
  have hb := B.bytes
  have hr := B.returns
  have hts := atoms_spec (ws := wsX12_wrong) B.pre
  have hown : ss.vm.findClass RX12 = some mm.cls := findClass_of_methodNamed B.named
  have hlocks := B.notSynchronized
  have hL0 := hts (.fieldLink RX12 11 "HereLivedModel" "fault" "I") (by decide +kernel)
  have hL1 := hts (.fieldLink RX12 15 "HereLivedModel" "from" "I") (by decide +kernel)
  have hL2 := hts (.fieldLink RX12 18 "HereLivedModel" "faultAt" "I") (by decide +kernel)
  have hL3 := hts (.fieldLink RX12 21 "HereLivedModel" "stop" "LHereLivedModel$Stop;") (by decide +kernel)
  have hiX12 : ∀ w ∈ wsX120, w ∈ wsX12_wrong := by decide +kernel
  subst hsz
  have hD := hD0.self (sz := ss.heap.size)
  generalize hAe : va_A [(am 0, .inr (12, [.ref (am 1), .ref (am 2), .ref (am 3), .ref (am 4), .int (nI tn), .int (nI zsz), .int (nI zfr), .int (nI zbe), .int zha, .int zva, .int fk, .int fp, .ref (am 13), .int (nI sn), .ref (am 15), .ref (am 16), .ref (am 17), .ref (am 18), .ref (am 19), .int (nI pn), .int (nI qn), .ref (am 22), .ref (am 23), .ref (am 24), .ref (am 25), .ref (am 26), .ref (am 27), .ref (am 28), .ref (am 29), .ref (am 30), .ref (am 31), .ref (am 32), .ref (am 33), .ref (am 34), .int zss, .int zsy, .int zpy, .int zfs, .int zls, .int (nI an), .ref (am 41), .ref (am 42), .ref (am 43), .ref (am 44), .ref (am 45), .ref (am 46), .ref (am 47), .ref (am 48), .ref (am 49), .ref (am 50), .int (nI zw), .ref (am 52), .ref (am 53)]))] ss.heap.size = A at hD ⊢
  have hA : ∀ q : Nat, ss.heap.size ≤ q → A q := fun q h => by rw [← hAe]; exact Or.inr h
  have hS : va_S A ss.heap ss.heap [] := va_S.rf
  have hP : va_P (dC, dI) vwCl [(am 0, .inr (12, [.ref (am 1), .ref (am 2), .ref (am 3), .ref (am 4), .int (nI tn), .int (nI zsz), .int (nI zfr), .int (nI zbe), .int zha, .int zva, .int fk, .int fp, .ref (am 13), .int (nI sn), .ref (am 15), .ref (am 16), .ref (am 17), .ref (am 18), .ref (am 19), .int (nI pn), .int (nI qn), .ref (am 22), .ref (am 23), .ref (am 24), .ref (am 25), .ref (am 26), .ref (am 27), .ref (am 28), .ref (am 29), .ref (am 30), .ref (am 31), .ref (am 32), .ref (am 33), .ref (am 34), .int zss, .int zsy, .int zpy, .int zfs, .int zls, .int (nI an), .ref (am 41), .ref (am 42), .ref (am 43), .ref (am 44), .ref (am 45), .ref (am 46), .ref (am 47), .ref (am 48), .ref (am 49), .ref (am 50), .int (nI zw), .ref (am 52), .ref (am 53)]))] ss.heap := hP
  have hl := lv_entry ([.ref (am 0), .int x]) (n := 2) (Nat.le_of_ble_eq_true rfl)
  rw [lg_entry_eq]
  generalize (lg_sl ([.ref (am 0), .int x]) ++ List.replicate (2 - (lg_sl ([.ref (am 0), .int x])).length) Slot.unset).toArray = ls at hl ⊢
  have hl : lv_has ls 2 [(0, .ref (am 0)), (1, .int x)] := hl
  refine bw_Q (fun Q hQ => ?_)
  refine bw_H0 (fun H locs eH eL => ?_)
  have hS : va_S A ss.heap H locs := by rw [eH, eL]; exact hS
  have hP : va_P (dC, dI) vwCl [(am 0, .inr (12, [.ref (am 1), .ref (am 2), .ref (am 3), .ref (am 4), .int (nI tn), .int (nI zsz), .int (nI zfr), .int (nI zbe), .int zha, .int zva, .int fk, .int fp, .ref (am 13), .int (nI sn), .ref (am 15), .ref (am 16), .ref (am 17), .ref (am 18), .ref (am 19), .int (nI pn), .int (nI qn), .ref (am 22), .ref (am 23), .ref (am 24), .ref (am 25), .ref (am 26), .ref (am 27), .ref (am 28), .ref (am 29), .ref (am 30), .ref (am 31), .ref (am 32), .ref (am 33), .ref (am 34), .int zss, .int zsy, .int zpy, .int zfs, .int zls, .int (nI an), .ref (am 41), .ref (am 42), .ref (am 43), .ref (am 44), .ref (am 45), .ref (am 46), .ref (am 47), .ref (am 48), .ref (am 49), .ref (am 50), .int (nI zw), .ref (am 52), .ref (am 53)]))] H := by rw [eH]; exact hP
  change W pp l ee { frames := 0, cells := 0, slots := 0, locals := 0 } ss mm _ below meth cc0 H locs 0 0 Q (F0 mm 0 ls [])
  refine lv_aload_n hx hb dX12_wrong_0 rfl (lv_at hl 0 rfl) ?_
  refine lv_iload_n hx hb dX12_wrong_1 rfl (lv_at hl 1 rfl) ?_
  refine va_put (D := (dC, dI)) (ci := 12) (v := .int x) (ty := (tyX12 10)) (C := RX12) (T := TX12) (N := 53) hx hb hts hiX12 tyX12 tyX12_ok nmX12 hown hK hP hD hS 0 rfl rfl 10 (by decide) hL0 (fun _ h9 => h9) rfl (by decide +kernel) rfl rfl (Nat.le_of_ble_eq_true rfl) dX12_wrong_2 (fun H locs hP hD hS => ?_)
  have hP : va_P (dC, dI) vwCl [(am 0, .inr (12, [.ref (am 1), .ref (am 2), .ref (am 3), .ref (am 4), .int (nI tn), .int (nI zsz), .int (nI zfr), .int (nI zbe), .int zha, .int zva, .int x, .int fp, .ref (am 13), .int (nI sn), .ref (am 15), .ref (am 16), .ref (am 17), .ref (am 18), .ref (am 19), .int (nI pn), .int (nI qn), .ref (am 22), .ref (am 23), .ref (am 24), .ref (am 25), .ref (am 26), .ref (am 27), .ref (am 28), .ref (am 29), .ref (am 30), .ref (am 31), .ref (am 32), .ref (am 33), .ref (am 34), .int zss, .int zsy, .int zpy, .int zfs, .int zls, .int (nI an), .ref (am 41), .ref (am 42), .ref (am 43), .ref (am 44), .ref (am 45), .ref (am 46), .ref (am 47), .ref (am 48), .ref (am 49), .ref (am 50), .int (nI zw), .ref (am 52), .ref (am 53)]))] H := hP
  have hD : va_D A [(am 0, .inr (12, [.ref (am 1), .ref (am 2), .ref (am 3), .ref (am 4), .int (nI tn), .int (nI zsz), .int (nI zfr), .int (nI zbe), .int zha, .int zva, .int x, .int fp, .ref (am 13), .int (nI sn), .ref (am 15), .ref (am 16), .ref (am 17), .ref (am 18), .ref (am 19), .int (nI pn), .int (nI qn), .ref (am 22), .ref (am 23), .ref (am 24), .ref (am 25), .ref (am 26), .ref (am 27), .ref (am 28), .ref (am 29), .ref (am 30), .ref (am 31), .ref (am 32), .ref (am 33), .ref (am 34), .int zss, .int zsy, .int zpy, .int zfs, .int zls, .int (nI an), .ref (am 41), .ref (am 42), .ref (am 43), .ref (am 44), .ref (am 45), .ref (am 46), .ref (am 47), .ref (am 48), .ref (am 49), .ref (am 50), .int (nI zw), .ref (am 52), .ref (am 53)]))] := hD
  refine lv_aload_n hx hb dX12_wrong_5 rfl (lv_at hl 0 rfl) ?_
  refine lv_aload_n hx hb dX12_wrong_6 rfl (lv_at hl 0 rfl) ?_
  refine va_get (D := (dC, dI)) (ci := 12) (v := .int (nI zfr)) (C := RX12) (T := TX12) (N := 53) hx hb hts hiX12 hown hK hP 0 rfl rfl 6 (by decide) hL1 (fun _ h9 => h9) rfl dX12_wrong_7 ?_
  refine va_put (D := (dC, dI)) (ci := 12) (v := .int (nI zfr)) (ty := (tyX12 11)) (C := RX12) (T := TX12) (N := 53) hx hb hts hiX12 tyX12 tyX12_ok nmX12 hown hK hP hD hS 0 rfl rfl 11 (by decide) hL2 (fun _ h9 => h9) rfl (by decide +kernel) rfl rfl (Nat.le_of_ble_eq_true rfl) dX12_wrong_10 (fun H locs hP hD hS => ?_)
  have hP : va_P (dC, dI) vwCl [(am 0, .inr (12, [.ref (am 1), .ref (am 2), .ref (am 3), .ref (am 4), .int (nI tn), .int (nI zsz), .int (nI zfr), .int (nI zbe), .int zha, .int zva, .int x, .int (nI zfr), .ref (am 13), .int (nI sn), .ref (am 15), .ref (am 16), .ref (am 17), .ref (am 18), .ref (am 19), .int (nI pn), .int (nI qn), .ref (am 22), .ref (am 23), .ref (am 24), .ref (am 25), .ref (am 26), .ref (am 27), .ref (am 28), .ref (am 29), .ref (am 30), .ref (am 31), .ref (am 32), .ref (am 33), .ref (am 34), .int zss, .int zsy, .int zpy, .int zfs, .int zls, .int (nI an), .ref (am 41), .ref (am 42), .ref (am 43), .ref (am 44), .ref (am 45), .ref (am 46), .ref (am 47), .ref (am 48), .ref (am 49), .ref (am 50), .int (nI zw), .ref (am 52), .ref (am 53)]))] H := hP
  have hD : va_D A [(am 0, .inr (12, [.ref (am 1), .ref (am 2), .ref (am 3), .ref (am 4), .int (nI tn), .int (nI zsz), .int (nI zfr), .int (nI zbe), .int zha, .int zva, .int x, .int (nI zfr), .ref (am 13), .int (nI sn), .ref (am 15), .ref (am 16), .ref (am 17), .ref (am 18), .ref (am 19), .int (nI pn), .int (nI qn), .ref (am 22), .ref (am 23), .ref (am 24), .ref (am 25), .ref (am 26), .ref (am 27), .ref (am 28), .ref (am 29), .ref (am 30), .ref (am 31), .ref (am 32), .ref (am 33), .ref (am 34), .int zss, .int zsy, .int zpy, .int zfs, .int zls, .int (nI an), .ref (am 41), .ref (am 42), .ref (am 43), .ref (am 44), .ref (am 45), .ref (am 46), .ref (am 47), .ref (am 48), .ref (am 49), .ref (am 50), .int (nI zw), .ref (am 52), .ref (am 53)]))] := hD
  refine lv_aload_n hx hb dX12_wrong_13 rfl (lv_at hl 0 rfl) ?_
  refine va_get (D := (dC, dI)) (ci := 12) (v := .ref (am 3)) (C := RX12) (T := TX12) (N := 53) hx hb hts hiX12 hown hK hP 0 rfl rfl 2 (by decide) hL3 (fun _ h9 => h9) rfl dX12_wrong_14 ?_
  refine bw_Qe hQ ?_
  have hP9 : va_P (dC, dI) vwCl [(am 0, .inr (12, [.ref (am 1), .ref (am 2), .ref (am 3), .ref (am 4), .int (nI tn), .int (nI zsz), .int (nI zfr), .int (nI zbe), .int zha, .int zva, .int x, .int (nI zfr), .ref (am 13), .int (nI sn), .ref (am 15), .ref (am 16), .ref (am 17), .ref (am 18), .ref (am 19), .int (nI pn), .int (nI qn), .ref (am 22), .ref (am 23), .ref (am 24), .ref (am 25), .ref (am 26), .ref (am 27), .ref (am 28), .ref (am 29), .ref (am 30), .ref (am 31), .ref (am 32), .ref (am 33), .ref (am 34), .int zss, .int zsy, .int zpy, .int zfs, .int zls, .int (nI an), .ref (am 41), .ref (am 42), .ref (am 43), .ref (am 44), .ref (am 45), .ref (am 46), .ref (am 47), .ref (am 48), .ref (am 49), .ref (am 50), .int (nI zw), .ref (am 52), .ref (am 53)]))] H := hP.sub [0] rfl
  have hD9 : va_D A [(am 0, .inr (12, [.ref (am 1), .ref (am 2), .ref (am 3), .ref (am 4), .int (nI tn), .int (nI zsz), .int (nI zfr), .int (nI zbe), .int zha, .int zva, .int x, .int (nI zfr), .ref (am 13), .int (nI sn), .ref (am 15), .ref (am 16), .ref (am 17), .ref (am 18), .ref (am 19), .int (nI pn), .int (nI qn), .ref (am 22), .ref (am 23), .ref (am 24), .ref (am 25), .ref (am 26), .ref (am 27), .ref (am 28), .ref (am 29), .ref (am 30), .ref (am 31), .ref (am 32), .ref (am 33), .ref (am 34), .int zss, .int zsy, .int zpy, .int zfs, .int zls, .int (nI an), .ref (am 41), .ref (am 42), .ref (am 43), .ref (am 44), .ref (am 45), .ref (am 46), .ref (am 47), .ref (am 48), .ref (am 49), .ref (am 50), .int (nI zw), .ref (am 52), .ref (am 53)]))] := hD.sub [0] (by decide) rfl
  have hpost : True := by
    trivial
  exact W.aret hx hb hr (Or.inl ⟨_, rfl⟩) (Or.inr ⟨_, rfl⟩) (fun t9 ht hW => ⟨⟨(), _, rfl, hpost, rfl, by rw [ht]; exact hP9, va_K.moved hW.alike hK, hD9⟩, hS.F ht⟩) hS.2.2 dX12_wrong_17

set_option maxHeartbeats 4000000 in
set_option maxRecDepth 100000 in
theorem c_X12_byteAt (l : Launch) (dC : Nat → ClassId) (dI : Nat → Nat → Nat) (cy : Nat → ClassId) (am : Nat → Nat) (tn : Nat) (zsz : Nat) (zfr : Nat) (zbe : Nat) (zha : Int32) (zva : Int32) (fk : Int32) (fp : Int32) (sn : Nat) (pn : Nat) (qn : Nat) (zss : Int32) (zsy : Int32) (zpy : Int32) (zfs : Int32) (zls : Int32) (an : Nat) (zw : Nat) (tb : Nat → Int32) (k : Nat) (hby : byOK tb) (hsz : zsz ≤ 600) (hk : k ≤ 600) : Met l yX12_byteAt wsX12_byteAt ({ frames := 0, cells := 0, slots := 0, locals := 0 }) (va_Pc [.ref (am 0), .int (nI k)] (fun U => va_P (dC, dI) vwCl [(am 0, .inr (12, [.ref (am 1), .ref (am 2), .ref (am 3), .ref (am 4), .int (nI tn), .int (nI zsz), .int (nI zfr), .int (nI zbe), .int zha, .int zva, .int fk, .int fp, .ref (am 13), .int (nI sn), .ref (am 15), .ref (am 16), .ref (am 17), .ref (am 18), .ref (am 19), .int (nI pn), .int (nI qn), .ref (am 22), .ref (am 23), .ref (am 24), .ref (am 25), .ref (am 26), .ref (am 27), .ref (am 28), .ref (am 29), .ref (am 30), .ref (am 31), .ref (am 32), .ref (am 33), .ref (am 34), .int zss, .int zsy, .int zpy, .int zfs, .int zls, .int (nI an), .ref (am 41), .ref (am 42), .ref (am 43), .ref (am 44), .ref (am 45), .ref (am 46), .ref (am 47), .ref (am 48), .ref (am 49), .ref (am 50), .int (nI zw), .ref (am 52), .ref (am 53)])), (am 4, .inl (cy 3, 600, .inl (mTape tb)))] U.heap ∧ va_K (dC, dI) vwCl (tyL cy) U)) (vp_Si (fun r => r = bAt tb zsz k)) 0 0 (fun _ => False) := by
  refine Met.ofW (cc := cX12_byteAt) (maxL := 2) (ret := (some .int)) (by decide) rfl ?_
  intro pp ee ss mm args below meth cc0 s₁ B hml hv
  obtain ⟨rfl, hP, hK⟩ := hv
  have hx := B.exec
  have hb := B.bytes
  have hr := B.returns
  have hts := atoms_spec (ws := wsX12_byteAt) B.pre
  have hown : ss.vm.findClass RX12 = some mm.cls := findClass_of_methodNamed B.named
  have hlocks := B.notSynchronized
  have hL0 := hts (.fieldLink RX12 25 "HereLivedModel" "size" "I") (by decide +kernel)
  have hL1 := hts (.fieldLink RX12 28 "HereLivedModel" "tape" "[B") (by decide +kernel)
  have hiX12 : ∀ w ∈ wsX120, w ∈ wsX12_byteAt := by decide +kernel
  have hl := lv_entry ([.ref (am 0), .int (nI k)]) (n := 2) (Nat.le_of_ble_eq_true rfl)
  rw [lg_entry_eq]
  generalize (lg_sl ([.ref (am 0), .int (nI k)]) ++ List.replicate (2 - (lg_sl ([.ref (am 0), .int (nI k)])).length) Slot.unset).toArray = ls at hl ⊢
  have hl : lv_has ls 2 [(0, .ref (am 0)), (1, .int (nI k))] := hl
  refine bw_Q (fun Q hQ => ?_)
  change W pp l ee { frames := 0, cells := 0, slots := 0, locals := 0 } ss mm _ below meth cc0 ss.heap [] 0 0 Q (F0 mm 0 ls [])
  refine lv_iload_n hx hb dX12_byteAt_0 rfl (lv_at hl 1 rfl) ?_
  refine lv_aload_n hx hb dX12_byteAt_1 rfl (lv_at hl 0 rfl) ?_
  refine va_get (D := (dC, dI)) (ci := 12) (v := .int (nI zsz)) (C := RX12) (T := TX12) (N := 53) hx hb hts hiX12 hown hK hP 0 rfl rfl 5 (by decide) hL0 (fun _ h9 => h9) rfl dX12_byteAt_2 ?_
  refine bw_icmp_ge (tgt := 21) (a := ((k : Nat) : Int)) (b := ((zsz : Nat) : Int)) hx hb dX12_byteAt_5 (by decide) (nI_toInt (by omega)) (nI_toInt (by omega)) (fun c_1 => ?_) (fun c_1 => ?_)
  · skip
    refine lv_iconst (v := 0) hx hb dX12_byteAt_21 (by decide) ?_
    refine bw_Qe hQ ?_
    have hpost : (0 : Int32) = bAt tb zsz k := by
      first
        | exact (bAt_in (by omega)).symm
        | exact (bAt_out (by omega)).symm
    exact W.iret (v := 0) hx hb hr (fun t9 ht hW => ⟨_, rfl, hpost, by rw [ht]⟩) (fun q h => by cases h) dX12_byteAt_22
  · skip
    refine lv_aload_n hx hb dX12_byteAt_8 rfl (lv_at hl 0 rfl) ?_
    refine va_get (D := (dC, dI)) (ci := 12) (v := .ref (am 4)) (C := RX12) (T := TX12) (N := 53) hx hb hts hiX12 hown hK hP 0 rfl rfl 3 (by decide) hL1 (fun _ h9 => h9) rfl dX12_byteAt_9 ?_
    refine lv_iload_n hx hb dX12_byteAt_12 rfl (lv_at hl 1 rfl) ?_
    refine bw_bald hx hb hK hP 1 3 rfl rfl (j := k) (nI_toInt (by omega)) (by omega) dX12_byteAt_13 ?_
    refine lv_sipush (v := 255) hx hb dX12_byteAt_14 (by decide) ?_
    refine lv_iand hx hb dX12_byteAt_17 ?_
    refine lv_topi (fun za eza => ?_)
    refine bw_re (show za = tb k from (eza.trans (mT_255 hby k))) ?_
    refine lv_goto (tgt := 22) hx hb dX12_byteAt_18 (by decide) ?_
    refine bw_Qe hQ ?_
    have hpost : (tb k) = bAt tb zsz k := by
      first
        | exact (bAt_in (by omega)).symm
        | exact (bAt_out (by omega)).symm
    exact W.iret (v := tb k) hx hb hr (fun t9 ht hW => ⟨_, rfl, hpost, by rw [ht]⟩) (fun q h => by cases h) dX12_byteAt_22

set_option maxHeartbeats 4000000 in
set_option maxRecDepth 100000 in
theorem c_X12_scan (l : Launch) (dC : Nat → ClassId) (dI : Nat → Nat → Nat) (cy : Nat → ClassId) (am : Nat → Nat) (tn : Nat) (zsz : Nat) (zfr : Nat) (zbe : Nat) (zha : Int32) (zva : Int32) (fk : Int32) (fp : Int32) (sn : Nat) (pn : Nat) (qn : Nat) (zss : Int32) (zsy : Int32) (zpy : Int32) (zfs : Int32) (zls : Int32) (an : Nat) (zw : Nat) (tb : Nat → Int32) (sz : Nat) (hby : byOK tb) (hsz : zsz ≤ 600) (hbe : zbe ≤ zsz) : Met l yX12_scan wsX12_scan ({ frames := 1, cells := 0, slots := 0, locals := 21 }) (va_Pc [.ref (am 0)] (fun U => U.heap.size = sz ∧ va_P (dC, dI) vwCl [(am 0, .inr (12, [.ref (am 1), .ref (am 2), .ref (am 3), .ref (am 4), .int (nI tn), .int (nI zsz), .int (nI zfr), .int (nI zbe), .int zha, .int zva, .int fk, .int fp, .ref (am 13), .int (nI sn), .ref (am 15), .ref (am 16), .ref (am 17), .ref (am 18), .ref (am 19), .int (nI pn), .int (nI qn), .ref (am 22), .ref (am 23), .ref (am 24), .ref (am 25), .ref (am 26), .ref (am 27), .ref (am 28), .ref (am 29), .ref (am 30), .ref (am 31), .ref (am 32), .ref (am 33), .ref (am 34), .int zss, .int zsy, .int zpy, .int zfs, .int zls, .int (nI an), .ref (am 41), .ref (am 42), .ref (am 43), .ref (am 44), .ref (am 45), .ref (am 46), .ref (am 47), .ref (am 48), .ref (am 49), .ref (am 50), .int (nI zw), .ref (am 52), .ref (am 53)])), (am 4, .inl (cy 3, 600, .inl (mTape tb)))] U.heap ∧ va_K (dC, dI) vwCl (tyL cy) U ∧ va_D (fun _ => True) [(am 0, .inr (12, [.ref (am 1), .ref (am 2), .ref (am 3), .ref (am 4), .int (nI tn), .int (nI zsz), .int (nI zfr), .int (nI zbe), .int zha, .int zva, .int fk, .int fp, .ref (am 13), .int (nI sn), .ref (am 15), .ref (am 16), .ref (am 17), .ref (am 18), .ref (am 19), .int (nI pn), .int (nI qn), .ref (am 22), .ref (am 23), .ref (am 24), .ref (am 25), .ref (am 26), .ref (am 27), .ref (am 28), .ref (am 29), .ref (am 30), .ref (am 31), .ref (am 32), .ref (am 33), .ref (am 34), .int zss, .int zsy, .int zpy, .int zfs, .int zls, .int (nI an), .ref (am 41), .ref (am 42), .ref (am 43), .ref (am 44), .ref (am 45), .ref (am 46), .ref (am 47), .ref (am 48), .ref (am 49), .ref (am 50), .int (nI zw), .ref (am 52), .ref (am 53)])), (am 4, .inl (cy 3, 600, .inl (mTape tb)))])) (va_Qv (S := Nat × Nat × Int32 × Int32) (fun u => match u with | (zfr2, zbe2, zha2, zva2) => scP tb zsz zbe zfr2 zbe2 zha2.toInt zva2.toInt) (fun u => match u with | (zfr2, zbe2, zha2, zva2) => fun t => va_P (dC, dI) vwCl [(am 0, .inr (12, [.ref (am 1), .ref (am 2), .ref (am 3), .ref (am 4), .int (nI tn), .int (nI zsz), .int (nI zfr2), .int (nI zbe2), .int zha2, .int zva2, .int fk, .int fp, .ref (am 13), .int (nI sn), .ref (am 15), .ref (am 16), .ref (am 17), .ref (am 18), .ref (am 19), .int (nI pn), .int (nI qn), .ref (am 22), .ref (am 23), .ref (am 24), .ref (am 25), .ref (am 26), .ref (am 27), .ref (am 28), .ref (am 29), .ref (am 30), .ref (am 31), .ref (am 32), .ref (am 33), .ref (am 34), .int zss, .int zsy, .int zpy, .int zfs, .int zls, .int (nI an), .ref (am 41), .ref (am 42), .ref (am 43), .ref (am 44), .ref (am 45), .ref (am 46), .ref (am 47), .ref (am 48), .ref (am 49), .ref (am 50), .int (nI zw), .ref (am 52), .ref (am 53)])), (am 4, .inl (cy 3, 600, .inl (mTape tb)))] t.heap ∧ va_K (dC, dI) vwCl (tyL cy) t ∧ va_D (va_A [(am 0, .inr (12, [.ref (am 1), .ref (am 2), .ref (am 3), .ref (am 4), .int (nI tn), .int (nI zsz), .int (nI zfr), .int (nI zbe), .int zha, .int zva, .int fk, .int fp, .ref (am 13), .int (nI sn), .ref (am 15), .ref (am 16), .ref (am 17), .ref (am 18), .ref (am 19), .int (nI pn), .int (nI qn), .ref (am 22), .ref (am 23), .ref (am 24), .ref (am 25), .ref (am 26), .ref (am 27), .ref (am 28), .ref (am 29), .ref (am 30), .ref (am 31), .ref (am 32), .ref (am 33), .ref (am 34), .int zss, .int zsy, .int zpy, .int zfs, .int zls, .int (nI an), .ref (am 41), .ref (am 42), .ref (am 43), .ref (am 44), .ref (am 45), .ref (am 46), .ref (am 47), .ref (am 48), .ref (am 49), .ref (am 50), .int (nI zw), .ref (am 52), .ref (am 53)])), (am 4, .inl (cy 3, 600, .inl (mTape tb)))] sz) [(am 0, .inr (12, [.ref (am 1), .ref (am 2), .ref (am 3), .ref (am 4), .int (nI tn), .int (nI zsz), .int (nI zfr2), .int (nI zbe2), .int zha2, .int zva2, .int fk, .int fp, .ref (am 13), .int (nI sn), .ref (am 15), .ref (am 16), .ref (am 17), .ref (am 18), .ref (am 19), .int (nI pn), .int (nI qn), .ref (am 22), .ref (am 23), .ref (am 24), .ref (am 25), .ref (am 26), .ref (am 27), .ref (am 28), .ref (am 29), .ref (am 30), .ref (am 31), .ref (am 32), .ref (am 33), .ref (am 34), .int zss, .int zsy, .int zpy, .int zfs, .int zls, .int (nI an), .ref (am 41), .ref (am 42), .ref (am 43), .ref (am 44), .ref (am 45), .ref (am 46), .ref (am 47), .ref (am 48), .ref (am 49), .ref (am 50), .int (nI zw), .ref (am 52), .ref (am 53)])), (am 4, .inl (cy 3, 600, .inl (mTape tb)))]) (va_A [(am 0, .inr (12, [.ref (am 1), .ref (am 2), .ref (am 3), .ref (am 4), .int (nI tn), .int (nI zsz), .int (nI zfr), .int (nI zbe), .int zha, .int zva, .int fk, .int fp, .ref (am 13), .int (nI sn), .ref (am 15), .ref (am 16), .ref (am 17), .ref (am 18), .ref (am 19), .int (nI pn), .int (nI qn), .ref (am 22), .ref (am 23), .ref (am 24), .ref (am 25), .ref (am 26), .ref (am 27), .ref (am 28), .ref (am 29), .ref (am 30), .ref (am 31), .ref (am 32), .ref (am 33), .ref (am 34), .int zss, .int zsy, .int zpy, .int zfs, .int zls, .int (nI an), .ref (am 41), .ref (am 42), .ref (am 43), .ref (am 44), .ref (am 45), .ref (am 46), .ref (am 47), .ref (am 48), .ref (am 49), .ref (am 50), .int (nI zw), .ref (am 52), .ref (am 53)])), (am 4, .inl (cy 3, 600, .inl (mTape tb)))] sz)) 0 0 (va_A [(am 0, .inr (12, [.ref (am 1), .ref (am 2), .ref (am 3), .ref (am 4), .int (nI tn), .int (nI zsz), .int (nI zfr), .int (nI zbe), .int zha, .int zva, .int fk, .int fp, .ref (am 13), .int (nI sn), .ref (am 15), .ref (am 16), .ref (am 17), .ref (am 18), .ref (am 19), .int (nI pn), .int (nI qn), .ref (am 22), .ref (am 23), .ref (am 24), .ref (am 25), .ref (am 26), .ref (am 27), .ref (am 28), .ref (am 29), .ref (am 30), .ref (am 31), .ref (am 32), .ref (am 33), .ref (am 34), .int zss, .int zsy, .int zpy, .int zfs, .int zls, .int (nI an), .ref (am 41), .ref (am 42), .ref (am 43), .ref (am 44), .ref (am 45), .ref (am 46), .ref (am 47), .ref (am 48), .ref (am 49), .ref (am 50), .int (nI zw), .ref (am 52), .ref (am 53)])), (am 4, .inl (cy 3, 600, .inl (mTape tb)))] sz) := by
  refine Met.ofW (cc := cX12_scan) (maxL := 2) (ret := none) (by decide) rfl ?_
  intro pp ee ss mm args below meth cc0 s₁ B hml hv
  obtain ⟨rfl, hsz, hP, hK, hD0⟩ := hv
  have hx := B.exec
  have hb := B.bytes
  have hr := B.returns
  have hts := atoms_spec (ws := wsX12_scan) B.pre
  have hown : ss.vm.findClass RX12 = some mm.cls := findClass_of_methodNamed B.named
  have hlocks := B.notSynchronized
  have hL0 := hts (.fieldLink RX12 32 "HereLivedModel" "behind" "I") (by decide +kernel)
  have hL1 := hts (.fieldLink RX12 25 "HereLivedModel" "size" "I") (by decide +kernel)
  have hL2 := hts (.fieldLink RX12 15 "HereLivedModel" "from" "I") (by decide +kernel)
  have hL3 := hts (.fieldLink RX12 39 "HereLivedModel" "hand" "I") (by decide +kernel)
  have hL4 := hts (.fieldLink RX12 49 "HereLivedModel" "value" "I") (by decide +kernel)
  have hL5 := hts (.fieldLink RX12 28 "HereLivedModel" "tape" "[B") (by decide +kernel)
  have hiX12 : ∀ w ∈ wsX120, w ∈ wsX12_scan := by decide +kernel
  subst hsz
  have hD := hD0.self (sz := ss.heap.size)
  generalize hAe : va_A [(am 0, .inr (12, [.ref (am 1), .ref (am 2), .ref (am 3), .ref (am 4), .int (nI tn), .int (nI zsz), .int (nI zfr), .int (nI zbe), .int zha, .int zva, .int fk, .int fp, .ref (am 13), .int (nI sn), .ref (am 15), .ref (am 16), .ref (am 17), .ref (am 18), .ref (am 19), .int (nI pn), .int (nI qn), .ref (am 22), .ref (am 23), .ref (am 24), .ref (am 25), .ref (am 26), .ref (am 27), .ref (am 28), .ref (am 29), .ref (am 30), .ref (am 31), .ref (am 32), .ref (am 33), .ref (am 34), .int zss, .int zsy, .int zpy, .int zfs, .int zls, .int (nI an), .ref (am 41), .ref (am 42), .ref (am 43), .ref (am 44), .ref (am 45), .ref (am 46), .ref (am 47), .ref (am 48), .ref (am 49), .ref (am 50), .int (nI zw), .ref (am 52), .ref (am 53)])), (am 4, .inl (cy 3, 600, .inl (mTape tb)))] ss.heap.size = A at hD ⊢
  have hA : ∀ q : Nat, ss.heap.size ≤ q → A q := fun q h => by rw [← hAe]; exact Or.inr h
  have hS : va_S A ss.heap ss.heap [] := va_S.rf
  have hP : va_P (dC, dI) vwCl [(am 0, .inr (12, [.ref (am 1), .ref (am 2), .ref (am 3), .ref (am 4), .int (nI tn), .int (nI zsz), .int (nI zfr), .int (nI zbe), .int zha, .int zva, .int fk, .int fp, .ref (am 13), .int (nI sn), .ref (am 15), .ref (am 16), .ref (am 17), .ref (am 18), .ref (am 19), .int (nI pn), .int (nI qn), .ref (am 22), .ref (am 23), .ref (am 24), .ref (am 25), .ref (am 26), .ref (am 27), .ref (am 28), .ref (am 29), .ref (am 30), .ref (am 31), .ref (am 32), .ref (am 33), .ref (am 34), .int zss, .int zsy, .int zpy, .int zfs, .int zls, .int (nI an), .ref (am 41), .ref (am 42), .ref (am 43), .ref (am 44), .ref (am 45), .ref (am 46), .ref (am 47), .ref (am 48), .ref (am 49), .ref (am 50), .int (nI zw), .ref (am 52), .ref (am 53)])), (am 4, .inl (cy 3, 600, .inl (mTape tb)))] ss.heap := hP
  have hl := lv_entry ([.ref (am 0)]) (n := 2) (Nat.le_of_ble_eq_true rfl)
  rw [lg_entry_eq]
  generalize (lg_sl ([.ref (am 0)]) ++ List.replicate (2 - (lg_sl ([.ref (am 0)])).length) Slot.unset).toArray = ls at hl ⊢
  have hl : lv_has ls 2 [(0, .ref (am 0))] := hl
  refine bw_Q (fun Q hQ => ?_)
  refine bw_H0 (fun H locs eH eL => ?_)
  have hS : va_S A ss.heap H locs := by rw [eH, eL]; exact hS
  have hP : va_P (dC, dI) vwCl [(am 0, .inr (12, [.ref (am 1), .ref (am 2), .ref (am 3), .ref (am 4), .int (nI tn), .int (nI zsz), .int (nI zfr), .int (nI zbe), .int zha, .int zva, .int fk, .int fp, .ref (am 13), .int (nI sn), .ref (am 15), .ref (am 16), .ref (am 17), .ref (am 18), .ref (am 19), .int (nI pn), .int (nI qn), .ref (am 22), .ref (am 23), .ref (am 24), .ref (am 25), .ref (am 26), .ref (am 27), .ref (am 28), .ref (am 29), .ref (am 30), .ref (am 31), .ref (am 32), .ref (am 33), .ref (am 34), .int zss, .int zsy, .int zpy, .int zfs, .int zls, .int (nI an), .ref (am 41), .ref (am 42), .ref (am 43), .ref (am 44), .ref (am 45), .ref (am 46), .ref (am 47), .ref (am 48), .ref (am 49), .ref (am 50), .int (nI zw), .ref (am 52), .ref (am 53)])), (am 4, .inl (cy 3, 600, .inl (mTape tb)))] H := by rw [eH]; exact hP
  change W pp l ee { frames := 1, cells := 0, slots := 0, locals := 21 } ss mm _ below meth cc0 H locs 0 0 Q (F0 mm 0 ls [])
  have L_0 : ∀ (n9 : Nat), ∀ (i : Nat), (zsz - i) < n9 → (i ≤ zsz) → (toRun (bBl tb zsz) zbe i) → ∀ (H : Heap) (locs : List Loc), va_P (dC, dI) vwCl [(am 0, .inr (12, [.ref (am 1), .ref (am 2), .ref (am 3), .ref (am 4), .int (nI tn), .int (nI zsz), .int (nI zfr), .int (nI i), .int zha, .int zva, .int fk, .int fp, .ref (am 13), .int (nI sn), .ref (am 15), .ref (am 16), .ref (am 17), .ref (am 18), .ref (am 19), .int (nI pn), .int (nI qn), .ref (am 22), .ref (am 23), .ref (am 24), .ref (am 25), .ref (am 26), .ref (am 27), .ref (am 28), .ref (am 29), .ref (am 30), .ref (am 31), .ref (am 32), .ref (am 33), .ref (am 34), .int zss, .int zsy, .int zpy, .int zfs, .int zls, .int (nI an), .ref (am 41), .ref (am 42), .ref (am 43), .ref (am 44), .ref (am 45), .ref (am 46), .ref (am 47), .ref (am 48), .ref (am 49), .ref (am 50), .int (nI zw), .ref (am 52), .ref (am 53)])), (am 4, .inl (cy 3, 600, .inl (mTape tb)))] H → va_D A [(am 0, .inr (12, [.ref (am 1), .ref (am 2), .ref (am 3), .ref (am 4), .int (nI tn), .int (nI zsz), .int (nI zfr), .int (nI i), .int zha, .int zva, .int fk, .int fp, .ref (am 13), .int (nI sn), .ref (am 15), .ref (am 16), .ref (am 17), .ref (am 18), .ref (am 19), .int (nI pn), .int (nI qn), .ref (am 22), .ref (am 23), .ref (am 24), .ref (am 25), .ref (am 26), .ref (am 27), .ref (am 28), .ref (am 29), .ref (am 30), .ref (am 31), .ref (am 32), .ref (am 33), .ref (am 34), .int zss, .int zsy, .int zpy, .int zfs, .int zls, .int (nI an), .ref (am 41), .ref (am 42), .ref (am 43), .ref (am 44), .ref (am 45), .ref (am 46), .ref (am 47), .ref (am 48), .ref (am 49), .ref (am 50), .int (nI zw), .ref (am 52), .ref (am 53)])), (am 4, .inl (cy 3, 600, .inl (mTape tb)))] → va_S A ss.heap H locs → ∀ (ls : Array Slot), lv_has ls 2 [(0, .ref (am 0))] → W pp l ee { frames := 1, cells := 0, slots := 0, locals := 21 } ss mm (List.toArray [Value.ref (am 0)]) below meth cc0 H locs 0 0 Q (F0 mm 0 ls []) := by
    intro n9
    induction n9 with
    | zero => intro i hm9; exact absurd hm9 (Nat.not_lt_zero _)
    | succ n9 ih0 =>
      intro i hm0 hi1 hr1
      intro H locs hP hD hS
      intro ls hl
      have hmt := mT_or hby i
      have hb9 := hby i
      refine lv_aload_n hx hb dX12_scan_0 rfl (lv_at hl 0 rfl) ?_
      refine va_get (D := (dC, dI)) (ci := 12) (v := .int (nI i)) (C := RX12) (T := TX12) (N := 53) hx hb hts hiX12 hown hK hP 0 rfl rfl 7 (by decide) hL0 (fun _ h9 => h9) rfl dX12_scan_1 ?_
      refine lv_aload_n hx hb dX12_scan_4 rfl (lv_at hl 0 rfl) ?_
      refine va_get (D := (dC, dI)) (ci := 12) (v := .int (nI zsz)) (C := RX12) (T := TX12) (N := 53) hx hb hts hiX12 hown hK hP 0 rfl rfl 5 (by decide) hL1 (fun _ h9 => h9) rfl dX12_scan_5 ?_
      have L_52 : ∀ (i1 : Nat), (i1 ≤ zsz) → (isRun (bBl tb zsz) zbe i1) → ∀ (H : Heap) (locs : List Loc), va_P (dC, dI) vwCl [(am 0, .inr (12, [.ref (am 1), .ref (am 2), .ref (am 3), .ref (am 4), .int (nI tn), .int (nI zsz), .int (nI zfr), .int (nI i1), .int zha, .int zva, .int fk, .int fp, .ref (am 13), .int (nI sn), .ref (am 15), .ref (am 16), .ref (am 17), .ref (am 18), .ref (am 19), .int (nI pn), .int (nI qn), .ref (am 22), .ref (am 23), .ref (am 24), .ref (am 25), .ref (am 26), .ref (am 27), .ref (am 28), .ref (am 29), .ref (am 30), .ref (am 31), .ref (am 32), .ref (am 33), .ref (am 34), .int zss, .int zsy, .int zpy, .int zfs, .int zls, .int (nI an), .ref (am 41), .ref (am 42), .ref (am 43), .ref (am 44), .ref (am 45), .ref (am 46), .ref (am 47), .ref (am 48), .ref (am 49), .ref (am 50), .int (nI zw), .ref (am 52), .ref (am 53)])), (am 4, .inl (cy 3, 600, .inl (mTape tb)))] H → va_D A [(am 0, .inr (12, [.ref (am 1), .ref (am 2), .ref (am 3), .ref (am 4), .int (nI tn), .int (nI zsz), .int (nI zfr), .int (nI i1), .int zha, .int zva, .int fk, .int fp, .ref (am 13), .int (nI sn), .ref (am 15), .ref (am 16), .ref (am 17), .ref (am 18), .ref (am 19), .int (nI pn), .int (nI qn), .ref (am 22), .ref (am 23), .ref (am 24), .ref (am 25), .ref (am 26), .ref (am 27), .ref (am 28), .ref (am 29), .ref (am 30), .ref (am 31), .ref (am 32), .ref (am 33), .ref (am 34), .int zss, .int zsy, .int zpy, .int zfs, .int zls, .int (nI an), .ref (am 41), .ref (am 42), .ref (am 43), .ref (am 44), .ref (am 45), .ref (am 46), .ref (am 47), .ref (am 48), .ref (am 49), .ref (am 50), .int (nI zw), .ref (am 52), .ref (am 53)])), (am 4, .inl (cy 3, 600, .inl (mTape tb)))] → va_S A ss.heap H locs → ∀ (ls : Array Slot), lv_has ls 2 [(0, .ref (am 0))] → W pp l ee { frames := 1, cells := 0, slots := 0, locals := 21 } ss mm (List.toArray [Value.ref (am 0)]) below meth cc0 H locs 0 0 Q (F0 mm 52 ls []) := by
        intro i1 hi2 hr2
        intro H locs hP hD hS
        intro ls hl
        refine lv_aload_n hx hb dX12_scan_52 rfl (lv_at hl 0 rfl) ?_
        refine lv_aload_n hx hb dX12_scan_53 rfl (lv_at hl 0 rfl) ?_
        refine va_get (D := (dC, dI)) (ci := 12) (v := .int (nI i1)) (C := RX12) (T := TX12) (N := 53) hx hb hts hiX12 hown hK hP 0 rfl rfl 7 (by decide) hL0 (fun _ h9 => h9) rfl dX12_scan_54 ?_
        refine va_put (D := (dC, dI)) (ci := 12) (v := .int (nI i1)) (ty := (tyX12 6)) (C := RX12) (T := TX12) (N := 53) hx hb hts hiX12 tyX12 tyX12_ok nmX12 hown hK hP hD hS 0 rfl rfl 6 (by decide) hL2 (fun _ h9 => h9) rfl (by decide +kernel) rfl rfl (Nat.le_of_ble_eq_true rfl) dX12_scan_57 (fun H locs hP hD hS => ?_)
        have hP : va_P (dC, dI) vwCl [(am 0, .inr (12, [.ref (am 1), .ref (am 2), .ref (am 3), .ref (am 4), .int (nI tn), .int (nI zsz), .int (nI i1), .int (nI i1), .int zha, .int zva, .int fk, .int fp, .ref (am 13), .int (nI sn), .ref (am 15), .ref (am 16), .ref (am 17), .ref (am 18), .ref (am 19), .int (nI pn), .int (nI qn), .ref (am 22), .ref (am 23), .ref (am 24), .ref (am 25), .ref (am 26), .ref (am 27), .ref (am 28), .ref (am 29), .ref (am 30), .ref (am 31), .ref (am 32), .ref (am 33), .ref (am 34), .int zss, .int zsy, .int zpy, .int zfs, .int zls, .int (nI an), .ref (am 41), .ref (am 42), .ref (am 43), .ref (am 44), .ref (am 45), .ref (am 46), .ref (am 47), .ref (am 48), .ref (am 49), .ref (am 50), .int (nI zw), .ref (am 52), .ref (am 53)])), (am 4, .inl (cy 3, 600, .inl (mTape tb)))] H := hP
        have hD : va_D A [(am 0, .inr (12, [.ref (am 1), .ref (am 2), .ref (am 3), .ref (am 4), .int (nI tn), .int (nI zsz), .int (nI i1), .int (nI i1), .int zha, .int zva, .int fk, .int fp, .ref (am 13), .int (nI sn), .ref (am 15), .ref (am 16), .ref (am 17), .ref (am 18), .ref (am 19), .int (nI pn), .int (nI qn), .ref (am 22), .ref (am 23), .ref (am 24), .ref (am 25), .ref (am 26), .ref (am 27), .ref (am 28), .ref (am 29), .ref (am 30), .ref (am 31), .ref (am 32), .ref (am 33), .ref (am 34), .int zss, .int zsy, .int zpy, .int zfs, .int zls, .int (nI an), .ref (am 41), .ref (am 42), .ref (am 43), .ref (am 44), .ref (am 45), .ref (am 46), .ref (am 47), .ref (am 48), .ref (am 49), .ref (am 50), .int (nI zw), .ref (am 52), .ref (am 53)])), (am 4, .inl (cy 3, 600, .inl (mTape tb)))] := hD
        refine lv_aload_n hx hb dX12_scan_60 rfl (lv_at hl 0 rfl) ?_
        refine lv_aload_n hx hb dX12_scan_61 rfl (lv_at hl 0 rfl) ?_
        refine va_get (D := (dC, dI)) (ci := 12) (v := .int (nI i1)) (C := RX12) (T := TX12) (N := 53) hx hb hts hiX12 hown hK hP 0 rfl rfl 6 (by decide) hL2 (fun _ h9 => h9) rfl dX12_scan_62 ?_
        have hPc : va_P (dC, dI) vwCl [(am 0, .inr (12, [.ref (am 1), .ref (am 2), .ref (am 3), .ref (am 4), .int (nI tn), .int (nI zsz), .int (nI i1), .int (nI i1), .int zha, .int zva, .int fk, .int fp, .ref (am 13), .int (nI sn), .ref (am 15), .ref (am 16), .ref (am 17), .ref (am 18), .ref (am 19), .int (nI pn), .int (nI qn), .ref (am 22), .ref (am 23), .ref (am 24), .ref (am 25), .ref (am 26), .ref (am 27), .ref (am 28), .ref (am 29), .ref (am 30), .ref (am 31), .ref (am 32), .ref (am 33), .ref (am 34), .int zss, .int zsy, .int zpy, .int zfs, .int zls, .int (nI an), .ref (am 41), .ref (am 42), .ref (am 43), .ref (am 44), .ref (am 45), .ref (am 46), .ref (am 47), .ref (am 48), .ref (am 49), .ref (am 50), .int (nI zw), .ref (am 52), .ref (am 53)])), (am 4, .inl (cy 3, 600, .inl (mTape tb)))] H := hP.sub [0, 1] rfl
        refine vp_callSi (va_Run.run (va_runV (As := [.int (nI i1)]) (rest := []) ⟨hx, hb, hml, hown, hts⟩ (c_X12_byteAt l dC dI cy am tn zsz i1 i1 zha zva fk fp sn pn qn zss zsy zpy zfs zls an zw tb i1 (by first | assumption | omega) (by first | assumption | omega) (by first | assumption | omega)) (cwV 1 hts gX12_scan_X12_byteAt rfl rfl rfl (by decide +kernel) ⟨Nat.le_of_ble_eq_true rfl, Nat.le_of_ble_eq_true rfl⟩) ⟨fun a U g mk q => by obtain ⟨q0, qP, qK⟩ := q; exact ⟨q0, qP, va_K.moved (u := U) (U := U.calling g mk a) (Vm.Alike.refl U.vm) qK⟩, va_recv hK hPc (ci := 12) (q0 := 0) rfl rfl, fun U hU hW => ⟨rfl, by rw [hU]; exact hPc, va_K.moved hW.alike hK⟩⟩ rfl rfl hl.1 rfl (lv_room (Nat.le_of_ble_eq_true rfl)) dX12_scan_65 ⟨Nat.le_of_ble_eq_true rfl, Nat.le_of_ble_eq_true rfl⟩)) (fun r_1 hr_1 => ?_)
        rw [hr_1]
        refine lv_istore_n (lv' := [(1, .int (bAt tb zsz i1)), (0, .ref (am 0))]) hx hb dX12_scan_68 rfl hl (by decide) rfl (fun ls hl => ?_)
        refine lv_aload_n hx hb dX12_scan_69 rfl (lv_at hl 1 rfl) ?_
        refine va_get (D := (dC, dI)) (ci := 12) (v := .int (nI i1)) (C := RX12) (T := TX12) (N := 53) hx hb hts hiX12 hown hK hP 0 rfl rfl 6 (by decide) hL2 (fun _ h9 => h9) rfl dX12_scan_70 ?_
        refine lv_aload_n hx hb dX12_scan_73 rfl (lv_at hl 1 rfl) ?_
        refine va_get (D := (dC, dI)) (ci := 12) (v := .int (nI zsz)) (C := RX12) (T := TX12) (N := 53) hx hb hts hiX12 hown hK hP 0 rfl rfl 5 (by decide) hL1 (fun _ h9 => h9) rfl dX12_scan_74 ?_
        refine bw_icmp_ne (tgt := 88) (a := ((i1 : Nat) : Int)) (b := ((zsz : Nat) : Int)) hx hb dX12_scan_77 (by decide) (nI_toInt (by omega)) (nI_toInt (by omega)) (fun c_2 => ?_) (fun c_2 => ?_)
        · skip
          refine lv_iload_n hx hb dX12_scan_88 rfl (lv_at hl 0 rfl) ?_
          refine vp_callSi (va_Run.run (va_runS (As := [.int (bAt tb zsz i1)]) (rest := []) ⟨hx, hb, hml, hown, hts⟩ (c_X12_isSmall l dC dI cy (bAt tb zsz i1)) (va_cwS 1 hts gX12_scan_X12_isSmall rfl rfl rfl (by decide +kernel) ⟨Nat.le_of_ble_eq_true rfl, Nat.le_of_ble_eq_true rfl⟩) ⟨fun a U g mk q => q, fun U hU hW => ⟨rfl, trivial⟩⟩ rfl rfl hl.1 rfl (lv_room (Nat.le_of_ble_eq_true rfl)) dX12_scan_89 ⟨Nat.le_of_ble_eq_true rfl, Nat.le_of_ble_eq_true rfl⟩)) (fun r_3 hr_3 => ?_)
          refine bw_ifeqB (tgt := 130) hx hb dX12_scan_92 (by decide) hr_3 (fun q_n => ?_) (fun q_n => ?_)
          · skip
            have c_n : ¬ bSm tb zsz i1 := fun q => q_n (bAt_sm.mpr q)
            have hlt9 : i1 < zsz := by omega
            have hbi := bAt_in (tb := tb) hlt9
            refine lv_iload_n hx hb dX12_scan_130 rfl (lv_at hl 0 rfl) ?_
            refine vp_callSi (va_Run.run (va_runS (As := [.int (bAt tb zsz i1)]) (rest := []) ⟨hx, hb, hml, hown, hts⟩ (c_X12_isDigit l dC dI cy (bAt tb zsz i1)) (va_cwS 1 hts gX12_scan_X12_isDigit rfl rfl rfl (by decide +kernel) ⟨Nat.le_of_ble_eq_true rfl, Nat.le_of_ble_eq_true rfl⟩) ⟨fun a U g mk q => q, fun U hU hW => ⟨rfl, trivial⟩⟩ rfl rfl hl.1 rfl (lv_room (Nat.le_of_ble_eq_true rfl)) dX12_scan_131 ⟨Nat.le_of_ble_eq_true rfl, Nat.le_of_ble_eq_true rfl⟩)) (fun r_4 hr_4 => ?_)
            refine bw_ifeqB (tgt := 230) hx hb dX12_scan_134 (by decide) hr_4 (fun q_m => ?_) (fun q_m => ?_)
            · skip
              have c_m : ¬ bDg tb zsz i1 := fun q => q_m (bAt_dg.mpr q)
              refine lv_aload_n hx hb dX12_scan_230 rfl (lv_at hl 1 rfl) ?_
              refine lv_iload_n hx hb dX12_scan_231 rfl (lv_at hl 0 rfl) ?_
              refine bw_re (show (bAt tb zsz i1) = tb i1 from hbi) ?_
              refine lv_bipush (v := 59) hx hb dX12_scan_232 (by decide) ?_
              refine bw_icmp_ne (tgt := 241) (a := (tb i1).toInt) (b := 59) hx hb dX12_scan_234 (by decide) rfl rfl (fun c_5 => ?_) (fun c_5 => ?_)
              · skip
                refine lv_iconst (v := 4) hx hb dX12_scan_241 (by decide) ?_
                refine va_put (D := (dC, dI)) (ci := 12) (v := .int 4) (ty := (tyX12 8)) (C := RX12) (T := TX12) (N := 53) hx hb hts hiX12 tyX12 tyX12_ok nmX12 hown hK hP hD hS 0 rfl rfl 8 (by decide) hL3 (fun _ h9 => h9) rfl (by decide +kernel) rfl rfl (Nat.le_of_ble_eq_true rfl) dX12_scan_242 (fun H locs hP hD hS => ?_)
                have hP : va_P (dC, dI) vwCl [(am 0, .inr (12, [.ref (am 1), .ref (am 2), .ref (am 3), .ref (am 4), .int (nI tn), .int (nI zsz), .int (nI i1), .int (nI i1), .int 4, .int zva, .int fk, .int fp, .ref (am 13), .int (nI sn), .ref (am 15), .ref (am 16), .ref (am 17), .ref (am 18), .ref (am 19), .int (nI pn), .int (nI qn), .ref (am 22), .ref (am 23), .ref (am 24), .ref (am 25), .ref (am 26), .ref (am 27), .ref (am 28), .ref (am 29), .ref (am 30), .ref (am 31), .ref (am 32), .ref (am 33), .ref (am 34), .int zss, .int zsy, .int zpy, .int zfs, .int zls, .int (nI an), .ref (am 41), .ref (am 42), .ref (am 43), .ref (am 44), .ref (am 45), .ref (am 46), .ref (am 47), .ref (am 48), .ref (am 49), .ref (am 50), .int (nI zw), .ref (am 52), .ref (am 53)])), (am 4, .inl (cy 3, 600, .inl (mTape tb)))] H := hP
                have hD : va_D A [(am 0, .inr (12, [.ref (am 1), .ref (am 2), .ref (am 3), .ref (am 4), .int (nI tn), .int (nI zsz), .int (nI i1), .int (nI i1), .int 4, .int zva, .int fk, .int fp, .ref (am 13), .int (nI sn), .ref (am 15), .ref (am 16), .ref (am 17), .ref (am 18), .ref (am 19), .int (nI pn), .int (nI qn), .ref (am 22), .ref (am 23), .ref (am 24), .ref (am 25), .ref (am 26), .ref (am 27), .ref (am 28), .ref (am 29), .ref (am 30), .ref (am 31), .ref (am 32), .ref (am 33), .ref (am 34), .int zss, .int zsy, .int zpy, .int zfs, .int zls, .int (nI an), .ref (am 41), .ref (am 42), .ref (am 43), .ref (am 44), .ref (am 45), .ref (am 46), .ref (am 47), .ref (am 48), .ref (am 49), .ref (am 50), .int (nI zw), .ref (am 52), .ref (am 53)])), (am 4, .inl (cy 3, 600, .inl (mTape tb)))] := hD
                refine lv_aload_n hx hb dX12_scan_245 rfl (lv_at hl 1 rfl) ?_
                refine lv_dup hx hb dX12_scan_246 rfl ?_
                refine va_get (D := (dC, dI)) (ci := 12) (v := .int (nI i1)) (C := RX12) (T := TX12) (N := 53) hx hb hts hiX12 hown hK hP 0 rfl rfl 7 (by decide) hL0 (fun _ h9 => h9) rfl dX12_scan_247 ?_
                refine lv_iconst (v := 1) hx hb dX12_scan_250 (by decide) ?_
                refine lv_iadd hx hb dX12_scan_251 ?_
                refine bw_re (show (nI i1) + 1 = nI (i1 + 1) from nI_add (i1) (1)) ?_
                refine va_put (D := (dC, dI)) (ci := 12) (v := .int (nI (i1 + 1))) (ty := (tyX12 7)) (C := RX12) (T := TX12) (N := 53) hx hb hts hiX12 tyX12 tyX12_ok nmX12 hown hK hP hD hS 0 rfl rfl 7 (by decide) hL0 (fun _ h9 => h9) rfl (by decide +kernel) rfl rfl (Nat.le_of_ble_eq_true rfl) dX12_scan_252 (fun H locs hP hD hS => ?_)
                have hP : va_P (dC, dI) vwCl [(am 0, .inr (12, [.ref (am 1), .ref (am 2), .ref (am 3), .ref (am 4), .int (nI tn), .int (nI zsz), .int (nI i1), .int (nI (i1 + 1)), .int 4, .int zva, .int fk, .int fp, .ref (am 13), .int (nI sn), .ref (am 15), .ref (am 16), .ref (am 17), .ref (am 18), .ref (am 19), .int (nI pn), .int (nI qn), .ref (am 22), .ref (am 23), .ref (am 24), .ref (am 25), .ref (am 26), .ref (am 27), .ref (am 28), .ref (am 29), .ref (am 30), .ref (am 31), .ref (am 32), .ref (am 33), .ref (am 34), .int zss, .int zsy, .int zpy, .int zfs, .int zls, .int (nI an), .ref (am 41), .ref (am 42), .ref (am 43), .ref (am 44), .ref (am 45), .ref (am 46), .ref (am 47), .ref (am 48), .ref (am 49), .ref (am 50), .int (nI zw), .ref (am 52), .ref (am 53)])), (am 4, .inl (cy 3, 600, .inl (mTape tb)))] H := hP
                have hD : va_D A [(am 0, .inr (12, [.ref (am 1), .ref (am 2), .ref (am 3), .ref (am 4), .int (nI tn), .int (nI zsz), .int (nI i1), .int (nI (i1 + 1)), .int 4, .int zva, .int fk, .int fp, .ref (am 13), .int (nI sn), .ref (am 15), .ref (am 16), .ref (am 17), .ref (am 18), .ref (am 19), .int (nI pn), .int (nI qn), .ref (am 22), .ref (am 23), .ref (am 24), .ref (am 25), .ref (am 26), .ref (am 27), .ref (am 28), .ref (am 29), .ref (am 30), .ref (am 31), .ref (am 32), .ref (am 33), .ref (am 34), .int zss, .int zsy, .int zpy, .int zfs, .int zls, .int (nI an), .ref (am 41), .ref (am 42), .ref (am 43), .ref (am 44), .ref (am 45), .ref (am 46), .ref (am 47), .ref (am 48), .ref (am 49), .ref (am 50), .int (nI zw), .ref (am 52), .ref (am 53)])), (am 4, .inl (cy 3, 600, .inl (mTape tb)))] := hD
                refine bw_Qe hQ ?_
                have hP9 : va_P (dC, dI) vwCl [(am 0, .inr (12, [.ref (am 1), .ref (am 2), .ref (am 3), .ref (am 4), .int (nI tn), .int (nI zsz), .int (nI i1), .int (nI (i1 + 1)), .int 4, .int zva, .int fk, .int fp, .ref (am 13), .int (nI sn), .ref (am 15), .ref (am 16), .ref (am 17), .ref (am 18), .ref (am 19), .int (nI pn), .int (nI qn), .ref (am 22), .ref (am 23), .ref (am 24), .ref (am 25), .ref (am 26), .ref (am 27), .ref (am 28), .ref (am 29), .ref (am 30), .ref (am 31), .ref (am 32), .ref (am 33), .ref (am 34), .int zss, .int zsy, .int zpy, .int zfs, .int zls, .int (nI an), .ref (am 41), .ref (am 42), .ref (am 43), .ref (am 44), .ref (am 45), .ref (am 46), .ref (am 47), .ref (am 48), .ref (am 49), .ref (am 50), .int (nI zw), .ref (am 52), .ref (am 53)])), (am 4, .inl (cy 3, 600, .inl (mTape tb)))] H := hP.sub [0, 1] rfl
                have hD9 : va_D A [(am 0, .inr (12, [.ref (am 1), .ref (am 2), .ref (am 3), .ref (am 4), .int (nI tn), .int (nI zsz), .int (nI i1), .int (nI (i1 + 1)), .int 4, .int zva, .int fk, .int fp, .ref (am 13), .int (nI sn), .ref (am 15), .ref (am 16), .ref (am 17), .ref (am 18), .ref (am 19), .int (nI pn), .int (nI qn), .ref (am 22), .ref (am 23), .ref (am 24), .ref (am 25), .ref (am 26), .ref (am 27), .ref (am 28), .ref (am 29), .ref (am 30), .ref (am 31), .ref (am 32), .ref (am 33), .ref (am 34), .int zss, .int zsy, .int zpy, .int zfs, .int zls, .int (nI an), .ref (am 41), .ref (am 42), .ref (am 43), .ref (am 44), .ref (am 45), .ref (am 46), .ref (am 47), .ref (am 48), .ref (am 49), .ref (am 50), .int (nI zw), .ref (am 52), .ref (am 53)])), (am 4, .inl (cy 3, 600, .inl (mTape tb)))] := hD.sub [0, 1] (by decide) rfl
                have hpost : scP tb zsz zbe i1 (i1 + 1) (4 : Int32).toInt zva.toInt := by
                  first
                    | exact scP_of (tp_n hr2 (by omega)) (ti_end (by omega))
                    | exact scP_of (tp_e hr2 (by omega) (by omega) (by omega) (te_o c_n c_m)) (ti_o3 (by omega) c_n c_m (by omega))
                    | exact scP_of (tp_e hr2 (by omega) (by omega) (by omega) (te_o c_n c_m)) (ti_o4 (by omega) c_n c_m (by omega))
                    | (have hne : i1 ≠ j := fun q => c_e (q ▸ c_n)
                       exact scP_of (tp_e hr2 (by omega) (by omega) (by omega) (te_s c_n hr3 c_e)) (ti_sm c_n))
                    | (have hne : i1 ≠ j := fun q => c_e (q ▸ c_m)
                       exact scP_of (tp_e hr2 (by omega) (by omega) (by omega) (te_d c_m hr3 c_e)) (ti_d2 c_m (by omega) (hz (by omega))))
                    | (have hne : i1 ≠ j := fun q => c_e (q ▸ c_m)
                       exact scP_of (tp_e hr2 (by omega) (by omega) (by omega) (te_d c_m hr3 c_e)) (ti_d4 c_m (by omega)))
                exact W.vret hx hb hr (fun t9 ht hW => ⟨⟨(i1, i1 + 1, 4, zva), rfl, hpost, by rw [ht]; exact hP9, va_K.moved hW.alike hK, hD9⟩, hS.F ht⟩) hS.2.2 dX12_scan_255
              · skip
                refine lv_iconst (v := 3) hx hb dX12_scan_237 (by decide) ?_
                refine lv_goto (tgt := 242) hx hb dX12_scan_238 (by decide) ?_
                refine va_put (D := (dC, dI)) (ci := 12) (v := .int 3) (ty := (tyX12 8)) (C := RX12) (T := TX12) (N := 53) hx hb hts hiX12 tyX12 tyX12_ok nmX12 hown hK hP hD hS 0 rfl rfl 8 (by decide) hL3 (fun _ h9 => h9) rfl (by decide +kernel) rfl rfl (Nat.le_of_ble_eq_true rfl) dX12_scan_242 (fun H locs hP hD hS => ?_)
                have hP : va_P (dC, dI) vwCl [(am 0, .inr (12, [.ref (am 1), .ref (am 2), .ref (am 3), .ref (am 4), .int (nI tn), .int (nI zsz), .int (nI i1), .int (nI i1), .int 3, .int zva, .int fk, .int fp, .ref (am 13), .int (nI sn), .ref (am 15), .ref (am 16), .ref (am 17), .ref (am 18), .ref (am 19), .int (nI pn), .int (nI qn), .ref (am 22), .ref (am 23), .ref (am 24), .ref (am 25), .ref (am 26), .ref (am 27), .ref (am 28), .ref (am 29), .ref (am 30), .ref (am 31), .ref (am 32), .ref (am 33), .ref (am 34), .int zss, .int zsy, .int zpy, .int zfs, .int zls, .int (nI an), .ref (am 41), .ref (am 42), .ref (am 43), .ref (am 44), .ref (am 45), .ref (am 46), .ref (am 47), .ref (am 48), .ref (am 49), .ref (am 50), .int (nI zw), .ref (am 52), .ref (am 53)])), (am 4, .inl (cy 3, 600, .inl (mTape tb)))] H := hP
                have hD : va_D A [(am 0, .inr (12, [.ref (am 1), .ref (am 2), .ref (am 3), .ref (am 4), .int (nI tn), .int (nI zsz), .int (nI i1), .int (nI i1), .int 3, .int zva, .int fk, .int fp, .ref (am 13), .int (nI sn), .ref (am 15), .ref (am 16), .ref (am 17), .ref (am 18), .ref (am 19), .int (nI pn), .int (nI qn), .ref (am 22), .ref (am 23), .ref (am 24), .ref (am 25), .ref (am 26), .ref (am 27), .ref (am 28), .ref (am 29), .ref (am 30), .ref (am 31), .ref (am 32), .ref (am 33), .ref (am 34), .int zss, .int zsy, .int zpy, .int zfs, .int zls, .int (nI an), .ref (am 41), .ref (am 42), .ref (am 43), .ref (am 44), .ref (am 45), .ref (am 46), .ref (am 47), .ref (am 48), .ref (am 49), .ref (am 50), .int (nI zw), .ref (am 52), .ref (am 53)])), (am 4, .inl (cy 3, 600, .inl (mTape tb)))] := hD
                refine lv_aload_n hx hb dX12_scan_245 rfl (lv_at hl 1 rfl) ?_
                refine lv_dup hx hb dX12_scan_246 rfl ?_
                refine va_get (D := (dC, dI)) (ci := 12) (v := .int (nI i1)) (C := RX12) (T := TX12) (N := 53) hx hb hts hiX12 hown hK hP 0 rfl rfl 7 (by decide) hL0 (fun _ h9 => h9) rfl dX12_scan_247 ?_
                refine lv_iconst (v := 1) hx hb dX12_scan_250 (by decide) ?_
                refine lv_iadd hx hb dX12_scan_251 ?_
                refine bw_re (show (nI i1) + 1 = nI (i1 + 1) from nI_add (i1) (1)) ?_
                refine va_put (D := (dC, dI)) (ci := 12) (v := .int (nI (i1 + 1))) (ty := (tyX12 7)) (C := RX12) (T := TX12) (N := 53) hx hb hts hiX12 tyX12 tyX12_ok nmX12 hown hK hP hD hS 0 rfl rfl 7 (by decide) hL0 (fun _ h9 => h9) rfl (by decide +kernel) rfl rfl (Nat.le_of_ble_eq_true rfl) dX12_scan_252 (fun H locs hP hD hS => ?_)
                have hP : va_P (dC, dI) vwCl [(am 0, .inr (12, [.ref (am 1), .ref (am 2), .ref (am 3), .ref (am 4), .int (nI tn), .int (nI zsz), .int (nI i1), .int (nI (i1 + 1)), .int 3, .int zva, .int fk, .int fp, .ref (am 13), .int (nI sn), .ref (am 15), .ref (am 16), .ref (am 17), .ref (am 18), .ref (am 19), .int (nI pn), .int (nI qn), .ref (am 22), .ref (am 23), .ref (am 24), .ref (am 25), .ref (am 26), .ref (am 27), .ref (am 28), .ref (am 29), .ref (am 30), .ref (am 31), .ref (am 32), .ref (am 33), .ref (am 34), .int zss, .int zsy, .int zpy, .int zfs, .int zls, .int (nI an), .ref (am 41), .ref (am 42), .ref (am 43), .ref (am 44), .ref (am 45), .ref (am 46), .ref (am 47), .ref (am 48), .ref (am 49), .ref (am 50), .int (nI zw), .ref (am 52), .ref (am 53)])), (am 4, .inl (cy 3, 600, .inl (mTape tb)))] H := hP
                have hD : va_D A [(am 0, .inr (12, [.ref (am 1), .ref (am 2), .ref (am 3), .ref (am 4), .int (nI tn), .int (nI zsz), .int (nI i1), .int (nI (i1 + 1)), .int 3, .int zva, .int fk, .int fp, .ref (am 13), .int (nI sn), .ref (am 15), .ref (am 16), .ref (am 17), .ref (am 18), .ref (am 19), .int (nI pn), .int (nI qn), .ref (am 22), .ref (am 23), .ref (am 24), .ref (am 25), .ref (am 26), .ref (am 27), .ref (am 28), .ref (am 29), .ref (am 30), .ref (am 31), .ref (am 32), .ref (am 33), .ref (am 34), .int zss, .int zsy, .int zpy, .int zfs, .int zls, .int (nI an), .ref (am 41), .ref (am 42), .ref (am 43), .ref (am 44), .ref (am 45), .ref (am 46), .ref (am 47), .ref (am 48), .ref (am 49), .ref (am 50), .int (nI zw), .ref (am 52), .ref (am 53)])), (am 4, .inl (cy 3, 600, .inl (mTape tb)))] := hD
                refine bw_Qe hQ ?_
                have hP9 : va_P (dC, dI) vwCl [(am 0, .inr (12, [.ref (am 1), .ref (am 2), .ref (am 3), .ref (am 4), .int (nI tn), .int (nI zsz), .int (nI i1), .int (nI (i1 + 1)), .int 3, .int zva, .int fk, .int fp, .ref (am 13), .int (nI sn), .ref (am 15), .ref (am 16), .ref (am 17), .ref (am 18), .ref (am 19), .int (nI pn), .int (nI qn), .ref (am 22), .ref (am 23), .ref (am 24), .ref (am 25), .ref (am 26), .ref (am 27), .ref (am 28), .ref (am 29), .ref (am 30), .ref (am 31), .ref (am 32), .ref (am 33), .ref (am 34), .int zss, .int zsy, .int zpy, .int zfs, .int zls, .int (nI an), .ref (am 41), .ref (am 42), .ref (am 43), .ref (am 44), .ref (am 45), .ref (am 46), .ref (am 47), .ref (am 48), .ref (am 49), .ref (am 50), .int (nI zw), .ref (am 52), .ref (am 53)])), (am 4, .inl (cy 3, 600, .inl (mTape tb)))] H := hP.sub [0, 1] rfl
                have hD9 : va_D A [(am 0, .inr (12, [.ref (am 1), .ref (am 2), .ref (am 3), .ref (am 4), .int (nI tn), .int (nI zsz), .int (nI i1), .int (nI (i1 + 1)), .int 3, .int zva, .int fk, .int fp, .ref (am 13), .int (nI sn), .ref (am 15), .ref (am 16), .ref (am 17), .ref (am 18), .ref (am 19), .int (nI pn), .int (nI qn), .ref (am 22), .ref (am 23), .ref (am 24), .ref (am 25), .ref (am 26), .ref (am 27), .ref (am 28), .ref (am 29), .ref (am 30), .ref (am 31), .ref (am 32), .ref (am 33), .ref (am 34), .int zss, .int zsy, .int zpy, .int zfs, .int zls, .int (nI an), .ref (am 41), .ref (am 42), .ref (am 43), .ref (am 44), .ref (am 45), .ref (am 46), .ref (am 47), .ref (am 48), .ref (am 49), .ref (am 50), .int (nI zw), .ref (am 52), .ref (am 53)])), (am 4, .inl (cy 3, 600, .inl (mTape tb)))] := hD.sub [0, 1] (by decide) rfl
                have hpost : scP tb zsz zbe i1 (i1 + 1) (3 : Int32).toInt zva.toInt := by
                  first
                    | exact scP_of (tp_n hr2 (by omega)) (ti_end (by omega))
                    | exact scP_of (tp_e hr2 (by omega) (by omega) (by omega) (te_o c_n c_m)) (ti_o3 (by omega) c_n c_m (by omega))
                    | exact scP_of (tp_e hr2 (by omega) (by omega) (by omega) (te_o c_n c_m)) (ti_o4 (by omega) c_n c_m (by omega))
                    | (have hne : i1 ≠ j := fun q => c_e (q ▸ c_n)
                       exact scP_of (tp_e hr2 (by omega) (by omega) (by omega) (te_s c_n hr3 c_e)) (ti_sm c_n))
                    | (have hne : i1 ≠ j := fun q => c_e (q ▸ c_m)
                       exact scP_of (tp_e hr2 (by omega) (by omega) (by omega) (te_d c_m hr3 c_e)) (ti_d2 c_m (by omega) (hz (by omega))))
                    | (have hne : i1 ≠ j := fun q => c_e (q ▸ c_m)
                       exact scP_of (tp_e hr2 (by omega) (by omega) (by omega) (te_d c_m hr3 c_e)) (ti_d4 c_m (by omega)))
                exact W.vret hx hb hr (fun t9 ht hW => ⟨⟨(i1, i1 + 1, 3, zva), rfl, hpost, by rw [ht]; exact hP9, va_K.moved hW.alike hK, hD9⟩, hS.F ht⟩) hS.2.2 dX12_scan_255
            · skip
              have c_m : bDg tb zsz i1 := bAt_dg.mp q_m
              refine lv_aload_n hx hb dX12_scan_137 rfl (lv_at hl 1 rfl) ?_
              refine lv_iconst (v := 0) hx hb dX12_scan_138 (by decide) ?_
              refine va_put (D := (dC, dI)) (ci := 12) (v := .int 0) (ty := (tyX12 9)) (C := RX12) (T := TX12) (N := 53) hx hb hts hiX12 tyX12 tyX12_ok nmX12 hown hK hP hD hS 0 rfl rfl 9 (by decide) hL4 (fun _ h9 => h9) rfl (by decide +kernel) rfl rfl (Nat.le_of_ble_eq_true rfl) dX12_scan_139 (fun H locs hP hD hS => ?_)
              have hP : va_P (dC, dI) vwCl [(am 0, .inr (12, [.ref (am 1), .ref (am 2), .ref (am 3), .ref (am 4), .int (nI tn), .int (nI zsz), .int (nI i1), .int (nI i1), .int zha, .int 0, .int fk, .int fp, .ref (am 13), .int (nI sn), .ref (am 15), .ref (am 16), .ref (am 17), .ref (am 18), .ref (am 19), .int (nI pn), .int (nI qn), .ref (am 22), .ref (am 23), .ref (am 24), .ref (am 25), .ref (am 26), .ref (am 27), .ref (am 28), .ref (am 29), .ref (am 30), .ref (am 31), .ref (am 32), .ref (am 33), .ref (am 34), .int zss, .int zsy, .int zpy, .int zfs, .int zls, .int (nI an), .ref (am 41), .ref (am 42), .ref (am 43), .ref (am 44), .ref (am 45), .ref (am 46), .ref (am 47), .ref (am 48), .ref (am 49), .ref (am 50), .int (nI zw), .ref (am 52), .ref (am 53)])), (am 4, .inl (cy 3, 600, .inl (mTape tb)))] H := hP
              have hD : va_D A [(am 0, .inr (12, [.ref (am 1), .ref (am 2), .ref (am 3), .ref (am 4), .int (nI tn), .int (nI zsz), .int (nI i1), .int (nI i1), .int zha, .int 0, .int fk, .int fp, .ref (am 13), .int (nI sn), .ref (am 15), .ref (am 16), .ref (am 17), .ref (am 18), .ref (am 19), .int (nI pn), .int (nI qn), .ref (am 22), .ref (am 23), .ref (am 24), .ref (am 25), .ref (am 26), .ref (am 27), .ref (am 28), .ref (am 29), .ref (am 30), .ref (am 31), .ref (am 32), .ref (am 33), .ref (am 34), .int zss, .int zsy, .int zpy, .int zfs, .int zls, .int (nI an), .ref (am 41), .ref (am 42), .ref (am 43), .ref (am 44), .ref (am 45), .ref (am 46), .ref (am 47), .ref (am 48), .ref (am 49), .ref (am 50), .int (nI zw), .ref (am 52), .ref (am 53)])), (am 4, .inl (cy 3, 600, .inl (mTape tb)))] := hD
              have L_142 : ∀ (n9 : Nat), ∀ (j : Nat) (z : Int32), (zsz - j) < n9 → (j ≤ zsz) → (toRun (bDg tb zsz) i1 j) → (j ≤ i1 + 4 → z.toInt = vN tb i1 (j - i1)) → (0 ≤ z.toInt ∧ z.toInt ≤ 9999) → ∀ (H : Heap) (locs : List Loc), va_P (dC, dI) vwCl [(am 0, .inr (12, [.ref (am 1), .ref (am 2), .ref (am 3), .ref (am 4), .int (nI tn), .int (nI zsz), .int (nI i1), .int (nI j), .int zha, .int z, .int fk, .int fp, .ref (am 13), .int (nI sn), .ref (am 15), .ref (am 16), .ref (am 17), .ref (am 18), .ref (am 19), .int (nI pn), .int (nI qn), .ref (am 22), .ref (am 23), .ref (am 24), .ref (am 25), .ref (am 26), .ref (am 27), .ref (am 28), .ref (am 29), .ref (am 30), .ref (am 31), .ref (am 32), .ref (am 33), .ref (am 34), .int zss, .int zsy, .int zpy, .int zfs, .int zls, .int (nI an), .ref (am 41), .ref (am 42), .ref (am 43), .ref (am 44), .ref (am 45), .ref (am 46), .ref (am 47), .ref (am 48), .ref (am 49), .ref (am 50), .int (nI zw), .ref (am 52), .ref (am 53)])), (am 4, .inl (cy 3, 600, .inl (mTape tb)))] H → va_D A [(am 0, .inr (12, [.ref (am 1), .ref (am 2), .ref (am 3), .ref (am 4), .int (nI tn), .int (nI zsz), .int (nI i1), .int (nI j), .int zha, .int z, .int fk, .int fp, .ref (am 13), .int (nI sn), .ref (am 15), .ref (am 16), .ref (am 17), .ref (am 18), .ref (am 19), .int (nI pn), .int (nI qn), .ref (am 22), .ref (am 23), .ref (am 24), .ref (am 25), .ref (am 26), .ref (am 27), .ref (am 28), .ref (am 29), .ref (am 30), .ref (am 31), .ref (am 32), .ref (am 33), .ref (am 34), .int zss, .int zsy, .int zpy, .int zfs, .int zls, .int (nI an), .ref (am 41), .ref (am 42), .ref (am 43), .ref (am 44), .ref (am 45), .ref (am 46), .ref (am 47), .ref (am 48), .ref (am 49), .ref (am 50), .int (nI zw), .ref (am 52), .ref (am 53)])), (am 4, .inl (cy 3, 600, .inl (mTape tb)))] → va_S A ss.heap H locs → ∀ (ls : Array Slot), lv_has ls 2 [(0, .ref (am 0))] → W pp l ee { frames := 1, cells := 0, slots := 0, locals := 21 } ss mm (List.toArray [Value.ref (am 0)]) below meth cc0 H locs 0 0 Q (F0 mm 142 ls []) := by
                intro n9
                induction n9 with
                | zero => intro j z hm9; exact absurd hm9 (Nat.not_lt_zero _)
                | succ n9 ih142 =>
                  intro j z hm142 hj1 hr3 hz hz0
                  intro H locs hP hD hS
                  intro ls hl
                  have hj0 := hr3.1
                  refine lv_aload_n hx hb dX12_scan_142 rfl (lv_at hl 0 rfl) ?_
                  refine lv_aload_n hx hb dX12_scan_143 rfl (lv_at hl 0 rfl) ?_
                  refine va_get (D := (dC, dI)) (ci := 12) (v := .int (nI j)) (C := RX12) (T := TX12) (N := 53) hx hb hts hiX12 hown hK hP 0 rfl rfl 7 (by decide) hL0 (fun _ h9 => h9) rfl dX12_scan_144 ?_
                  have hPc : va_P (dC, dI) vwCl [(am 0, .inr (12, [.ref (am 1), .ref (am 2), .ref (am 3), .ref (am 4), .int (nI tn), .int (nI zsz), .int (nI i1), .int (nI j), .int zha, .int z, .int fk, .int fp, .ref (am 13), .int (nI sn), .ref (am 15), .ref (am 16), .ref (am 17), .ref (am 18), .ref (am 19), .int (nI pn), .int (nI qn), .ref (am 22), .ref (am 23), .ref (am 24), .ref (am 25), .ref (am 26), .ref (am 27), .ref (am 28), .ref (am 29), .ref (am 30), .ref (am 31), .ref (am 32), .ref (am 33), .ref (am 34), .int zss, .int zsy, .int zpy, .int zfs, .int zls, .int (nI an), .ref (am 41), .ref (am 42), .ref (am 43), .ref (am 44), .ref (am 45), .ref (am 46), .ref (am 47), .ref (am 48), .ref (am 49), .ref (am 50), .int (nI zw), .ref (am 52), .ref (am 53)])), (am 4, .inl (cy 3, 600, .inl (mTape tb)))] H := hP.sub [0, 1] rfl
                  refine vp_callSi (va_Run.run (va_runV (As := [.int (nI j)]) (rest := []) ⟨hx, hb, hml, hown, hts⟩ (c_X12_byteAt l dC dI cy am tn zsz i1 j zha z fk fp sn pn qn zss zsy zpy zfs zls an zw tb j (by first | assumption | omega) (by first | assumption | omega) (by first | assumption | omega)) (cwV 1 hts gX12_scan_X12_byteAt rfl rfl rfl (by decide +kernel) ⟨Nat.le_of_ble_eq_true rfl, Nat.le_of_ble_eq_true rfl⟩) ⟨fun a U g mk q => by obtain ⟨q0, qP, qK⟩ := q; exact ⟨q0, qP, va_K.moved (u := U) (U := U.calling g mk a) (Vm.Alike.refl U.vm) qK⟩, va_recv hK hPc (ci := 12) (q0 := 0) rfl rfl, fun U hU hW => ⟨rfl, by rw [hU]; exact hPc, va_K.moved hW.alike hK⟩⟩ rfl rfl hl.1 rfl (lv_room (Nat.le_of_ble_eq_true rfl)) dX12_scan_147 ⟨Nat.le_of_ble_eq_true rfl, Nat.le_of_ble_eq_true rfl⟩)) (fun r_6 hr_6 => ?_)
                  rw [hr_6]
                  refine vp_callSi (va_Run.run (va_runS (As := [.int (bAt tb zsz j)]) (rest := []) ⟨hx, hb, hml, hown, hts⟩ (c_X12_isDigit l dC dI cy (bAt tb zsz j)) (va_cwS 1 hts gX12_scan_X12_isDigit rfl rfl rfl (by decide +kernel) ⟨Nat.le_of_ble_eq_true rfl, Nat.le_of_ble_eq_true rfl⟩) ⟨fun a U g mk q => q, fun U hU hW => ⟨rfl, trivial⟩⟩ rfl rfl hl.1 rfl (lv_room (Nat.le_of_ble_eq_true rfl)) dX12_scan_150 ⟨Nat.le_of_ble_eq_true rfl, Nat.le_of_ble_eq_true rfl⟩)) (fun r_7 hr_7 => ?_)
                  refine bw_ifeqB (tgt := 205) hx hb dX12_scan_153 (by decide) hr_7 (fun q_s => ?_) (fun q_s => ?_)
                  · skip
                    have c_e : ¬ bDg tb zsz j := fun q => q_s (bAt_dg.mpr q)
                    refine lv_aload_n hx hb dX12_scan_205 rfl (lv_at hl 0 rfl) ?_
                    refine lv_aload_n hx hb dX12_scan_206 rfl (lv_at hl 0 rfl) ?_
                    refine va_get (D := (dC, dI)) (ci := 12) (v := .int (nI j)) (C := RX12) (T := TX12) (N := 53) hx hb hts hiX12 hown hK hP 0 rfl rfl 7 (by decide) hL0 (fun _ h9 => h9) rfl dX12_scan_207 ?_
                    refine lv_aload_n hx hb dX12_scan_210 rfl (lv_at hl 0 rfl) ?_
                    refine va_get (D := (dC, dI)) (ci := 12) (v := .int (nI i1)) (C := RX12) (T := TX12) (N := 53) hx hb hts hiX12 hown hK hP 0 rfl rfl 6 (by decide) hL2 (fun _ h9 => h9) rfl dX12_scan_211 ?_
                    refine lv_isub hx hb dX12_scan_214 ?_
                    refine bw_re (show (nI j) - (nI i1) = nI (j - i1) from pk_sub (a := j) (b := i1) (by omega)) ?_
                    refine lv_iconst (v := 4) hx hb dX12_scan_215 (by decide) ?_
                    refine bw_icmp_le (tgt := 223) (a := ((j - i1 : Nat) : Int)) (b := 4) hx hb dX12_scan_216 (by decide) (nI_toInt (by omega)) rfl (fun c_8 => ?_) (fun c_8 => ?_)
                    · skip
                      refine lv_iconst (v := 2) hx hb dX12_scan_223 (by decide) ?_
                      refine va_put (D := (dC, dI)) (ci := 12) (v := .int 2) (ty := (tyX12 8)) (C := RX12) (T := TX12) (N := 53) hx hb hts hiX12 tyX12 tyX12_ok nmX12 hown hK hP hD hS 0 rfl rfl 8 (by decide) hL3 (fun _ h9 => h9) rfl (by decide +kernel) rfl rfl (Nat.le_of_ble_eq_true rfl) dX12_scan_224 (fun H locs hP hD hS => ?_)
                      have hP : va_P (dC, dI) vwCl [(am 0, .inr (12, [.ref (am 1), .ref (am 2), .ref (am 3), .ref (am 4), .int (nI tn), .int (nI zsz), .int (nI i1), .int (nI j), .int 2, .int z, .int fk, .int fp, .ref (am 13), .int (nI sn), .ref (am 15), .ref (am 16), .ref (am 17), .ref (am 18), .ref (am 19), .int (nI pn), .int (nI qn), .ref (am 22), .ref (am 23), .ref (am 24), .ref (am 25), .ref (am 26), .ref (am 27), .ref (am 28), .ref (am 29), .ref (am 30), .ref (am 31), .ref (am 32), .ref (am 33), .ref (am 34), .int zss, .int zsy, .int zpy, .int zfs, .int zls, .int (nI an), .ref (am 41), .ref (am 42), .ref (am 43), .ref (am 44), .ref (am 45), .ref (am 46), .ref (am 47), .ref (am 48), .ref (am 49), .ref (am 50), .int (nI zw), .ref (am 52), .ref (am 53)])), (am 4, .inl (cy 3, 600, .inl (mTape tb)))] H := hP
                      have hD : va_D A [(am 0, .inr (12, [.ref (am 1), .ref (am 2), .ref (am 3), .ref (am 4), .int (nI tn), .int (nI zsz), .int (nI i1), .int (nI j), .int 2, .int z, .int fk, .int fp, .ref (am 13), .int (nI sn), .ref (am 15), .ref (am 16), .ref (am 17), .ref (am 18), .ref (am 19), .int (nI pn), .int (nI qn), .ref (am 22), .ref (am 23), .ref (am 24), .ref (am 25), .ref (am 26), .ref (am 27), .ref (am 28), .ref (am 29), .ref (am 30), .ref (am 31), .ref (am 32), .ref (am 33), .ref (am 34), .int zss, .int zsy, .int zpy, .int zfs, .int zls, .int (nI an), .ref (am 41), .ref (am 42), .ref (am 43), .ref (am 44), .ref (am 45), .ref (am 46), .ref (am 47), .ref (am 48), .ref (am 49), .ref (am 50), .int (nI zw), .ref (am 52), .ref (am 53)])), (am 4, .inl (cy 3, 600, .inl (mTape tb)))] := hD
                      refine lv_goto (tgt := 255) hx hb dX12_scan_227 (by decide) ?_
                      refine bw_Qe hQ ?_
                      have hP9 : va_P (dC, dI) vwCl [(am 0, .inr (12, [.ref (am 1), .ref (am 2), .ref (am 3), .ref (am 4), .int (nI tn), .int (nI zsz), .int (nI i1), .int (nI j), .int 2, .int z, .int fk, .int fp, .ref (am 13), .int (nI sn), .ref (am 15), .ref (am 16), .ref (am 17), .ref (am 18), .ref (am 19), .int (nI pn), .int (nI qn), .ref (am 22), .ref (am 23), .ref (am 24), .ref (am 25), .ref (am 26), .ref (am 27), .ref (am 28), .ref (am 29), .ref (am 30), .ref (am 31), .ref (am 32), .ref (am 33), .ref (am 34), .int zss, .int zsy, .int zpy, .int zfs, .int zls, .int (nI an), .ref (am 41), .ref (am 42), .ref (am 43), .ref (am 44), .ref (am 45), .ref (am 46), .ref (am 47), .ref (am 48), .ref (am 49), .ref (am 50), .int (nI zw), .ref (am 52), .ref (am 53)])), (am 4, .inl (cy 3, 600, .inl (mTape tb)))] H := hP.sub [0, 1] rfl
                      have hD9 : va_D A [(am 0, .inr (12, [.ref (am 1), .ref (am 2), .ref (am 3), .ref (am 4), .int (nI tn), .int (nI zsz), .int (nI i1), .int (nI j), .int 2, .int z, .int fk, .int fp, .ref (am 13), .int (nI sn), .ref (am 15), .ref (am 16), .ref (am 17), .ref (am 18), .ref (am 19), .int (nI pn), .int (nI qn), .ref (am 22), .ref (am 23), .ref (am 24), .ref (am 25), .ref (am 26), .ref (am 27), .ref (am 28), .ref (am 29), .ref (am 30), .ref (am 31), .ref (am 32), .ref (am 33), .ref (am 34), .int zss, .int zsy, .int zpy, .int zfs, .int zls, .int (nI an), .ref (am 41), .ref (am 42), .ref (am 43), .ref (am 44), .ref (am 45), .ref (am 46), .ref (am 47), .ref (am 48), .ref (am 49), .ref (am 50), .int (nI zw), .ref (am 52), .ref (am 53)])), (am 4, .inl (cy 3, 600, .inl (mTape tb)))] := hD.sub [0, 1] (by decide) rfl
                      have hpost : scP tb zsz zbe i1 j (2 : Int32).toInt z.toInt := by
                        first
                          | exact scP_of (tp_n hr2 (by omega)) (ti_end (by omega))
                          | exact scP_of (tp_e hr2 (by omega) (by omega) (by omega) (te_o c_n c_m)) (ti_o3 (by omega) c_n c_m (by omega))
                          | exact scP_of (tp_e hr2 (by omega) (by omega) (by omega) (te_o c_n c_m)) (ti_o4 (by omega) c_n c_m (by omega))
                          | (have hne : i1 ≠ j := fun q => c_e (q ▸ c_n)
                             exact scP_of (tp_e hr2 (by omega) (by omega) (by omega) (te_s c_n hr3 c_e)) (ti_sm c_n))
                          | (have hne : i1 ≠ j := fun q => c_e (q ▸ c_m)
                             exact scP_of (tp_e hr2 (by omega) (by omega) (by omega) (te_d c_m hr3 c_e)) (ti_d2 c_m (by omega) (hz (by omega))))
                          | (have hne : i1 ≠ j := fun q => c_e (q ▸ c_m)
                             exact scP_of (tp_e hr2 (by omega) (by omega) (by omega) (te_d c_m hr3 c_e)) (ti_d4 c_m (by omega)))
                      exact W.vret hx hb hr (fun t9 ht hW => ⟨⟨(i1, j, 2, z), rfl, hpost, by rw [ht]; exact hP9, va_K.moved hW.alike hK, hD9⟩, hS.F ht⟩) hS.2.2 dX12_scan_255
                    · skip
                      refine lv_iconst (v := 4) hx hb dX12_scan_219 (by decide) ?_
                      refine lv_goto (tgt := 224) hx hb dX12_scan_220 (by decide) ?_
                      refine va_put (D := (dC, dI)) (ci := 12) (v := .int 4) (ty := (tyX12 8)) (C := RX12) (T := TX12) (N := 53) hx hb hts hiX12 tyX12 tyX12_ok nmX12 hown hK hP hD hS 0 rfl rfl 8 (by decide) hL3 (fun _ h9 => h9) rfl (by decide +kernel) rfl rfl (Nat.le_of_ble_eq_true rfl) dX12_scan_224 (fun H locs hP hD hS => ?_)
                      have hP : va_P (dC, dI) vwCl [(am 0, .inr (12, [.ref (am 1), .ref (am 2), .ref (am 3), .ref (am 4), .int (nI tn), .int (nI zsz), .int (nI i1), .int (nI j), .int 4, .int z, .int fk, .int fp, .ref (am 13), .int (nI sn), .ref (am 15), .ref (am 16), .ref (am 17), .ref (am 18), .ref (am 19), .int (nI pn), .int (nI qn), .ref (am 22), .ref (am 23), .ref (am 24), .ref (am 25), .ref (am 26), .ref (am 27), .ref (am 28), .ref (am 29), .ref (am 30), .ref (am 31), .ref (am 32), .ref (am 33), .ref (am 34), .int zss, .int zsy, .int zpy, .int zfs, .int zls, .int (nI an), .ref (am 41), .ref (am 42), .ref (am 43), .ref (am 44), .ref (am 45), .ref (am 46), .ref (am 47), .ref (am 48), .ref (am 49), .ref (am 50), .int (nI zw), .ref (am 52), .ref (am 53)])), (am 4, .inl (cy 3, 600, .inl (mTape tb)))] H := hP
                      have hD : va_D A [(am 0, .inr (12, [.ref (am 1), .ref (am 2), .ref (am 3), .ref (am 4), .int (nI tn), .int (nI zsz), .int (nI i1), .int (nI j), .int 4, .int z, .int fk, .int fp, .ref (am 13), .int (nI sn), .ref (am 15), .ref (am 16), .ref (am 17), .ref (am 18), .ref (am 19), .int (nI pn), .int (nI qn), .ref (am 22), .ref (am 23), .ref (am 24), .ref (am 25), .ref (am 26), .ref (am 27), .ref (am 28), .ref (am 29), .ref (am 30), .ref (am 31), .ref (am 32), .ref (am 33), .ref (am 34), .int zss, .int zsy, .int zpy, .int zfs, .int zls, .int (nI an), .ref (am 41), .ref (am 42), .ref (am 43), .ref (am 44), .ref (am 45), .ref (am 46), .ref (am 47), .ref (am 48), .ref (am 49), .ref (am 50), .int (nI zw), .ref (am 52), .ref (am 53)])), (am 4, .inl (cy 3, 600, .inl (mTape tb)))] := hD
                      refine lv_goto (tgt := 255) hx hb dX12_scan_227 (by decide) ?_
                      refine bw_Qe hQ ?_
                      have hP9 : va_P (dC, dI) vwCl [(am 0, .inr (12, [.ref (am 1), .ref (am 2), .ref (am 3), .ref (am 4), .int (nI tn), .int (nI zsz), .int (nI i1), .int (nI j), .int 4, .int z, .int fk, .int fp, .ref (am 13), .int (nI sn), .ref (am 15), .ref (am 16), .ref (am 17), .ref (am 18), .ref (am 19), .int (nI pn), .int (nI qn), .ref (am 22), .ref (am 23), .ref (am 24), .ref (am 25), .ref (am 26), .ref (am 27), .ref (am 28), .ref (am 29), .ref (am 30), .ref (am 31), .ref (am 32), .ref (am 33), .ref (am 34), .int zss, .int zsy, .int zpy, .int zfs, .int zls, .int (nI an), .ref (am 41), .ref (am 42), .ref (am 43), .ref (am 44), .ref (am 45), .ref (am 46), .ref (am 47), .ref (am 48), .ref (am 49), .ref (am 50), .int (nI zw), .ref (am 52), .ref (am 53)])), (am 4, .inl (cy 3, 600, .inl (mTape tb)))] H := hP.sub [0, 1] rfl
                      have hD9 : va_D A [(am 0, .inr (12, [.ref (am 1), .ref (am 2), .ref (am 3), .ref (am 4), .int (nI tn), .int (nI zsz), .int (nI i1), .int (nI j), .int 4, .int z, .int fk, .int fp, .ref (am 13), .int (nI sn), .ref (am 15), .ref (am 16), .ref (am 17), .ref (am 18), .ref (am 19), .int (nI pn), .int (nI qn), .ref (am 22), .ref (am 23), .ref (am 24), .ref (am 25), .ref (am 26), .ref (am 27), .ref (am 28), .ref (am 29), .ref (am 30), .ref (am 31), .ref (am 32), .ref (am 33), .ref (am 34), .int zss, .int zsy, .int zpy, .int zfs, .int zls, .int (nI an), .ref (am 41), .ref (am 42), .ref (am 43), .ref (am 44), .ref (am 45), .ref (am 46), .ref (am 47), .ref (am 48), .ref (am 49), .ref (am 50), .int (nI zw), .ref (am 52), .ref (am 53)])), (am 4, .inl (cy 3, 600, .inl (mTape tb)))] := hD.sub [0, 1] (by decide) rfl
                      have hpost : scP tb zsz zbe i1 j (4 : Int32).toInt z.toInt := by
                        first
                          | exact scP_of (tp_n hr2 (by omega)) (ti_end (by omega))
                          | exact scP_of (tp_e hr2 (by omega) (by omega) (by omega) (te_o c_n c_m)) (ti_o3 (by omega) c_n c_m (by omega))
                          | exact scP_of (tp_e hr2 (by omega) (by omega) (by omega) (te_o c_n c_m)) (ti_o4 (by omega) c_n c_m (by omega))
                          | (have hne : i1 ≠ j := fun q => c_e (q ▸ c_n)
                             exact scP_of (tp_e hr2 (by omega) (by omega) (by omega) (te_s c_n hr3 c_e)) (ti_sm c_n))
                          | (have hne : i1 ≠ j := fun q => c_e (q ▸ c_m)
                             exact scP_of (tp_e hr2 (by omega) (by omega) (by omega) (te_d c_m hr3 c_e)) (ti_d2 c_m (by omega) (hz (by omega))))
                          | (have hne : i1 ≠ j := fun q => c_e (q ▸ c_m)
                             exact scP_of (tp_e hr2 (by omega) (by omega) (by omega) (te_d c_m hr3 c_e)) (ti_d4 c_m (by omega)))
                      exact W.vret hx hb hr (fun t9 ht hW => ⟨⟨(i1, j, 4, z), rfl, hpost, by rw [ht]; exact hP9, va_K.moved hW.alike hK, hD9⟩, hS.F ht⟩) hS.2.2 dX12_scan_255
                  · skip
                    have hsj := bAt_dg.mp q_s
                    have hjl := hsj.1
                    have hjd := hsj.2
                    have hbj := bAt_in (tb := tb) hjl
                    refine lv_aload_n hx hb dX12_scan_156 rfl (lv_at hl 0 rfl) ?_
                    refine va_get (D := (dC, dI)) (ci := 12) (v := .int (nI j)) (C := RX12) (T := TX12) (N := 53) hx hb hts hiX12 hown hK hP 0 rfl rfl 7 (by decide) hL0 (fun _ h9 => h9) rfl dX12_scan_157 ?_
                    refine lv_aload_n hx hb dX12_scan_160 rfl (lv_at hl 0 rfl) ?_
                    refine va_get (D := (dC, dI)) (ci := 12) (v := .int (nI i1)) (C := RX12) (T := TX12) (N := 53) hx hb hts hiX12 hown hK hP 0 rfl rfl 6 (by decide) hL2 (fun _ h9 => h9) rfl dX12_scan_161 ?_
                    refine lv_isub hx hb dX12_scan_164 ?_
                    refine bw_re (show (nI j) - (nI i1) = nI (j - i1) from pk_sub (a := j) (b := i1) (by omega)) ?_
                    refine lv_iconst (v := 4) hx hb dX12_scan_165 (by decide) ?_
                    refine bw_icmp_ge (tgt := 192) (a := ((j - i1 : Nat) : Int)) (b := 4) hx hb dX12_scan_166 (by decide) (nI_toInt (by omega)) rfl (fun c_9 => ?_) (fun c_9 => ?_)
                    · skip
                      refine lv_aload_n hx hb dX12_scan_192 rfl (lv_at hl 0 rfl) ?_
                      refine lv_dup hx hb dX12_scan_193 rfl ?_
                      refine va_get (D := (dC, dI)) (ci := 12) (v := .int (nI j)) (C := RX12) (T := TX12) (N := 53) hx hb hts hiX12 hown hK hP 0 rfl rfl 7 (by decide) hL0 (fun _ h9 => h9) rfl dX12_scan_194 ?_
                      refine lv_iconst (v := 1) hx hb dX12_scan_197 (by decide) ?_
                      refine lv_iadd hx hb dX12_scan_198 ?_
                      refine bw_re (show (nI j) + 1 = nI (j + 1) from nI_add (j) (1)) ?_
                      refine va_put (D := (dC, dI)) (ci := 12) (v := .int (nI (j + 1))) (ty := (tyX12 7)) (C := RX12) (T := TX12) (N := 53) hx hb hts hiX12 tyX12 tyX12_ok nmX12 hown hK hP hD hS 0 rfl rfl 7 (by decide) hL0 (fun _ h9 => h9) rfl (by decide +kernel) rfl rfl (Nat.le_of_ble_eq_true rfl) dX12_scan_199 (fun H locs hP hD hS => ?_)
                      have hP : va_P (dC, dI) vwCl [(am 0, .inr (12, [.ref (am 1), .ref (am 2), .ref (am 3), .ref (am 4), .int (nI tn), .int (nI zsz), .int (nI i1), .int (nI (j + 1)), .int zha, .int z, .int fk, .int fp, .ref (am 13), .int (nI sn), .ref (am 15), .ref (am 16), .ref (am 17), .ref (am 18), .ref (am 19), .int (nI pn), .int (nI qn), .ref (am 22), .ref (am 23), .ref (am 24), .ref (am 25), .ref (am 26), .ref (am 27), .ref (am 28), .ref (am 29), .ref (am 30), .ref (am 31), .ref (am 32), .ref (am 33), .ref (am 34), .int zss, .int zsy, .int zpy, .int zfs, .int zls, .int (nI an), .ref (am 41), .ref (am 42), .ref (am 43), .ref (am 44), .ref (am 45), .ref (am 46), .ref (am 47), .ref (am 48), .ref (am 49), .ref (am 50), .int (nI zw), .ref (am 52), .ref (am 53)])), (am 4, .inl (cy 3, 600, .inl (mTape tb)))] H := hP
                      have hD : va_D A [(am 0, .inr (12, [.ref (am 1), .ref (am 2), .ref (am 3), .ref (am 4), .int (nI tn), .int (nI zsz), .int (nI i1), .int (nI (j + 1)), .int zha, .int z, .int fk, .int fp, .ref (am 13), .int (nI sn), .ref (am 15), .ref (am 16), .ref (am 17), .ref (am 18), .ref (am 19), .int (nI pn), .int (nI qn), .ref (am 22), .ref (am 23), .ref (am 24), .ref (am 25), .ref (am 26), .ref (am 27), .ref (am 28), .ref (am 29), .ref (am 30), .ref (am 31), .ref (am 32), .ref (am 33), .ref (am 34), .int zss, .int zsy, .int zpy, .int zfs, .int zls, .int (nI an), .ref (am 41), .ref (am 42), .ref (am 43), .ref (am 44), .ref (am 45), .ref (am 46), .ref (am 47), .ref (am 48), .ref (am 49), .ref (am 50), .int (nI zw), .ref (am 52), .ref (am 53)])), (am 4, .inl (cy 3, 600, .inl (mTape tb)))] := hD
                      refine lv_goto (tgt := 142) hx hb dX12_scan_202 (by decide) ?_
                      have hI_hr3 : toRun (bDg tb zsz) i1 (j + 1) := by
                        exact toRun_s hr3 hsj
                      have hI_hz : (j + 1) ≤ i1 + 4 → z.toInt = vN tb i1 ((j + 1) - i1) := by
                        intro q9
                        first
                          | (rw [vN_s hj0, ← hz (by omega), tzn]; omega)
                          | (exfalso; omega)
                      have hI_hz0 : 0 ≤ z.toInt ∧ z.toInt ≤ 9999 := by
                        first
                          | (have q := vN_4 (tb := tb) (ts := i1) (m := j + 1 - i1) (by omega) (fun k hk => ((toRun_s hr3 hsj).2 (i1 + k) (by omega) (by omega)).2)
                             rw [vN_s hj0, ← hz (by omega)] at q
                             omega)
                          | exact hz0
                      exact ih142 (j + 1) z (by omega) (by first | assumption | omega) hI_hr3 hI_hz hI_hz0 H locs hP hD hS ls (lv_sub hl [0] rfl)
                    · skip
                      refine lv_aload_n hx hb dX12_scan_169 rfl (lv_at hl 0 rfl) ?_
                      refine lv_bipush (v := 10) hx hb dX12_scan_170 (by decide) ?_
                      refine lv_aload_n hx hb dX12_scan_172 rfl (lv_at hl 0 rfl) ?_
                      refine va_get (D := (dC, dI)) (ci := 12) (v := .int z) (C := RX12) (T := TX12) (N := 53) hx hb hts hiX12 hown hK hP 0 rfl rfl 9 (by decide) hL4 (fun _ h9 => h9) rfl dX12_scan_173 ?_
                      refine lv_imul hx hb dX12_scan_176 ?_
                      refine bw_nm (a := (10 * z.toInt)) (tI_mul rfl rfl (by omega) (by omega)) (fun z_10 ez_10 tz_10 => ?_)
                      refine lv_aload_n hx hb dX12_scan_177 rfl (lv_at hl 0 rfl) ?_
                      refine lv_aload_n hx hb dX12_scan_178 rfl (lv_at hl 0 rfl) ?_
                      refine va_get (D := (dC, dI)) (ci := 12) (v := .int (nI j)) (C := RX12) (T := TX12) (N := 53) hx hb hts hiX12 hown hK hP 0 rfl rfl 7 (by decide) hL0 (fun _ h9 => h9) rfl dX12_scan_179 ?_
                      have hPc : va_P (dC, dI) vwCl [(am 0, .inr (12, [.ref (am 1), .ref (am 2), .ref (am 3), .ref (am 4), .int (nI tn), .int (nI zsz), .int (nI i1), .int (nI j), .int zha, .int z, .int fk, .int fp, .ref (am 13), .int (nI sn), .ref (am 15), .ref (am 16), .ref (am 17), .ref (am 18), .ref (am 19), .int (nI pn), .int (nI qn), .ref (am 22), .ref (am 23), .ref (am 24), .ref (am 25), .ref (am 26), .ref (am 27), .ref (am 28), .ref (am 29), .ref (am 30), .ref (am 31), .ref (am 32), .ref (am 33), .ref (am 34), .int zss, .int zsy, .int zpy, .int zfs, .int zls, .int (nI an), .ref (am 41), .ref (am 42), .ref (am 43), .ref (am 44), .ref (am 45), .ref (am 46), .ref (am 47), .ref (am 48), .ref (am 49), .ref (am 50), .int (nI zw), .ref (am 52), .ref (am 53)])), (am 4, .inl (cy 3, 600, .inl (mTape tb)))] H := hP.sub [0, 1] rfl
                      refine vp_callSi (va_Run.run (va_runV (As := [.int (nI j)]) (rest := [.int z_10, .ref (am 0)]) ⟨hx, hb, hml, hown, hts⟩ (c_X12_byteAt l dC dI cy am tn zsz i1 j zha z fk fp sn pn qn zss zsy zpy zfs zls an zw tb j (by first | assumption | omega) (by first | assumption | omega) (by first | assumption | omega)) (cwV 1 hts gX12_scan_X12_byteAt rfl rfl rfl (by decide +kernel) ⟨Nat.le_of_ble_eq_true rfl, Nat.le_of_ble_eq_true rfl⟩) ⟨fun a U g mk q => by obtain ⟨q0, qP, qK⟩ := q; exact ⟨q0, qP, va_K.moved (u := U) (U := U.calling g mk a) (Vm.Alike.refl U.vm) qK⟩, va_recv hK hPc (ci := 12) (q0 := 0) rfl rfl, fun U hU hW => ⟨rfl, by rw [hU]; exact hPc, va_K.moved hW.alike hK⟩⟩ rfl rfl hl.1 rfl (lv_room (Nat.le_of_ble_eq_true rfl)) dX12_scan_182 ⟨Nat.le_of_ble_eq_true rfl, Nat.le_of_ble_eq_true rfl⟩)) (fun r_11 hr_11 => ?_)
                      rw [hr_11]
                      refine bw_re (show (bAt tb zsz j) = tb j from hbj) ?_
                      refine lv_iadd hx hb dX12_scan_185 ?_
                      refine bw_nm (a := ((10 * z.toInt) + (tb j).toInt)) (tI_add tz_10 rfl (by omega) (by omega)) (fun z_12 ez_12 tz_12 => ?_)
                      refine lv_bipush (v := 48) hx hb dX12_scan_186 (by decide) ?_
                      refine lv_isub hx hb dX12_scan_188 ?_
                      refine bw_nm (a := (((10 * z.toInt) + (tb j).toInt) - 48)) (tI_sub tz_12 rfl (by omega) (by omega)) (fun zn ezn tzn => ?_)
                      refine va_put (D := (dC, dI)) (ci := 12) (v := .int zn) (ty := (tyX12 9)) (C := RX12) (T := TX12) (N := 53) hx hb hts hiX12 tyX12 tyX12_ok nmX12 hown hK hP hD hS 0 rfl rfl 9 (by decide) hL4 (fun _ h9 => h9) rfl (by decide +kernel) rfl rfl (Nat.le_of_ble_eq_true rfl) dX12_scan_189 (fun H locs hP hD hS => ?_)
                      have hP : va_P (dC, dI) vwCl [(am 0, .inr (12, [.ref (am 1), .ref (am 2), .ref (am 3), .ref (am 4), .int (nI tn), .int (nI zsz), .int (nI i1), .int (nI j), .int zha, .int zn, .int fk, .int fp, .ref (am 13), .int (nI sn), .ref (am 15), .ref (am 16), .ref (am 17), .ref (am 18), .ref (am 19), .int (nI pn), .int (nI qn), .ref (am 22), .ref (am 23), .ref (am 24), .ref (am 25), .ref (am 26), .ref (am 27), .ref (am 28), .ref (am 29), .ref (am 30), .ref (am 31), .ref (am 32), .ref (am 33), .ref (am 34), .int zss, .int zsy, .int zpy, .int zfs, .int zls, .int (nI an), .ref (am 41), .ref (am 42), .ref (am 43), .ref (am 44), .ref (am 45), .ref (am 46), .ref (am 47), .ref (am 48), .ref (am 49), .ref (am 50), .int (nI zw), .ref (am 52), .ref (am 53)])), (am 4, .inl (cy 3, 600, .inl (mTape tb)))] H := hP
                      have hD : va_D A [(am 0, .inr (12, [.ref (am 1), .ref (am 2), .ref (am 3), .ref (am 4), .int (nI tn), .int (nI zsz), .int (nI i1), .int (nI j), .int zha, .int zn, .int fk, .int fp, .ref (am 13), .int (nI sn), .ref (am 15), .ref (am 16), .ref (am 17), .ref (am 18), .ref (am 19), .int (nI pn), .int (nI qn), .ref (am 22), .ref (am 23), .ref (am 24), .ref (am 25), .ref (am 26), .ref (am 27), .ref (am 28), .ref (am 29), .ref (am 30), .ref (am 31), .ref (am 32), .ref (am 33), .ref (am 34), .int zss, .int zsy, .int zpy, .int zfs, .int zls, .int (nI an), .ref (am 41), .ref (am 42), .ref (am 43), .ref (am 44), .ref (am 45), .ref (am 46), .ref (am 47), .ref (am 48), .ref (am 49), .ref (am 50), .int (nI zw), .ref (am 52), .ref (am 53)])), (am 4, .inl (cy 3, 600, .inl (mTape tb)))] := hD
                      refine lv_aload_n hx hb dX12_scan_192 rfl (lv_at hl 0 rfl) ?_
                      refine lv_dup hx hb dX12_scan_193 rfl ?_
                      refine va_get (D := (dC, dI)) (ci := 12) (v := .int (nI j)) (C := RX12) (T := TX12) (N := 53) hx hb hts hiX12 hown hK hP 0 rfl rfl 7 (by decide) hL0 (fun _ h9 => h9) rfl dX12_scan_194 ?_
                      refine lv_iconst (v := 1) hx hb dX12_scan_197 (by decide) ?_
                      refine lv_iadd hx hb dX12_scan_198 ?_
                      refine bw_re (show (nI j) + 1 = nI (j + 1) from nI_add (j) (1)) ?_
                      refine va_put (D := (dC, dI)) (ci := 12) (v := .int (nI (j + 1))) (ty := (tyX12 7)) (C := RX12) (T := TX12) (N := 53) hx hb hts hiX12 tyX12 tyX12_ok nmX12 hown hK hP hD hS 0 rfl rfl 7 (by decide) hL0 (fun _ h9 => h9) rfl (by decide +kernel) rfl rfl (Nat.le_of_ble_eq_true rfl) dX12_scan_199 (fun H locs hP hD hS => ?_)
                      have hP : va_P (dC, dI) vwCl [(am 0, .inr (12, [.ref (am 1), .ref (am 2), .ref (am 3), .ref (am 4), .int (nI tn), .int (nI zsz), .int (nI i1), .int (nI (j + 1)), .int zha, .int zn, .int fk, .int fp, .ref (am 13), .int (nI sn), .ref (am 15), .ref (am 16), .ref (am 17), .ref (am 18), .ref (am 19), .int (nI pn), .int (nI qn), .ref (am 22), .ref (am 23), .ref (am 24), .ref (am 25), .ref (am 26), .ref (am 27), .ref (am 28), .ref (am 29), .ref (am 30), .ref (am 31), .ref (am 32), .ref (am 33), .ref (am 34), .int zss, .int zsy, .int zpy, .int zfs, .int zls, .int (nI an), .ref (am 41), .ref (am 42), .ref (am 43), .ref (am 44), .ref (am 45), .ref (am 46), .ref (am 47), .ref (am 48), .ref (am 49), .ref (am 50), .int (nI zw), .ref (am 52), .ref (am 53)])), (am 4, .inl (cy 3, 600, .inl (mTape tb)))] H := hP
                      have hD : va_D A [(am 0, .inr (12, [.ref (am 1), .ref (am 2), .ref (am 3), .ref (am 4), .int (nI tn), .int (nI zsz), .int (nI i1), .int (nI (j + 1)), .int zha, .int zn, .int fk, .int fp, .ref (am 13), .int (nI sn), .ref (am 15), .ref (am 16), .ref (am 17), .ref (am 18), .ref (am 19), .int (nI pn), .int (nI qn), .ref (am 22), .ref (am 23), .ref (am 24), .ref (am 25), .ref (am 26), .ref (am 27), .ref (am 28), .ref (am 29), .ref (am 30), .ref (am 31), .ref (am 32), .ref (am 33), .ref (am 34), .int zss, .int zsy, .int zpy, .int zfs, .int zls, .int (nI an), .ref (am 41), .ref (am 42), .ref (am 43), .ref (am 44), .ref (am 45), .ref (am 46), .ref (am 47), .ref (am 48), .ref (am 49), .ref (am 50), .int (nI zw), .ref (am 52), .ref (am 53)])), (am 4, .inl (cy 3, 600, .inl (mTape tb)))] := hD
                      refine lv_goto (tgt := 142) hx hb dX12_scan_202 (by decide) ?_
                      have hI_hr3 : toRun (bDg tb zsz) i1 (j + 1) := by
                        exact toRun_s hr3 hsj
                      have hI_hz : (j + 1) ≤ i1 + 4 → zn.toInt = vN tb i1 ((j + 1) - i1) := by
                        intro q9
                        first
                          | (rw [vN_s hj0, ← hz (by omega), tzn]; omega)
                          | (exfalso; omega)
                      have hI_hz0 : 0 ≤ zn.toInt ∧ zn.toInt ≤ 9999 := by
                        first
                          | (have q := vN_4 (tb := tb) (ts := i1) (m := j + 1 - i1) (by omega) (fun k hk => ((toRun_s hr3 hsj).2 (i1 + k) (by omega) (by omega)).2)
                             rw [vN_s hj0, ← hz (by omega)] at q
                             omega)
                          | exact hz0
                      exact ih142 (j + 1) zn (by omega) (by first | assumption | omega) hI_hr3 hI_hz hI_hz0 H locs hP hD hS ls (lv_sub hl [0] rfl)
              have hI_hr3 : toRun (bDg tb zsz) i1 i1 := by
                exact toRun_0
              have hI_hz : i1 ≤ i1 + 4 → (0 : Int32).toInt = vN tb i1 (i1 - i1) := by
                intro _
                rw [show i1 - i1 = 0 by omega]; rfl
              have hI_hz0 : 0 ≤ (0 : Int32).toInt ∧ (0 : Int32).toInt ≤ 9999 := by
                decide
              exact L_142 ((zsz - i1) + 1) i1 0 (by omega) (by first | assumption | omega) hI_hr3 hI_hz hI_hz0 H locs hP hD hS ls (lv_sub hl [1] rfl)
          · skip
            have c_n : bSm tb zsz i1 := bAt_sm.mp q_n
            have L_95 : ∀ (n9 : Nat), ∀ (j : Nat), (zsz - j) < n9 → (j ≤ zsz) → (toRun (bSm tb zsz) i1 j) → ∀ (H : Heap) (locs : List Loc), va_P (dC, dI) vwCl [(am 0, .inr (12, [.ref (am 1), .ref (am 2), .ref (am 3), .ref (am 4), .int (nI tn), .int (nI zsz), .int (nI i1), .int (nI j), .int zha, .int zva, .int fk, .int fp, .ref (am 13), .int (nI sn), .ref (am 15), .ref (am 16), .ref (am 17), .ref (am 18), .ref (am 19), .int (nI pn), .int (nI qn), .ref (am 22), .ref (am 23), .ref (am 24), .ref (am 25), .ref (am 26), .ref (am 27), .ref (am 28), .ref (am 29), .ref (am 30), .ref (am 31), .ref (am 32), .ref (am 33), .ref (am 34), .int zss, .int zsy, .int zpy, .int zfs, .int zls, .int (nI an), .ref (am 41), .ref (am 42), .ref (am 43), .ref (am 44), .ref (am 45), .ref (am 46), .ref (am 47), .ref (am 48), .ref (am 49), .ref (am 50), .int (nI zw), .ref (am 52), .ref (am 53)])), (am 4, .inl (cy 3, 600, .inl (mTape tb)))] H → va_D A [(am 0, .inr (12, [.ref (am 1), .ref (am 2), .ref (am 3), .ref (am 4), .int (nI tn), .int (nI zsz), .int (nI i1), .int (nI j), .int zha, .int zva, .int fk, .int fp, .ref (am 13), .int (nI sn), .ref (am 15), .ref (am 16), .ref (am 17), .ref (am 18), .ref (am 19), .int (nI pn), .int (nI qn), .ref (am 22), .ref (am 23), .ref (am 24), .ref (am 25), .ref (am 26), .ref (am 27), .ref (am 28), .ref (am 29), .ref (am 30), .ref (am 31), .ref (am 32), .ref (am 33), .ref (am 34), .int zss, .int zsy, .int zpy, .int zfs, .int zls, .int (nI an), .ref (am 41), .ref (am 42), .ref (am 43), .ref (am 44), .ref (am 45), .ref (am 46), .ref (am 47), .ref (am 48), .ref (am 49), .ref (am 50), .int (nI zw), .ref (am 52), .ref (am 53)])), (am 4, .inl (cy 3, 600, .inl (mTape tb)))] → va_S A ss.heap H locs → ∀ (ls : Array Slot), lv_has ls 2 [(0, .ref (am 0))] → W pp l ee { frames := 1, cells := 0, slots := 0, locals := 21 } ss mm (List.toArray [Value.ref (am 0)]) below meth cc0 H locs 0 0 Q (F0 mm 95 ls []) := by
              intro n9
              induction n9 with
              | zero => intro j hm9; exact absurd hm9 (Nat.not_lt_zero _)
              | succ n9 ih95 =>
                intro j hm95 hj1 hr3
                intro H locs hP hD hS
                intro ls hl
                have hj0 := hr3.1
                refine lv_aload_n hx hb dX12_scan_95 rfl (lv_at hl 0 rfl) ?_
                refine lv_aload_n hx hb dX12_scan_96 rfl (lv_at hl 0 rfl) ?_
                refine va_get (D := (dC, dI)) (ci := 12) (v := .int (nI j)) (C := RX12) (T := TX12) (N := 53) hx hb hts hiX12 hown hK hP 0 rfl rfl 7 (by decide) hL0 (fun _ h9 => h9) rfl dX12_scan_97 ?_
                have hPc : va_P (dC, dI) vwCl [(am 0, .inr (12, [.ref (am 1), .ref (am 2), .ref (am 3), .ref (am 4), .int (nI tn), .int (nI zsz), .int (nI i1), .int (nI j), .int zha, .int zva, .int fk, .int fp, .ref (am 13), .int (nI sn), .ref (am 15), .ref (am 16), .ref (am 17), .ref (am 18), .ref (am 19), .int (nI pn), .int (nI qn), .ref (am 22), .ref (am 23), .ref (am 24), .ref (am 25), .ref (am 26), .ref (am 27), .ref (am 28), .ref (am 29), .ref (am 30), .ref (am 31), .ref (am 32), .ref (am 33), .ref (am 34), .int zss, .int zsy, .int zpy, .int zfs, .int zls, .int (nI an), .ref (am 41), .ref (am 42), .ref (am 43), .ref (am 44), .ref (am 45), .ref (am 46), .ref (am 47), .ref (am 48), .ref (am 49), .ref (am 50), .int (nI zw), .ref (am 52), .ref (am 53)])), (am 4, .inl (cy 3, 600, .inl (mTape tb)))] H := hP.sub [0, 1] rfl
                refine vp_callSi (va_Run.run (va_runV (As := [.int (nI j)]) (rest := []) ⟨hx, hb, hml, hown, hts⟩ (c_X12_byteAt l dC dI cy am tn zsz i1 j zha zva fk fp sn pn qn zss zsy zpy zfs zls an zw tb j (by first | assumption | omega) (by first | assumption | omega) (by first | assumption | omega)) (cwV 1 hts gX12_scan_X12_byteAt rfl rfl rfl (by decide +kernel) ⟨Nat.le_of_ble_eq_true rfl, Nat.le_of_ble_eq_true rfl⟩) ⟨fun a U g mk q => by obtain ⟨q0, qP, qK⟩ := q; exact ⟨q0, qP, va_K.moved (u := U) (U := U.calling g mk a) (Vm.Alike.refl U.vm) qK⟩, va_recv hK hPc (ci := 12) (q0 := 0) rfl rfl, fun U hU hW => ⟨rfl, by rw [hU]; exact hPc, va_K.moved hW.alike hK⟩⟩ rfl rfl hl.1 rfl (lv_room (Nat.le_of_ble_eq_true rfl)) dX12_scan_100 ⟨Nat.le_of_ble_eq_true rfl, Nat.le_of_ble_eq_true rfl⟩)) (fun r_13 hr_13 => ?_)
                rw [hr_13]
                refine vp_callSi (va_Run.run (va_runS (As := [.int (bAt tb zsz j)]) (rest := []) ⟨hx, hb, hml, hown, hts⟩ (c_X12_isSmall l dC dI cy (bAt tb zsz j)) (va_cwS 1 hts gX12_scan_X12_isSmall rfl rfl rfl (by decide +kernel) ⟨Nat.le_of_ble_eq_true rfl, Nat.le_of_ble_eq_true rfl⟩) ⟨fun a U g mk q => q, fun U hU hW => ⟨rfl, trivial⟩⟩ rfl rfl hl.1 rfl (lv_room (Nat.le_of_ble_eq_true rfl)) dX12_scan_103 ⟨Nat.le_of_ble_eq_true rfl, Nat.le_of_ble_eq_true rfl⟩)) (fun r_14 hr_14 => ?_)
                refine bw_ifeqB (tgt := 122) hx hb dX12_scan_106 (by decide) hr_14 (fun q_s => ?_) (fun q_s => ?_)
                · skip
                  have c_e : ¬ bSm tb zsz j := fun q => q_s (bAt_sm.mpr q)
                  refine lv_aload_n hx hb dX12_scan_122 rfl (lv_at hl 0 rfl) ?_
                  refine lv_iconst (v := 1) hx hb dX12_scan_123 (by decide) ?_
                  refine va_put (D := (dC, dI)) (ci := 12) (v := .int 1) (ty := (tyX12 8)) (C := RX12) (T := TX12) (N := 53) hx hb hts hiX12 tyX12 tyX12_ok nmX12 hown hK hP hD hS 0 rfl rfl 8 (by decide) hL3 (fun _ h9 => h9) rfl (by decide +kernel) rfl rfl (Nat.le_of_ble_eq_true rfl) dX12_scan_124 (fun H locs hP hD hS => ?_)
                  have hP : va_P (dC, dI) vwCl [(am 0, .inr (12, [.ref (am 1), .ref (am 2), .ref (am 3), .ref (am 4), .int (nI tn), .int (nI zsz), .int (nI i1), .int (nI j), .int 1, .int zva, .int fk, .int fp, .ref (am 13), .int (nI sn), .ref (am 15), .ref (am 16), .ref (am 17), .ref (am 18), .ref (am 19), .int (nI pn), .int (nI qn), .ref (am 22), .ref (am 23), .ref (am 24), .ref (am 25), .ref (am 26), .ref (am 27), .ref (am 28), .ref (am 29), .ref (am 30), .ref (am 31), .ref (am 32), .ref (am 33), .ref (am 34), .int zss, .int zsy, .int zpy, .int zfs, .int zls, .int (nI an), .ref (am 41), .ref (am 42), .ref (am 43), .ref (am 44), .ref (am 45), .ref (am 46), .ref (am 47), .ref (am 48), .ref (am 49), .ref (am 50), .int (nI zw), .ref (am 52), .ref (am 53)])), (am 4, .inl (cy 3, 600, .inl (mTape tb)))] H := hP
                  have hD : va_D A [(am 0, .inr (12, [.ref (am 1), .ref (am 2), .ref (am 3), .ref (am 4), .int (nI tn), .int (nI zsz), .int (nI i1), .int (nI j), .int 1, .int zva, .int fk, .int fp, .ref (am 13), .int (nI sn), .ref (am 15), .ref (am 16), .ref (am 17), .ref (am 18), .ref (am 19), .int (nI pn), .int (nI qn), .ref (am 22), .ref (am 23), .ref (am 24), .ref (am 25), .ref (am 26), .ref (am 27), .ref (am 28), .ref (am 29), .ref (am 30), .ref (am 31), .ref (am 32), .ref (am 33), .ref (am 34), .int zss, .int zsy, .int zpy, .int zfs, .int zls, .int (nI an), .ref (am 41), .ref (am 42), .ref (am 43), .ref (am 44), .ref (am 45), .ref (am 46), .ref (am 47), .ref (am 48), .ref (am 49), .ref (am 50), .int (nI zw), .ref (am 52), .ref (am 53)])), (am 4, .inl (cy 3, 600, .inl (mTape tb)))] := hD
                  refine lv_goto (tgt := 255) hx hb dX12_scan_127 (by decide) ?_
                  refine bw_Qe hQ ?_
                  have hP9 : va_P (dC, dI) vwCl [(am 0, .inr (12, [.ref (am 1), .ref (am 2), .ref (am 3), .ref (am 4), .int (nI tn), .int (nI zsz), .int (nI i1), .int (nI j), .int 1, .int zva, .int fk, .int fp, .ref (am 13), .int (nI sn), .ref (am 15), .ref (am 16), .ref (am 17), .ref (am 18), .ref (am 19), .int (nI pn), .int (nI qn), .ref (am 22), .ref (am 23), .ref (am 24), .ref (am 25), .ref (am 26), .ref (am 27), .ref (am 28), .ref (am 29), .ref (am 30), .ref (am 31), .ref (am 32), .ref (am 33), .ref (am 34), .int zss, .int zsy, .int zpy, .int zfs, .int zls, .int (nI an), .ref (am 41), .ref (am 42), .ref (am 43), .ref (am 44), .ref (am 45), .ref (am 46), .ref (am 47), .ref (am 48), .ref (am 49), .ref (am 50), .int (nI zw), .ref (am 52), .ref (am 53)])), (am 4, .inl (cy 3, 600, .inl (mTape tb)))] H := hP.sub [0, 1] rfl
                  have hD9 : va_D A [(am 0, .inr (12, [.ref (am 1), .ref (am 2), .ref (am 3), .ref (am 4), .int (nI tn), .int (nI zsz), .int (nI i1), .int (nI j), .int 1, .int zva, .int fk, .int fp, .ref (am 13), .int (nI sn), .ref (am 15), .ref (am 16), .ref (am 17), .ref (am 18), .ref (am 19), .int (nI pn), .int (nI qn), .ref (am 22), .ref (am 23), .ref (am 24), .ref (am 25), .ref (am 26), .ref (am 27), .ref (am 28), .ref (am 29), .ref (am 30), .ref (am 31), .ref (am 32), .ref (am 33), .ref (am 34), .int zss, .int zsy, .int zpy, .int zfs, .int zls, .int (nI an), .ref (am 41), .ref (am 42), .ref (am 43), .ref (am 44), .ref (am 45), .ref (am 46), .ref (am 47), .ref (am 48), .ref (am 49), .ref (am 50), .int (nI zw), .ref (am 52), .ref (am 53)])), (am 4, .inl (cy 3, 600, .inl (mTape tb)))] := hD.sub [0, 1] (by decide) rfl
                  have hpost : scP tb zsz zbe i1 j (1 : Int32).toInt zva.toInt := by
                    first
                      | exact scP_of (tp_n hr2 (by omega)) (ti_end (by omega))
                      | exact scP_of (tp_e hr2 (by omega) (by omega) (by omega) (te_o c_n c_m)) (ti_o3 (by omega) c_n c_m (by omega))
                      | exact scP_of (tp_e hr2 (by omega) (by omega) (by omega) (te_o c_n c_m)) (ti_o4 (by omega) c_n c_m (by omega))
                      | (have hne : i1 ≠ j := fun q => c_e (q ▸ c_n)
                         exact scP_of (tp_e hr2 (by omega) (by omega) (by omega) (te_s c_n hr3 c_e)) (ti_sm c_n))
                      | (have hne : i1 ≠ j := fun q => c_e (q ▸ c_m)
                         exact scP_of (tp_e hr2 (by omega) (by omega) (by omega) (te_d c_m hr3 c_e)) (ti_d2 c_m (by omega) (hz (by omega))))
                      | (have hne : i1 ≠ j := fun q => c_e (q ▸ c_m)
                         exact scP_of (tp_e hr2 (by omega) (by omega) (by omega) (te_d c_m hr3 c_e)) (ti_d4 c_m (by omega)))
                  exact W.vret hx hb hr (fun t9 ht hW => ⟨⟨(i1, j, 1, zva), rfl, hpost, by rw [ht]; exact hP9, va_K.moved hW.alike hK, hD9⟩, hS.F ht⟩) hS.2.2 dX12_scan_255
                · skip
                  have hsj := bAt_sm.mp q_s
                  have hjl := hsj.1
                  refine lv_aload_n hx hb dX12_scan_109 rfl (lv_at hl 0 rfl) ?_
                  refine lv_dup hx hb dX12_scan_110 rfl ?_
                  refine va_get (D := (dC, dI)) (ci := 12) (v := .int (nI j)) (C := RX12) (T := TX12) (N := 53) hx hb hts hiX12 hown hK hP 0 rfl rfl 7 (by decide) hL0 (fun _ h9 => h9) rfl dX12_scan_111 ?_
                  refine lv_iconst (v := 1) hx hb dX12_scan_114 (by decide) ?_
                  refine lv_iadd hx hb dX12_scan_115 ?_
                  refine bw_re (show (nI j) + 1 = nI (j + 1) from nI_add (j) (1)) ?_
                  refine va_put (D := (dC, dI)) (ci := 12) (v := .int (nI (j + 1))) (ty := (tyX12 7)) (C := RX12) (T := TX12) (N := 53) hx hb hts hiX12 tyX12 tyX12_ok nmX12 hown hK hP hD hS 0 rfl rfl 7 (by decide) hL0 (fun _ h9 => h9) rfl (by decide +kernel) rfl rfl (Nat.le_of_ble_eq_true rfl) dX12_scan_116 (fun H locs hP hD hS => ?_)
                  have hP : va_P (dC, dI) vwCl [(am 0, .inr (12, [.ref (am 1), .ref (am 2), .ref (am 3), .ref (am 4), .int (nI tn), .int (nI zsz), .int (nI i1), .int (nI (j + 1)), .int zha, .int zva, .int fk, .int fp, .ref (am 13), .int (nI sn), .ref (am 15), .ref (am 16), .ref (am 17), .ref (am 18), .ref (am 19), .int (nI pn), .int (nI qn), .ref (am 22), .ref (am 23), .ref (am 24), .ref (am 25), .ref (am 26), .ref (am 27), .ref (am 28), .ref (am 29), .ref (am 30), .ref (am 31), .ref (am 32), .ref (am 33), .ref (am 34), .int zss, .int zsy, .int zpy, .int zfs, .int zls, .int (nI an), .ref (am 41), .ref (am 42), .ref (am 43), .ref (am 44), .ref (am 45), .ref (am 46), .ref (am 47), .ref (am 48), .ref (am 49), .ref (am 50), .int (nI zw), .ref (am 52), .ref (am 53)])), (am 4, .inl (cy 3, 600, .inl (mTape tb)))] H := hP
                  have hD : va_D A [(am 0, .inr (12, [.ref (am 1), .ref (am 2), .ref (am 3), .ref (am 4), .int (nI tn), .int (nI zsz), .int (nI i1), .int (nI (j + 1)), .int zha, .int zva, .int fk, .int fp, .ref (am 13), .int (nI sn), .ref (am 15), .ref (am 16), .ref (am 17), .ref (am 18), .ref (am 19), .int (nI pn), .int (nI qn), .ref (am 22), .ref (am 23), .ref (am 24), .ref (am 25), .ref (am 26), .ref (am 27), .ref (am 28), .ref (am 29), .ref (am 30), .ref (am 31), .ref (am 32), .ref (am 33), .ref (am 34), .int zss, .int zsy, .int zpy, .int zfs, .int zls, .int (nI an), .ref (am 41), .ref (am 42), .ref (am 43), .ref (am 44), .ref (am 45), .ref (am 46), .ref (am 47), .ref (am 48), .ref (am 49), .ref (am 50), .int (nI zw), .ref (am 52), .ref (am 53)])), (am 4, .inl (cy 3, 600, .inl (mTape tb)))] := hD
                  refine lv_goto (tgt := 95) hx hb dX12_scan_119 (by decide) ?_
                  have hI_hr3 : toRun (bSm tb zsz) i1 (j + 1) := by
                    exact toRun_s hr3 hsj
                  exact ih95 (j + 1) (by omega) (by first | assumption | omega) hI_hr3 H locs hP hD hS ls (lv_sub hl [0] rfl)
            have hI_hr3 : toRun (bSm tb zsz) i1 i1 := by
              exact toRun_0
            exact L_95 ((zsz - i1) + 1) i1 (by omega) (by first | assumption | omega) hI_hr3 H locs hP hD hS ls (lv_sub hl [1] rfl)
        · skip
          refine lv_aload_n hx hb dX12_scan_80 rfl (lv_at hl 1 rfl) ?_
          refine lv_iconst (v := 0) hx hb dX12_scan_81 (by decide) ?_
          refine va_put (D := (dC, dI)) (ci := 12) (v := .int 0) (ty := (tyX12 8)) (C := RX12) (T := TX12) (N := 53) hx hb hts hiX12 tyX12 tyX12_ok nmX12 hown hK hP hD hS 0 rfl rfl 8 (by decide) hL3 (fun _ h9 => h9) rfl (by decide +kernel) rfl rfl (Nat.le_of_ble_eq_true rfl) dX12_scan_82 (fun H locs hP hD hS => ?_)
          have hP : va_P (dC, dI) vwCl [(am 0, .inr (12, [.ref (am 1), .ref (am 2), .ref (am 3), .ref (am 4), .int (nI tn), .int (nI zsz), .int (nI i1), .int (nI i1), .int 0, .int zva, .int fk, .int fp, .ref (am 13), .int (nI sn), .ref (am 15), .ref (am 16), .ref (am 17), .ref (am 18), .ref (am 19), .int (nI pn), .int (nI qn), .ref (am 22), .ref (am 23), .ref (am 24), .ref (am 25), .ref (am 26), .ref (am 27), .ref (am 28), .ref (am 29), .ref (am 30), .ref (am 31), .ref (am 32), .ref (am 33), .ref (am 34), .int zss, .int zsy, .int zpy, .int zfs, .int zls, .int (nI an), .ref (am 41), .ref (am 42), .ref (am 43), .ref (am 44), .ref (am 45), .ref (am 46), .ref (am 47), .ref (am 48), .ref (am 49), .ref (am 50), .int (nI zw), .ref (am 52), .ref (am 53)])), (am 4, .inl (cy 3, 600, .inl (mTape tb)))] H := hP
          have hD : va_D A [(am 0, .inr (12, [.ref (am 1), .ref (am 2), .ref (am 3), .ref (am 4), .int (nI tn), .int (nI zsz), .int (nI i1), .int (nI i1), .int 0, .int zva, .int fk, .int fp, .ref (am 13), .int (nI sn), .ref (am 15), .ref (am 16), .ref (am 17), .ref (am 18), .ref (am 19), .int (nI pn), .int (nI qn), .ref (am 22), .ref (am 23), .ref (am 24), .ref (am 25), .ref (am 26), .ref (am 27), .ref (am 28), .ref (am 29), .ref (am 30), .ref (am 31), .ref (am 32), .ref (am 33), .ref (am 34), .int zss, .int zsy, .int zpy, .int zfs, .int zls, .int (nI an), .ref (am 41), .ref (am 42), .ref (am 43), .ref (am 44), .ref (am 45), .ref (am 46), .ref (am 47), .ref (am 48), .ref (am 49), .ref (am 50), .int (nI zw), .ref (am 52), .ref (am 53)])), (am 4, .inl (cy 3, 600, .inl (mTape tb)))] := hD
          refine lv_goto (tgt := 255) hx hb dX12_scan_85 (by decide) ?_
          refine bw_Qe hQ ?_
          have hP9 : va_P (dC, dI) vwCl [(am 0, .inr (12, [.ref (am 1), .ref (am 2), .ref (am 3), .ref (am 4), .int (nI tn), .int (nI zsz), .int (nI i1), .int (nI i1), .int 0, .int zva, .int fk, .int fp, .ref (am 13), .int (nI sn), .ref (am 15), .ref (am 16), .ref (am 17), .ref (am 18), .ref (am 19), .int (nI pn), .int (nI qn), .ref (am 22), .ref (am 23), .ref (am 24), .ref (am 25), .ref (am 26), .ref (am 27), .ref (am 28), .ref (am 29), .ref (am 30), .ref (am 31), .ref (am 32), .ref (am 33), .ref (am 34), .int zss, .int zsy, .int zpy, .int zfs, .int zls, .int (nI an), .ref (am 41), .ref (am 42), .ref (am 43), .ref (am 44), .ref (am 45), .ref (am 46), .ref (am 47), .ref (am 48), .ref (am 49), .ref (am 50), .int (nI zw), .ref (am 52), .ref (am 53)])), (am 4, .inl (cy 3, 600, .inl (mTape tb)))] H := hP.sub [0, 1] rfl
          have hD9 : va_D A [(am 0, .inr (12, [.ref (am 1), .ref (am 2), .ref (am 3), .ref (am 4), .int (nI tn), .int (nI zsz), .int (nI i1), .int (nI i1), .int 0, .int zva, .int fk, .int fp, .ref (am 13), .int (nI sn), .ref (am 15), .ref (am 16), .ref (am 17), .ref (am 18), .ref (am 19), .int (nI pn), .int (nI qn), .ref (am 22), .ref (am 23), .ref (am 24), .ref (am 25), .ref (am 26), .ref (am 27), .ref (am 28), .ref (am 29), .ref (am 30), .ref (am 31), .ref (am 32), .ref (am 33), .ref (am 34), .int zss, .int zsy, .int zpy, .int zfs, .int zls, .int (nI an), .ref (am 41), .ref (am 42), .ref (am 43), .ref (am 44), .ref (am 45), .ref (am 46), .ref (am 47), .ref (am 48), .ref (am 49), .ref (am 50), .int (nI zw), .ref (am 52), .ref (am 53)])), (am 4, .inl (cy 3, 600, .inl (mTape tb)))] := hD.sub [0, 1] (by decide) rfl
          have hpost : scP tb zsz zbe i1 i1 (0 : Int32).toInt zva.toInt := by
            first
              | exact scP_of (tp_n hr2 (by omega)) (ti_end (by omega))
              | exact scP_of (tp_e hr2 (by omega) (by omega) (by omega) (te_o c_n c_m)) (ti_o3 (by omega) c_n c_m (by omega))
              | exact scP_of (tp_e hr2 (by omega) (by omega) (by omega) (te_o c_n c_m)) (ti_o4 (by omega) c_n c_m (by omega))
              | (have hne : i1 ≠ j := fun q => c_e (q ▸ c_n)
                 exact scP_of (tp_e hr2 (by omega) (by omega) (by omega) (te_s c_n hr3 c_e)) (ti_sm c_n))
              | (have hne : i1 ≠ j := fun q => c_e (q ▸ c_m)
                 exact scP_of (tp_e hr2 (by omega) (by omega) (by omega) (te_d c_m hr3 c_e)) (ti_d2 c_m (by omega) (hz (by omega))))
              | (have hne : i1 ≠ j := fun q => c_e (q ▸ c_m)
                 exact scP_of (tp_e hr2 (by omega) (by omega) (by omega) (te_d c_m hr3 c_e)) (ti_d4 c_m (by omega)))
          exact W.vret hx hb hr (fun t9 ht hW => ⟨⟨(i1, i1, 0, zva), rfl, hpost, by rw [ht]; exact hP9, va_K.moved hW.alike hK, hD9⟩, hS.F ht⟩) hS.2.2 dX12_scan_255
      refine bw_icmp_ge (tgt := 52) (a := ((i : Nat) : Int)) (b := ((zsz : Nat) : Int)) hx hb dX12_scan_8 (by decide) (nI_toInt (by omega)) (nI_toInt (by omega)) (fun c_15 => ?_) (fun c_15 => ?_)
      · skip
        have hI_hr2 : isRun (bBl tb zsz) zbe i := by
          exact toRun_e hr1 (fun q => by have q1 := q.1; have q2 := q.2; omega)
        exact L_52 i (by first | assumption | omega) hI_hr2 H locs hP hD hS ls (lv_sub hl [0] rfl)
      · skip
        refine lv_aload_n hx hb dX12_scan_11 rfl (lv_at hl 0 rfl) ?_
        refine va_get (D := (dC, dI)) (ci := 12) (v := .ref (am 4)) (C := RX12) (T := TX12) (N := 53) hx hb hts hiX12 hown hK hP 0 rfl rfl 3 (by decide) hL5 (fun _ h9 => h9) rfl dX12_scan_12 ?_
        refine lv_aload_n hx hb dX12_scan_15 rfl (lv_at hl 0 rfl) ?_
        refine va_get (D := (dC, dI)) (ci := 12) (v := .int (nI i)) (C := RX12) (T := TX12) (N := 53) hx hb hts hiX12 hown hK hP 0 rfl rfl 7 (by decide) hL0 (fun _ h9 => h9) rfl dX12_scan_16 ?_
        refine bw_bald hx hb hK hP 1 3 rfl rfl (j := i) (nI_toInt (by omega)) (by omega) dX12_scan_19 ?_
        refine lv_bipush (v := 32) hx hb dX12_scan_20 (by decide) ?_
        refine bw_icmp_eq (tgt := 39) (a := ((mTape tb) i).toInt) (b := 32) hx hb dX12_scan_22 (by decide) rfl rfl (fun c_a => ?_) (fun c_a => ?_)
        · skip
          refine lv_aload_n hx hb dX12_scan_39 rfl (lv_at hl 0 rfl) ?_
          refine lv_dup hx hb dX12_scan_40 rfl ?_
          refine va_get (D := (dC, dI)) (ci := 12) (v := .int (nI i)) (C := RX12) (T := TX12) (N := 53) hx hb hts hiX12 hown hK hP 0 rfl rfl 7 (by decide) hL0 (fun _ h9 => h9) rfl dX12_scan_41 ?_
          refine lv_iconst (v := 1) hx hb dX12_scan_44 (by decide) ?_
          refine lv_iadd hx hb dX12_scan_45 ?_
          refine bw_re (show (nI i) + 1 = nI (i + 1) from nI_add (i) (1)) ?_
          refine va_put (D := (dC, dI)) (ci := 12) (v := .int (nI (i + 1))) (ty := (tyX12 7)) (C := RX12) (T := TX12) (N := 53) hx hb hts hiX12 tyX12 tyX12_ok nmX12 hown hK hP hD hS 0 rfl rfl 7 (by decide) hL0 (fun _ h9 => h9) rfl (by decide +kernel) rfl rfl (Nat.le_of_ble_eq_true rfl) dX12_scan_46 (fun H locs hP hD hS => ?_)
          have hP : va_P (dC, dI) vwCl [(am 0, .inr (12, [.ref (am 1), .ref (am 2), .ref (am 3), .ref (am 4), .int (nI tn), .int (nI zsz), .int (nI zfr), .int (nI (i + 1)), .int zha, .int zva, .int fk, .int fp, .ref (am 13), .int (nI sn), .ref (am 15), .ref (am 16), .ref (am 17), .ref (am 18), .ref (am 19), .int (nI pn), .int (nI qn), .ref (am 22), .ref (am 23), .ref (am 24), .ref (am 25), .ref (am 26), .ref (am 27), .ref (am 28), .ref (am 29), .ref (am 30), .ref (am 31), .ref (am 32), .ref (am 33), .ref (am 34), .int zss, .int zsy, .int zpy, .int zfs, .int zls, .int (nI an), .ref (am 41), .ref (am 42), .ref (am 43), .ref (am 44), .ref (am 45), .ref (am 46), .ref (am 47), .ref (am 48), .ref (am 49), .ref (am 50), .int (nI zw), .ref (am 52), .ref (am 53)])), (am 4, .inl (cy 3, 600, .inl (mTape tb)))] H := hP
          have hD : va_D A [(am 0, .inr (12, [.ref (am 1), .ref (am 2), .ref (am 3), .ref (am 4), .int (nI tn), .int (nI zsz), .int (nI zfr), .int (nI (i + 1)), .int zha, .int zva, .int fk, .int fp, .ref (am 13), .int (nI sn), .ref (am 15), .ref (am 16), .ref (am 17), .ref (am 18), .ref (am 19), .int (nI pn), .int (nI qn), .ref (am 22), .ref (am 23), .ref (am 24), .ref (am 25), .ref (am 26), .ref (am 27), .ref (am 28), .ref (am 29), .ref (am 30), .ref (am 31), .ref (am 32), .ref (am 33), .ref (am 34), .int zss, .int zsy, .int zpy, .int zfs, .int zls, .int (nI an), .ref (am 41), .ref (am 42), .ref (am 43), .ref (am 44), .ref (am 45), .ref (am 46), .ref (am 47), .ref (am 48), .ref (am 49), .ref (am 50), .int (nI zw), .ref (am 52), .ref (am 53)])), (am 4, .inl (cy 3, 600, .inl (mTape tb)))] := hD
          refine lv_goto (tgt := 0) hx hb dX12_scan_49 (by decide) ?_
          have hI_hr1 : toRun (bBl tb zsz) zbe (i + 1) := by
            exact toRun_s hr1 ⟨by omega, by omega⟩
          exact ih0 (i + 1) (by omega) (by first | assumption | omega) hI_hr1 H locs hP hD hS ls (lv_sub hl [0] rfl)
        · skip
          refine lv_aload_n hx hb dX12_scan_25 rfl (lv_at hl 0 rfl) ?_
          refine va_get (D := (dC, dI)) (ci := 12) (v := .ref (am 4)) (C := RX12) (T := TX12) (N := 53) hx hb hts hiX12 hown hK hP 0 rfl rfl 3 (by decide) hL5 (fun _ h9 => h9) rfl dX12_scan_26 ?_
          refine lv_aload_n hx hb dX12_scan_29 rfl (lv_at hl 0 rfl) ?_
          refine va_get (D := (dC, dI)) (ci := 12) (v := .int (nI i)) (C := RX12) (T := TX12) (N := 53) hx hb hts hiX12 hown hK hP 0 rfl rfl 7 (by decide) hL0 (fun _ h9 => h9) rfl dX12_scan_30 ?_
          refine bw_bald hx hb hK hP 1 3 rfl rfl (j := i) (nI_toInt (by omega)) (by omega) dX12_scan_33 ?_
          refine lv_bipush (v := 10) hx hb dX12_scan_34 (by decide) ?_
          refine bw_icmp_ne (tgt := 52) (a := ((mTape tb) i).toInt) (b := 10) hx hb dX12_scan_36 (by decide) rfl rfl (fun c_d => ?_) (fun c_d => ?_)
          · skip
            have hI_hr2 : isRun (bBl tb zsz) zbe i := by
              exact toRun_e hr1 (fun q => by have q1 := q.1; have q2 := q.2; omega)
            exact L_52 i (by first | assumption | omega) hI_hr2 H locs hP hD hS ls (lv_sub hl [0] rfl)
          · skip
            refine lv_aload_n hx hb dX12_scan_39 rfl (lv_at hl 0 rfl) ?_
            refine lv_dup hx hb dX12_scan_40 rfl ?_
            refine va_get (D := (dC, dI)) (ci := 12) (v := .int (nI i)) (C := RX12) (T := TX12) (N := 53) hx hb hts hiX12 hown hK hP 0 rfl rfl 7 (by decide) hL0 (fun _ h9 => h9) rfl dX12_scan_41 ?_
            refine lv_iconst (v := 1) hx hb dX12_scan_44 (by decide) ?_
            refine lv_iadd hx hb dX12_scan_45 ?_
            refine bw_re (show (nI i) + 1 = nI (i + 1) from nI_add (i) (1)) ?_
            refine va_put (D := (dC, dI)) (ci := 12) (v := .int (nI (i + 1))) (ty := (tyX12 7)) (C := RX12) (T := TX12) (N := 53) hx hb hts hiX12 tyX12 tyX12_ok nmX12 hown hK hP hD hS 0 rfl rfl 7 (by decide) hL0 (fun _ h9 => h9) rfl (by decide +kernel) rfl rfl (Nat.le_of_ble_eq_true rfl) dX12_scan_46 (fun H locs hP hD hS => ?_)
            have hP : va_P (dC, dI) vwCl [(am 0, .inr (12, [.ref (am 1), .ref (am 2), .ref (am 3), .ref (am 4), .int (nI tn), .int (nI zsz), .int (nI zfr), .int (nI (i + 1)), .int zha, .int zva, .int fk, .int fp, .ref (am 13), .int (nI sn), .ref (am 15), .ref (am 16), .ref (am 17), .ref (am 18), .ref (am 19), .int (nI pn), .int (nI qn), .ref (am 22), .ref (am 23), .ref (am 24), .ref (am 25), .ref (am 26), .ref (am 27), .ref (am 28), .ref (am 29), .ref (am 30), .ref (am 31), .ref (am 32), .ref (am 33), .ref (am 34), .int zss, .int zsy, .int zpy, .int zfs, .int zls, .int (nI an), .ref (am 41), .ref (am 42), .ref (am 43), .ref (am 44), .ref (am 45), .ref (am 46), .ref (am 47), .ref (am 48), .ref (am 49), .ref (am 50), .int (nI zw), .ref (am 52), .ref (am 53)])), (am 4, .inl (cy 3, 600, .inl (mTape tb)))] H := hP
            have hD : va_D A [(am 0, .inr (12, [.ref (am 1), .ref (am 2), .ref (am 3), .ref (am 4), .int (nI tn), .int (nI zsz), .int (nI zfr), .int (nI (i + 1)), .int zha, .int zva, .int fk, .int fp, .ref (am 13), .int (nI sn), .ref (am 15), .ref (am 16), .ref (am 17), .ref (am 18), .ref (am 19), .int (nI pn), .int (nI qn), .ref (am 22), .ref (am 23), .ref (am 24), .ref (am 25), .ref (am 26), .ref (am 27), .ref (am 28), .ref (am 29), .ref (am 30), .ref (am 31), .ref (am 32), .ref (am 33), .ref (am 34), .int zss, .int zsy, .int zpy, .int zfs, .int zls, .int (nI an), .ref (am 41), .ref (am 42), .ref (am 43), .ref (am 44), .ref (am 45), .ref (am 46), .ref (am 47), .ref (am 48), .ref (am 49), .ref (am 50), .int (nI zw), .ref (am 52), .ref (am 53)])), (am 4, .inl (cy 3, 600, .inl (mTape tb)))] := hD
            refine lv_goto (tgt := 0) hx hb dX12_scan_49 (by decide) ?_
            have hI_hr1 : toRun (bBl tb zsz) zbe (i + 1) := by
              exact toRun_s hr1 ⟨by omega, by omega⟩
            exact ih0 (i + 1) (by omega) (by first | assumption | omega) hI_hr1 H locs hP hD hS ls (lv_sub hl [0] rfl)
  have hI_hr1 : toRun (bBl tb zsz) zbe zbe := by
    exact toRun_0
  exact L_0 ((zsz - zbe) + 1) zbe (by omega) (by first | assumption | omega) hI_hr1 H locs hP hD hS ls (lv_sub hl [0] rfl)

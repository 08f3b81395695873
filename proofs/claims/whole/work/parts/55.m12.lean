def lnN (v : Nat → Nat) (i m : Nat) : Nat := 2 * (m - 1) + sm v i m
theorem lnN_eq {v : Nat → Nat} {i m : Nat} (h : 1 ≤ m) : ((lnN v i m : Nat) : Int) = lnW v i m := by
  unfold lnN lnW; omega
theorem sm_b {v : Nat → Nat} {n i : Nat} (h : ∀ k, k < n → v k ≤ 144) : ∀ m, i + m ≤ n → sm v i m ≤ 144 * m
  | 0, _ => by show (0 : Nat) ≤ _; omega
  | m + 1, hm => by
    have ih := sm_b (i := i) h m (by omega)
    have := h (i + m) (by omega)
    show sm v i m + v (i + m) ≤ _
    omega
def dr (x : Int) : Int := if x = -1 then 1073741824 else x
theorem dr_1 : dr (-1) = 1073741824 := rfl
theorem dr_o {x : Int} (h : x ≠ -1) : dr x = x := if_neg h
def gL (v : Nat → Nat) (n W l i m : Nat) : Int := if l = 0 then -1 else cst v n W (fF v n W (l - 1)) i m
theorem fF_g {v : Nat → Nat} {n W l i : Nat} : fF v n W l i = (bst (gL v n W l i) (n - i)).1 := by
  by_cases h : l = 0
  · subst h
    have q := bst_all (g := gL v n W 0 i) (m := 0) (n - i) (fun j _ _ => rfl)
    rw [Nat.zero_add] at q
    rw [q]; rfl
  · rw [fF_at v n W i (by omega)]
    have e : gL v n W l i = cst v n W (fF v n W (l - 1)) i := by
      funext m; unfold gL; rw [if_neg h]
    rw [e]
theorem gL_b {v : Nat → Nat} {n W l i m : Nat} (hW : W ≤ 400) (hl : l ≤ 8) (hm : 1 ≤ m) : -1 ≤ gL v n W l i m ∧ gL v n W l i m ≤ 1440000 := by
  unfold gL
  by_cases h : l = 0
  · rw [if_pos h]; omega
  · rw [if_neg h]
    have := cst_b (v := v) (n := n) (i := i) (m := m) hW hm (fF_b (v := v) (n := n) hW (l - 1) (i + m)) (by omega)
    omega
theorem dr_min {g : Nat → Int} {m : Nat} {x y z : Int} (hg : ∀ k, 1 ≤ k → -1 ≤ g k ∧ g k ≤ 1440000) (hx : x = dr (bst g m).1) (hy : y = dr (g (m + 1))) (hz : z = if x ≤ y then x else y) : z = dr (bst g (m + 1)).1 := by
  have b1 := hg (m + 1) (by omega)
  have b2 : -1 ≤ (bst g m).1 ∧ (bst g m).1 ≤ 1440000 := by
    rcases bst_spec (g := g) m with ⟨i1, _, _⟩ | ⟨i1, i2, i3, i4, _, _⟩
    · omega
    · have := hg _ i2; omega
  by_cases h : g (m + 1) ≠ -1 ∧ ((bst g m).1 = -1 ∨ g (m + 1) < (bst g m).1)
  · rw [bst_y h]
    show z = dr (g (m + 1))
    rw [dr_o h.1] at hy ⊢
    by_cases q : (bst g m).1 = -1
    · rw [q, dr_1] at hx
      rw [if_neg (by omega)] at hz; omega
    · rw [dr_o q] at hx
      have := h.2
      rw [if_neg (by omega)] at hz; omega
  · rw [bst_n h]
    by_cases q : (bst g m).1 = -1
    · have hgm : g (m + 1) = -1 := by
        by_cases e : g (m + 1) = -1
        · exact e
        · exact absurd ⟨e, Or.inl q⟩ h
      rw [hgm, dr_1] at hy
      rw [q, dr_1] at hx ⊢
      rw [if_pos (by omega)] at hz; omega
    · rw [dr_o q] at hx ⊢
      by_cases e : g (m + 1) = -1
      · rw [e, dr_1] at hy
        rw [if_pos (by omega)] at hz; omega
      · rw [dr_o e] at hy
        have : ¬ g (m + 1) < (bst g m).1 := fun w => h ⟨e, Or.inr w⟩
        rw [if_pos (by omega)] at hz; omega
theorem dr_inj {x y : Int} (hx : -1 ≤ x ∧ x ≤ 1440000) (hy : -1 ≤ y ∧ y ≤ 1440000) : dr x = dr y ↔ x = y := by
  unfold dr
  by_cases a : x = -1
  · rw [if_pos a]
    by_cases b : y = -1
    · rw [if_pos b]; omega
    · rw [if_neg b]; omega
  · rw [if_neg a]
    by_cases b : y = -1
    · rw [if_pos b]; omega
    · rw [if_neg b]
theorem fC_g {v : Nat → Nat} {n W l i : Nat} (hl : 1 ≤ l) : fC v n W l i = (bst (gL v n W l i) (n - i)).2 := by
  have e : gL v n W l i = cst v n W (fF v n W (l - 1)) i := by
    funext m; unfold gL; rw [if_neg (by omega)]
  unfold fC; rw [e]
/-- the first number of words that costs the least is the one that is taken -/
theorem fC_least {v : Nat → Nat} {n W l i m : Nat} (hl : 1 ≤ l) (h : fF v n W l i ≠ -1) (hm : 1 ≤ m) (h1 : ∀ k, 1 ≤ k → k < m → gL v n W l i k ≠ fF v n W l i) (h2 : gL v n W l i m = fF v n W l i) : m = fC v n W l i := by
  rw [fC_g hl]
  rw [fF_g] at h h1 h2
  rcases bst_spec (g := gL v n W l i) (n - i) with ⟨i1, _, _⟩ | ⟨i1, i2, i3, i4, i5, _⟩
  · exact absurd i1 h
  · rcases Nat.lt_trichotomy m (bst (gL v n W l i) (n - i)).2 with q | q | q
    · exact absurd h2 (i5 m hm q)
    · exact q
    · exact absurd i4 (h1 _ i2 q)
theorem fC_lt {v : Nat → Nat} {n W l i m : Nat} (hl : 1 ≤ l) (h : fF v n W l i ≠ -1) (hm : 1 ≤ m) (h1 : ∀ k, 1 ≤ k → k < m → gL v n W l i k ≠ fF v n W l i) : m ≤ fC v n W l i := by
  rw [fC_g hl]
  rw [fF_g] at h h1
  rcases bst_spec (g := gL v n W l i) (n - i) with ⟨i1, _, _⟩ | ⟨i1, i2, i3, i4, i5, _⟩
  · exact absurd i1 h
  · rcases Nat.lt_or_ge (bst (gL v n W l i) (n - i)).2 m with q | q
    · exact absurd i4 (h1 _ i2 q)
    · exact q
def leOK (v : Nat → Nat) (n W : Nat) (f : Nat → Int32) (l i : Nat) : Prop := (f (9 * i + l)).toInt = dr (fF v n W l i)
set_option maxHeartbeats 4000000 in
set_option maxRecDepth 100000 in
theorem c_X12_lineOf (l : Launch) (dC : Nat → ClassId) (dI : Nat → Nat → Nat) (cy : Nat → ClassId) (am : Nat → Nat) (tn : Nat) (zsz : Nat) (zfr : Nat) (zbe : Nat) (zha : Int32) (zva : Int32) (fk : Int32) (fp : Int32) (sn : Nat) (pn : Nat) (qn : Nat) (zss : Int32) (zsy : Int32) (zpy : Int32) (zfs : Int32) (zls : Int32) (an : Nat) (zw : Nat) (zwd : Nat → Int32) (i : Nat) (m : Nat) (v : Nat → Nat) (hv : wR zwd zw v) (hvb : ∀ k, k < zw → v k ≤ 144) (hzw : zw ≤ 40) (hm : 1 ≤ m) (him : i + m ≤ zw) : Met l yX12_lineOf wsX12_lineOf ({ frames := 0, cells := 0, slots := 0, locals := 0 }) (va_Pc [.ref (am 0), .int (nI i), .int (nI m)] (fun U => va_P (dC, dI) vwCl [(am 0, .inr (12, [.ref (am 1), .ref (am 2), .ref (am 3), .ref (am 4), .int (nI tn), .int (nI zsz), .int (nI zfr), .int (nI zbe), .int zha, .int zva, .int fk, .int fp, .ref (am 13), .int (nI sn), .ref (am 15), .ref (am 16), .ref (am 17), .ref (am 18), .ref (am 19), .int (nI pn), .int (nI qn), .ref (am 22), .ref (am 23), .ref (am 24), .ref (am 25), .ref (am 26), .ref (am 27), .ref (am 28), .ref (am 29), .ref (am 30), .ref (am 31), .ref (am 32), .ref (am 33), .ref (am 34), .int zss, .int zsy, .int zpy, .int zfs, .int zls, .int (nI an), .ref (am 41), .ref (am 42), .ref (am 43), .ref (am 44), .ref (am 45), .ref (am 46), .ref (am 47), .ref (am 48), .ref (am 49), .ref (am 50), .int (nI zw), .ref (am 52), .ref (am 53)])), (am 52, .inl (cy 0, 40, .inl zwd))] U.heap ∧ va_K (dC, dI) vwCl (tyL cy) U)) (vp_Si (fun r => r = nI (lnN v i m))) 0 0 (fun _ => False) := by
  refine Met.ofW (cc := cX12_lineOf) (maxL := 5) (ret := (some .int)) (by decide) rfl ?_
  intro pp ee ss mm args below meth cc0 s₁ B hml hv
  obtain ⟨rfl, hP, hK⟩ := hv
  have hx := B.exec
  have hb := B.bytes
  have hr := B.returns
  have hts := atoms_spec (ws := wsX12_lineOf) B.pre
  have hown : ss.vm.findClass RX12 = some mm.cls := findClass_of_methodNamed B.named
  have hlocks := B.notSynchronized
  have hL0 := hts (.fieldLink RX12 209 "HereLivedModel" "wide" "[I") (by decide +kernel)
  have hiX12 : ∀ w ∈ wsX120, w ∈ wsX12_lineOf := by decide +kernel
  have hl := lv_entry ([.ref (am 0), .int (nI i), .int (nI m)]) (n := 5) (Nat.le_of_ble_eq_true rfl)
  rw [lg_entry_eq]
  generalize (lg_sl ([.ref (am 0), .int (nI i), .int (nI m)]) ++ List.replicate (5 - (lg_sl ([.ref (am 0), .int (nI i), .int (nI m)])).length) Slot.unset).toArray = ls at hl ⊢
  have hl : lv_has ls 5 [(0, .ref (am 0)), (1, .int (nI i)), (2, .int (nI m))] := hl
  refine bw_Q (fun Q hQ => ?_)
  change W pp l ee { frames := 0, cells := 0, slots := 0, locals := 0 } ss mm _ below meth cc0 ss.heap [] 0 0 Q (F0 mm 0 ls [])
  refine lv_iconst (v := 2) hx hb dX12_lineOf_0 (by decide) ?_
  refine lv_iload_n hx hb dX12_lineOf_1 rfl (lv_at hl 2 rfl) ?_
  refine lv_iconst (v := 1) hx hb dX12_lineOf_2 (by decide) ?_
  refine lv_isub hx hb dX12_lineOf_3 ?_
  refine bw_re (show (nI m) - 1 = nI (m - 1) from pk_sub (a := m) (b := 1) (by omega)) ?_
  refine lv_imul hx hb dX12_lineOf_4 ?_
  refine bw_re (show 2 * (nI (m - 1)) = nI (2 * (m - 1)) from pk_mul (2) (m - 1)) ?_
  refine lv_istore_n (lv' := [(3, .int (nI (2 * (m - 1)))), (0, .ref (am 0)), (1, .int (nI i)), (2, .int (nI m))]) hx hb dX12_lineOf_5 rfl hl (by decide) rfl (fun ls hl => ?_)
  refine lv_iload_n hx hb dX12_lineOf_6 rfl (lv_at hl 2 rfl) ?_
  refine lv_istore (lv' := [(4, .int (nI i)), (3, .int (nI (2 * (m - 1)))), (0, .ref (am 0)), (1, .int (nI i)), (2, .int (nI m))]) hx hb dX12_lineOf_7 hl (by decide) rfl (fun ls hl => ?_)
  have L_9 : ∀ (n9 : Nat), ∀ (q1 : Nat) (x : Nat), (m - q1) < n9 → (q1 ≤ m) → (x = 2 * (m - 1) + sm v i q1) → ∀ (ls : Array Slot), lv_has ls 5 [(0, .ref (am 0)), (1, .int (nI i)), (2, .int (nI m)), (3, .int (nI x)), (4, .int (nI (i + q1)))] → W pp l ee { frames := 0, cells := 0, slots := 0, locals := 0 } ss mm (List.toArray [Value.ref (am 0), Value.int (nI i), Value.int (nI m)]) below meth cc0 ss.heap [] 0 0 Q (F0 mm 9 ls []) := by
    intro n9
    induction n9 with
    | zero => intro q1 x hm9; exact absurd hm9 (Nat.not_lt_zero _)
    | succ n9 ih9 =>
      intro q1 x hm9 hq hx9
      intro ls hl
      refine lv_iload hx hb dX12_lineOf_9 (lv_at hl 4 rfl) ?_
      refine lv_iload_n hx hb dX12_lineOf_11 rfl (lv_at hl 1 rfl) ?_
      refine lv_iload_n hx hb dX12_lineOf_12 rfl (lv_at hl 2 rfl) ?_
      refine lv_iadd hx hb dX12_lineOf_13 ?_
      refine bw_re (show (nI i) + (nI m) = nI (i + m) from nI_add (i) (m)) ?_
      refine bw_icmp_ge (tgt := 33) (a := ((i + q1 : Nat) : Int)) (b := ((i + m : Nat) : Int)) hx hb dX12_lineOf_14 (by decide) (nI_toInt (by omega)) (nI_toInt (by omega)) (fun c_1 => ?_) (fun c_1 => ?_)
      · skip
        refine lv_iload_n hx hb dX12_lineOf_33 rfl (lv_at hl 3 rfl) ?_
        refine bw_Qe hQ ?_
        have hpost : (nI x) = nI (lnN v i m) := by
          have e9 : q1 = m := by omega
          rw [hx9, e9]; rfl
        exact W.iret (v := nI x) hx hb hr (fun t9 ht hW => ⟨_, rfl, hpost, by rw [ht]⟩) (fun q h => by cases h) dX12_lineOf_34
      · skip
        refine lv_iload_n hx hb dX12_lineOf_17 rfl (lv_at hl 3 rfl) ?_
        refine lv_aload_n hx hb dX12_lineOf_18 rfl (lv_at hl 0 rfl) ?_
        refine va_get (D := (dC, dI)) (ci := 12) (v := .ref (am 52)) (C := RX12) (T := TX12) (N := 53) hx hb hts hiX12 hown hK hP 0 rfl rfl 51 (by decide) hL0 (fun _ h9 => h9) rfl dX12_lineOf_19 ?_
        refine lv_iload hx hb dX12_lineOf_22 (lv_at hl 4 rfl) ?_
        refine bw_iald hx hb hK hP 1 0 rfl rfl (j := (i + q1)) (nI_toInt (by omega)) (by omega) dX12_lineOf_24 ?_
        refine bw_re (show zwd (i + q1) = nI (v (i + q1)) from (hv _ (by omega))) ?_
        refine lv_iadd hx hb dX12_lineOf_25 ?_
        refine bw_re (show (nI x) + (nI (v (i + q1))) = nI (x + v (i + q1)) from nI_add (x) (v (i + q1))) ?_
        refine lv_istore_n (lv' := [(3, .int (nI (x + v (i + q1)))), (0, .ref (am 0)), (1, .int (nI i)), (2, .int (nI m)), (4, .int (nI (i + q1)))]) hx hb dX12_lineOf_26 rfl hl (by decide) rfl (fun ls hl => ?_)
        refine lv_iinc (v := nI (i + q1 + 1)) (lv' := [(4, .int (nI (i + q1 + 1))), (3, .int (nI (x + v (i + q1)))), (0, .ref (am 0)), (1, .int (nI i)), (2, .int (nI m))]) hx hb dX12_lineOf_27 hl (k := 4) rfl (show nI (i + q1) + Int32.ofInt 1 = nI (i + q1 + 1) from nI_add (i + q1) 1) (by decide) rfl (fun ls hl => ?_)
        refine lv_goto (tgt := 9) hx hb dX12_lineOf_30 (by decide) ?_
        have hI_hq : (q1 + 1) ≤ m := by
          omega
        have hI_hx9 : (x + v (i + q1)) = 2 * (m - 1) + sm v i (q1 + 1) := by
          rw [hx9]; show _ = 2 * (m - 1) + (sm v i q1 + v (i + q1)); omega
        exact ih9 (q1 + 1) (x + v (i + q1)) (by omega) hI_hq hI_hx9 ls (lv_sub hl [2, 3, 4, 1, 0] rfl)
  have hI_hq : 0 ≤ m := by
    omega
  have hI_hx9 : (2 * (m - 1)) = 2 * (m - 1) + sm v i 0 := by
    rfl
  exact L_9 ((m - 0) + 1) 0 (2 * (m - 1)) (by omega) hI_hq hI_hx9 ls (lv_sub hl [2, 3, 4, 1, 0] rfl)

set_option maxHeartbeats 4000000 in
set_option maxRecDepth 100000 in
theorem c_X12_cell (l : Launch) (dC : Nat → ClassId) (dI : Nat → Nat → Nat) (cy : Nat → ClassId) (k1 : Nat) (k2 : Nat)  : Met l yX12_cell wsX12_cell ({ frames := 0, cells := 0, slots := 0, locals := 0 }) (va_Pc [.int (nI k1), .int (nI k2)] (fun _ => True)) (vp_Si (fun r => r = nI (9 * k1 + k2))) 0 0 (fun _ => False) := by
  refine Met.ofW (cc := cX12_cell) (maxL := 2) (ret := (some .int)) (by decide) rfl ?_
  intro pp ee ss mm args below meth cc0 s₁ B hml hv
  obtain ⟨rfl, -⟩ := hv
  have hx := B.exec
  have hb := B.bytes
  have hr := B.returns
  have hts := atoms_spec (ws := wsX12_cell) B.pre
  have hown : ss.vm.findClass RX12 = some mm.cls := findClass_of_methodNamed B.named
  have hlocks := B.notSynchronized
  have hl := lv_entry ([.int (nI k1), .int (nI k2)]) (n := 2) (Nat.le_of_ble_eq_true rfl)
  rw [lg_entry_eq]
  generalize (lg_sl ([.int (nI k1), .int (nI k2)]) ++ List.replicate (2 - (lg_sl ([.int (nI k1), .int (nI k2)])).length) Slot.unset).toArray = ls at hl ⊢
  have hl : lv_has ls 2 [(0, .int (nI k1)), (1, .int (nI k2))] := hl
  refine bw_Q (fun Q hQ => ?_)
  change W pp l ee { frames := 0, cells := 0, slots := 0, locals := 0 } ss mm _ below meth cc0 ss.heap [] 0 0 Q (F0 mm 0 ls [])
  refine lv_bipush (v := 9) hx hb dX12_cell_0 (by decide) ?_
  refine lv_iload_n hx hb dX12_cell_2 rfl (lv_at hl 0 rfl) ?_
  refine lv_imul hx hb dX12_cell_3 ?_
  refine bw_re (show 9 * (nI k1) = nI (9 * k1) from pk_mul (9) (k1)) ?_
  refine lv_iload_n hx hb dX12_cell_4 rfl (lv_at hl 1 rfl) ?_
  refine lv_iadd hx hb dX12_cell_5 ?_
  refine bw_re (show (nI (9 * k1)) + (nI k2) = nI (9 * k1 + k2) from nI_add (9 * k1) (k2)) ?_
  refine bw_Qe hQ ?_
  have hpost : (nI (9 * k1 + k2)) = nI (9 * k1 + k2) := by
    exact rfl
  exact W.iret (v := nI (9 * k1 + k2)) hx hb hr (fun t9 ht hW => ⟨_, rfl, hpost, by rw [ht]⟩) (fun q h => by cases h) dX12_cell_6

set_option maxHeartbeats 4000000 in
set_option maxRecDepth 100000 in
theorem c_X12_lack (l : Launch) (dC : Nat → ClassId) (dI : Nat → Nat → Nat) (cy : Nat → ClassId) (am : Nat → Nat) (tn : Nat) (zsz : Nat) (zfr : Nat) (zbe : Nat) (zha : Int32) (zva : Int32) (fk : Int32) (fp : Int32) (sn : Nat) (pn : Nat) (qn : Nat) (zss : Int32) (zsy : Int32) (zpy : Int32) (zfs : Int32) (zls : Int32) (an : Nat) (zw : Nat) (zwd : Nat → Int32) (zle : Nat → Int32) (i : Nat) (m : Nat) (lf : Nat) (wd : Nat) (v : Nat → Nat) (hv : wR zwd zw v) (hvb : ∀ k, k < zw → v k ≤ 144) (hzw : zw ≤ 40) (hm : 1 ≤ m) (him : i + m ≤ zw) (hwd : wd ≤ 400) (hl8 : lf ≤ 8) (hle : i + m < zw → 1 ≤ lf → leOK v zw wd zle (lf - 1) (i + m)) : Met l yX12_lack wsX12_lack ({ frames := 1, cells := 0, slots := 0, locals := 24 }) (va_Pc [.ref (am 0), .int (nI i), .int (nI m), .int (nI lf), .int (nI wd)] (fun U => va_P (dC, dI) vwCl [(am 0, .inr (12, [.ref (am 1), .ref (am 2), .ref (am 3), .ref (am 4), .int (nI tn), .int (nI zsz), .int (nI zfr), .int (nI zbe), .int zha, .int zva, .int fk, .int fp, .ref (am 13), .int (nI sn), .ref (am 15), .ref (am 16), .ref (am 17), .ref (am 18), .ref (am 19), .int (nI pn), .int (nI qn), .ref (am 22), .ref (am 23), .ref (am 24), .ref (am 25), .ref (am 26), .ref (am 27), .ref (am 28), .ref (am 29), .ref (am 30), .ref (am 31), .ref (am 32), .ref (am 33), .ref (am 34), .int zss, .int zsy, .int zpy, .int zfs, .int zls, .int (nI an), .ref (am 41), .ref (am 42), .ref (am 43), .ref (am 44), .ref (am 45), .ref (am 46), .ref (am 47), .ref (am 48), .ref (am 49), .ref (am 50), .int (nI zw), .ref (am 52), .ref (am 53)])), (am 52, .inl (cy 0, 40, .inl zwd)), (am 53, .inl (cy 0, 369, .inl zle))] U.heap ∧ va_K (dC, dI) vwCl (tyL cy) U)) (vp_Si (fun r => r.toInt = dr (gL v zw wd lf i m))) 0 0 (fun _ => False) := by
  refine Met.ofW (cc := cX12_lack) (maxL := 7) (ret := (some .int)) (by decide) rfl ?_
  intro pp ee ss mm args below meth cc0 s₁ B hml hv
  obtain ⟨rfl, hP, hK⟩ := hv
  have hx := B.exec
  have hb := B.bytes
  have hr := B.returns
  have hts := atoms_spec (ws := wsX12_lack) B.pre
  have hown : ss.vm.findClass RX12 = some mm.cls := findClass_of_methodNamed B.named
  have hlocks := B.notSynchronized
  have hL0 := hts (.constant RX12 331 (1073741824)) (by decide +kernel)
  have hL1 := hts (.fieldLink RX12 321 "HereLivedModel" "words" "I") (by decide +kernel)
  have hL2 := hts (.fieldLink RX12 212 "HereLivedModel" "least" "[I") (by decide +kernel)
  have hiX12 : ∀ w ∈ wsX120, w ∈ wsX12_lack := by decide +kernel
  have hl := lv_entry ([.ref (am 0), .int (nI i), .int (nI m), .int (nI lf), .int (nI wd)]) (n := 7) (Nat.le_of_ble_eq_true rfl)
  rw [lg_entry_eq]
  generalize (lg_sl ([.ref (am 0), .int (nI i), .int (nI m), .int (nI lf), .int (nI wd)]) ++ List.replicate (7 - (lg_sl ([.ref (am 0), .int (nI i), .int (nI m), .int (nI lf), .int (nI wd)])).length) Slot.unset).toArray = ls at hl ⊢
  have hl : lv_has ls 7 [(0, .ref (am 0)), (1, .int (nI i)), (2, .int (nI m)), (3, .int (nI lf)), (4, .int (nI wd))] := hl
  refine bw_Q (fun Q hQ => ?_)
  change W pp l ee { frames := 1, cells := 0, slots := 0, locals := 24 } ss mm _ below meth cc0 ss.heap [] 0 0 Q (F0 mm 0 ls [])
  have hsb := sm_b (i := i) hvb m him
  have hln := lnN_eq (v := v) (i := i) hm
  have hlb : lnN v i m ≤ 6000 := by unfold lnN; omega
  have hFb := fF_b (v := v) (n := zw) hwd (lf - 1) (i + m)
  refine lv_aload_n hx hb dX12_lack_0 rfl (lv_at hl 0 rfl) ?_
  refine lv_iload_n hx hb dX12_lack_1 rfl (lv_at hl 1 rfl) ?_
  refine lv_iload_n hx hb dX12_lack_2 rfl (lv_at hl 2 rfl) ?_
  have hPc : va_P (dC, dI) vwCl [(am 0, .inr (12, [.ref (am 1), .ref (am 2), .ref (am 3), .ref (am 4), .int (nI tn), .int (nI zsz), .int (nI zfr), .int (nI zbe), .int zha, .int zva, .int fk, .int fp, .ref (am 13), .int (nI sn), .ref (am 15), .ref (am 16), .ref (am 17), .ref (am 18), .ref (am 19), .int (nI pn), .int (nI qn), .ref (am 22), .ref (am 23), .ref (am 24), .ref (am 25), .ref (am 26), .ref (am 27), .ref (am 28), .ref (am 29), .ref (am 30), .ref (am 31), .ref (am 32), .ref (am 33), .ref (am 34), .int zss, .int zsy, .int zpy, .int zfs, .int zls, .int (nI an), .ref (am 41), .ref (am 42), .ref (am 43), .ref (am 44), .ref (am 45), .ref (am 46), .ref (am 47), .ref (am 48), .ref (am 49), .ref (am 50), .int (nI zw), .ref (am 52), .ref (am 53)])), (am 52, .inl (cy 0, 40, .inl zwd))] ss.heap := hP.sub [0, 1] rfl
  refine vp_callSi (va_Run.run (va_runV (As := [.int (nI i), .int (nI m)]) (rest := []) ⟨hx, hb, hml, hown, hts⟩ (c_X12_lineOf l dC dI cy am tn zsz zfr zbe zha zva fk fp sn pn qn zss zsy zpy zfs zls an zw zwd i m v (by first | assumption | omega) (by first | assumption | omega) (by first | assumption | omega) (by first | assumption | omega) (by first | assumption | omega)) (cwV 2 hts gX12_lack_X12_lineOf rfl rfl rfl (by decide +kernel) ⟨Nat.le_of_ble_eq_true rfl, Nat.le_of_ble_eq_true rfl⟩) ⟨fun a U g mk q => by obtain ⟨q0, qP, qK⟩ := q; exact ⟨q0, qP, va_K.moved (u := U) (U := U.calling g mk a) (Vm.Alike.refl U.vm) qK⟩, va_recv hK hPc (ci := 12) (q0 := 0) rfl rfl, fun U hU hW => ⟨rfl, by rw [hU]; exact hPc, va_K.moved hW.alike hK⟩⟩ rfl rfl hl.1 rfl (lv_room (Nat.le_of_ble_eq_true rfl)) dX12_lack_3 ⟨Nat.le_of_ble_eq_true rfl, Nat.le_of_ble_eq_true rfl⟩)) (fun r_1 hr_1 => ?_)
  rw [hr_1]
  refine lv_istore (lv' := [(5, .int (nI (lnN v i m))), (0, .ref (am 0)), (1, .int (nI i)), (2, .int (nI m)), (3, .int (nI lf)), (4, .int (nI wd))]) hx hb dX12_lack_6 hl (by decide) rfl (fun ls hl => ?_)
  refine lv_iload hx hb dX12_lack_8 (lv_at hl 0 rfl) ?_
  refine lv_iload hx hb dX12_lack_10 (lv_at hl 5 rfl) ?_
  refine bw_icmp_gt (tgt := 19) (a := ((lnN v i m : Nat) : Int)) (b := ((wd : Nat) : Int)) hx hb dX12_lack_12 (by decide) (nI_toInt (by omega)) (nI_toInt (by omega)) (fun c_2 => ?_) (fun c_2 => ?_)
  · skip
    refine lv_ldcw hx hb hown hL0 dX12_lack_19 ?_
    refine bw_Qe hQ ?_
    have hpost : (1073741824 : Int32).toInt = dr (gL v zw wd lf i m) := by
      have q9 : (1073741824 : Int32).toInt = 1073741824 := rfl
      have e9 : gL v zw wd lf i m = -1 := by
        unfold gL
        by_cases q : lf = 0
        · exact if_pos q
        · rw [if_neg q]; unfold cst; exact if_pos (by omega)
      rw [e9]; rfl
    exact W.iret (v := 1073741824) hx hb hr (fun t9 ht hW => ⟨_, rfl, hpost, by rw [ht]⟩) (fun q h => by cases h) dX12_lack_22
  · skip
    refine lv_iload_n hx hb dX12_lack_15 rfl (lv_at hl 4 rfl) ?_
    refine bw_if_ne (tgt := 23) (a := ((lf : Nat) : Int)) hx hb dX12_lack_16 (by decide) (nI_toInt (by omega)) (fun c_3 => ?_) (fun c_3 => ?_)
    · skip
      refine lv_iload_n hx hb dX12_lack_23 rfl (lv_at hl 2 rfl) ?_
      refine lv_iload_n hx hb dX12_lack_24 rfl (lv_at hl 3 rfl) ?_
      refine lv_iadd hx hb dX12_lack_25 ?_
      refine bw_re (show (nI i) + (nI m) = nI (i + m) from nI_add (i) (m)) ?_
      refine lv_aload_n hx hb dX12_lack_26 rfl (lv_at hl 1 rfl) ?_
      refine va_get (D := (dC, dI)) (ci := 12) (v := .int (nI zw)) (C := RX12) (T := TX12) (N := 53) hx hb hts hiX12 hown hK hP 0 rfl rfl 50 (by decide) hL1 (fun _ h9 => h9) rfl dX12_lack_27 ?_
      refine bw_icmp_ne (tgt := 35) (a := ((i + m : Nat) : Int)) (b := ((zw : Nat) : Int)) hx hb dX12_lack_30 (by decide) (nI_toInt (by omega)) (nI_toInt (by omega)) (fun c_4 => ?_) (fun c_4 => ?_)
      · skip
        have hl9 := hle (by omega) (by omega)
        unfold leOK at hl9
        have hdr : fF v zw wd (lf - 1) (i + m) = -1 ∧ dr (fF v zw wd (lf - 1) (i + m)) = 1073741824 ∨ fF v zw wd (lf - 1) (i + m) ≠ -1 ∧ dr (fF v zw wd (lf - 1) (i + m)) = fF v zw wd (lf - 1) (i + m) := by
          by_cases q : fF v zw wd (lf - 1) (i + m) = -1
          · exact Or.inl ⟨q, by rw [q]; rfl⟩
          · exact Or.inr ⟨q, dr_o q⟩
        have hsq := sq_b (x := ((wd : Nat) : Int) - ((lnN v i m : Nat) : Int)) (by omega) (by omega)
        refine lv_aload_n hx hb dX12_lack_35 rfl (lv_at hl 1 rfl) ?_
        refine va_get (D := (dC, dI)) (ci := 12) (v := .ref (am 53)) (C := RX12) (T := TX12) (N := 53) hx hb hts hiX12 hown hK hP 0 rfl rfl 52 (by decide) hL2 (fun _ h9 => h9) rfl dX12_lack_36 ?_
        refine lv_iload_n hx hb dX12_lack_39 rfl (lv_at hl 2 rfl) ?_
        refine lv_iload_n hx hb dX12_lack_40 rfl (lv_at hl 3 rfl) ?_
        refine lv_iadd hx hb dX12_lack_41 ?_
        refine bw_re (show (nI i) + (nI m) = nI (i + m) from nI_add (i) (m)) ?_
        refine lv_iload_n hx hb dX12_lack_42 rfl (lv_at hl 4 rfl) ?_
        refine lv_iconst (v := 1) hx hb dX12_lack_43 (by decide) ?_
        refine lv_isub hx hb dX12_lack_44 ?_
        refine bw_re (show (nI lf) - 1 = nI (lf - 1) from pk_sub (a := lf) (b := 1) (by omega)) ?_
        refine vp_callSi (va_Run.run (va_runS (As := [.int (nI (i + m)), .int (nI (lf - 1))]) (rest := [.ref (am 53)]) ⟨hx, hb, hml, hown, hts⟩ (c_X12_cell l dC dI cy (i + m) (lf - 1)) (va_cwS 2 hts gX12_lack_X12_cell rfl rfl rfl (by decide +kernel) ⟨Nat.le_of_ble_eq_true rfl, Nat.le_of_ble_eq_true rfl⟩) ⟨fun a U g mk q => q, fun U hU hW => ⟨rfl, trivial⟩⟩ rfl rfl hl.1 rfl (lv_room (Nat.le_of_ble_eq_true rfl)) dX12_lack_45 ⟨Nat.le_of_ble_eq_true rfl, Nat.le_of_ble_eq_true rfl⟩)) (fun r_5 hr_5 => ?_)
        rw [hr_5]
        refine bw_iald hx hb hK hP 2 0 rfl rfl (j := (9 * (i + m) + (lf - 1))) (nI_toInt (by omega)) (by omega) dX12_lack_48 ?_
        refine lv_istore (lv' := [(6, .int (zle (9 * (i + m) + (lf - 1)))), (5, .int (nI (lnN v i m))), (0, .ref (am 0)), (1, .int (nI i)), (2, .int (nI m)), (3, .int (nI lf)), (4, .int (nI wd))]) hx hb dX12_lack_49 hl (by decide) rfl (fun ls hl => ?_)
        refine lv_iload hx hb dX12_lack_51 (lv_at hl 0 rfl) ?_
        refine lv_ldcw hx hb hown hL0 dX12_lack_53 ?_
        refine bw_icmp_lt (tgt := 65) (a := (zle (9 * (i + m) + (lf - 1))).toInt) (b := 1073741824) hx hb dX12_lack_56 (by decide) rfl rfl (fun c_6 => ?_) (fun c_6 => ?_)
        · skip
          refine lv_iload hx hb dX12_lack_65 (lv_at hl 6 rfl) ?_
          refine lv_iload hx hb dX12_lack_67 (lv_at hl 1 rfl) ?_
          refine lv_isub hx hb dX12_lack_69 ?_
          refine bw_nm (a := (((wd : Nat) : Int) - ((lnN v i m : Nat) : Int))) (tI_sub (nI_toInt (by omega)) (nI_toInt (by omega)) (by omega) (by omega)) (fun z_7 ez_7 tz_7 => ?_)
          refine lv_iload hx hb dX12_lack_70 (lv_at hl 6 rfl) ?_
          refine lv_iload hx hb dX12_lack_72 (lv_at hl 1 rfl) ?_
          refine lv_isub hx hb dX12_lack_74 ?_
          refine bw_nm (a := (((wd : Nat) : Int) - ((lnN v i m : Nat) : Int))) (tI_sub (nI_toInt (by omega)) (nI_toInt (by omega)) (by omega) (by omega)) (fun z_8 ez_8 tz_8 => ?_)
          refine lv_imul hx hb dX12_lack_75 ?_
          refine bw_nm (a := ((((wd : Nat) : Int) - ((lnN v i m : Nat) : Int)) * (((wd : Nat) : Int) - ((lnN v i m : Nat) : Int)))) (tI_mul tz_7 tz_8 (by omega) (by omega)) (fun z_9 ez_9 tz_9 => ?_)
          refine lv_iload hx hb dX12_lack_76 (lv_at hl 0 rfl) ?_
          refine lv_iadd hx hb dX12_lack_78 ?_
          refine bw_nm (a := (((((wd : Nat) : Int) - ((lnN v i m : Nat) : Int)) * (((wd : Nat) : Int) - ((lnN v i m : Nat) : Int))) + (zle (9 * (i + m) + (lf - 1))).toInt)) (tI_add tz_9 rfl (by omega) (by omega)) (fun zr ezr tzr => ?_)
          refine bw_Qe hQ ?_
          have hpost : zr.toInt = dr (gL v zw wd lf i m) := by
            have q9 : (1073741824 : Int32).toInt = 1073741824 := rfl
            first
              | (have e9 : gL v zw wd lf i m = -1 := by
                   unfold gL; rw [if_neg (by omega)]; unfold cst; rw [if_neg (by omega), if_neg (by omega)]; exact if_pos (by omega)
                 rw [e9]; rfl)
              | (have e9 : gL v zw wd lf i m = (((wd : Nat) : Int) - ((lnN v i m : Nat) : Int)) * (((wd : Nat) : Int) - ((lnN v i m : Nat) : Int)) + fF v zw wd (lf - 1) (i + m) := by
                   unfold gL; rw [if_neg (by omega)]; unfold cst; rw [if_neg (by omega), if_neg (by omega), if_neg (by omega), hln]
                 rw [e9, dr_o (by omega)]
                 omega)
          exact W.iret (v := zr) hx hb hr (fun t9 ht hW => ⟨_, rfl, hpost, by rw [ht]⟩) (fun q h => by cases h) dX12_lack_79
        · skip
          refine lv_ldcw hx hb hown hL0 dX12_lack_59 ?_
          refine lv_goto (tgt := 79) hx hb dX12_lack_62 (by decide) ?_
          refine bw_Qe hQ ?_
          have hpost : (1073741824 : Int32).toInt = dr (gL v zw wd lf i m) := by
            have q9 : (1073741824 : Int32).toInt = 1073741824 := rfl
            first
              | (have e9 : gL v zw wd lf i m = -1 := by
                   unfold gL; rw [if_neg (by omega)]; unfold cst; rw [if_neg (by omega), if_neg (by omega)]; exact if_pos (by omega)
                 rw [e9]; rfl)
              | (have e9 : gL v zw wd lf i m = (((wd : Nat) : Int) - ((lnN v i m : Nat) : Int)) * (((wd : Nat) : Int) - ((lnN v i m : Nat) : Int)) + fF v zw wd (lf - 1) (i + m) := by
                   unfold gL; rw [if_neg (by omega)]; unfold cst; rw [if_neg (by omega), if_neg (by omega), if_neg (by omega), hln]
                 rw [e9, dr_o (by omega)]
                 omega)
          exact W.iret (v := 1073741824) hx hb hr (fun t9 ht hW => ⟨_, rfl, hpost, by rw [ht]⟩) (fun q h => by cases h) dX12_lack_79
      · skip
        refine lv_iconst (v := 0) hx hb dX12_lack_33 (by decide) ?_
        refine bw_Qe hQ ?_
        have hpost : (0 : Int32).toInt = dr (gL v zw wd lf i m) := by
          have e9 : gL v zw wd lf i m = 0 := by
            unfold gL; rw [if_neg (by omega)]; unfold cst; rw [if_neg (by omega)]; exact if_pos (by omega)
          rw [e9]; rfl
        exact W.iret (v := 0) hx hb hr (fun t9 ht hW => ⟨_, rfl, hpost, by rw [ht]⟩) (fun q h => by cases h) dX12_lack_34
    · skip
      refine lv_ldcw hx hb hown hL0 dX12_lack_19 ?_
      refine bw_Qe hQ ?_
      have hpost : (1073741824 : Int32).toInt = dr (gL v zw wd lf i m) := by
        have q9 : (1073741824 : Int32).toInt = 1073741824 := rfl
        have e9 : gL v zw wd lf i m = -1 := by
          unfold gL
          by_cases q : lf = 0
          · exact if_pos q
          · rw [if_neg q]; unfold cst; exact if_pos (by omega)
        rw [e9]; rfl
      exact W.iret (v := 1073741824) hx hb hr (fun t9 ht hW => ⟨_, rfl, hpost, by rw [ht]⟩) (fun q h => by cases h) dX12_lack_22

theorem cst_1 {v : Nat → Nat} {n W : Nat} {G : Nat → Int} {i m : Nat} {s : Int} (h : lnW v i m ≤ W) (hs : s = if i + m = n then 0 else G (i + m)) (h1 : s = -1) : cst v n W G i m = -1 := by
  unfold cst
  by_cases q : i + m = n
  · rw [if_pos q] at hs; omega
  · rw [if_neg q] at hs
    rw [if_neg (by omega), if_neg q]; exact if_pos (by omega)
theorem cst_2 {v : Nat → Nat} {n W : Nat} {G : Nat → Int} {i m : Nat} {s : Int} (h : lnW v i m ≤ W) (hs : s = if i + m = n then 0 else G (i + m)) (hn : i + m = n) : cst v n W G i m = s := by
  unfold cst
  rw [if_pos hn] at hs
  rw [if_neg (by omega), if_pos hn, hs]
theorem cst_3 {v : Nat → Nat} {n W : Nat} {G : Nat → Int} {i m : Nat} {s x : Int} (h : lnW v i m ≤ W) (hs : s = if i + m = n then 0 else G (i + m)) (h1 : s ≠ -1) (hn : i + m ≠ n) (hx : x = (W : Int) - lnW v i m) : cst v n W G i m = s + x * x := by
  unfold cst
  rw [if_neg hn] at hs
  rw [if_neg (by omega), if_neg hn, if_neg (by omega), hx, hs]; omega
theorem fOK_upd {v : Nat → Nat} {n W : Nat} {f g : Nat → Int32} {l j p : Nat} {x y : Int32} (h : fOK v n W f g l j) (hp : l * 41 + j ≠ p) : fOK v n W (upd f p x) (upd g p y) l j := by
  unfold fOK; rw [pk_un hp, pk_un hp]; exact h
theorem fOK_new {v : Nat → Nat} {n W : Nat} {f g : Nat → Int32} {l j t : Nat} {x : Int32} (hx : x.toInt = fF v n W l j) (ht : t = fC v n W l j) : fOK v n W (upd f (l * 41 + j) x) (upd g (l * 41 + j) (nI t)) l j := by
  unfold fOK; rw [pk_us, pk_us, ht]; exact ⟨hx, rfl⟩
def rwP (v : Nat → Nat) (n W L nl : Nat) (fw fx : Nat → Int32) : Prop := rowP v n W L nl ∧ ∀ j, j < nl → fw j = hW v n W L j ∧ fx j = hX v n W L j
def fitP (v : Nat → Nat) (n W L : Nat) (r : Int32) (nl : Nat) (fw fx : Nat → Int32) : Prop := (r = 0 ∧ fF v n W L 0 = -1) ∨ (r = 1 ∧ fF v n W L 0 ≠ -1 ∧ rwP v n W L nl fw fx)
set_option maxHeartbeats 4000000 in
set_option maxRecDepth 100000 in
theorem c_X1_sumBehind (l : Launch) (dC : Nat → ClassId) (dI : Nat → Nat → Nat) (cy : Nat → ClassId) (ad : Nat → Nat) (fl : Nat) (fs : Nat → Int32) (n : Nat) (lf : Nat) (nx : Nat) (hl : lf ≤ 8) (hnx : nx ≤ 40) (hn : n ≤ 40) : Met l yX1_sumBehind wsX1_sumBehind ({ frames := 0, cells := 0, slots := 0, locals := 0 }) (va_Pc [.ref (ad 43), .int (nI n), .int (nI lf), .int (nI nx)] (fun U => va_P (dC, dI) vwCl [(ad 43, .inr (1, [.int (nI fl), .ref (ad 44), .ref (ad 45), .ref (ad 46), .ref (ad 47)])), (ad 46, .inl (cy 0, 369, .inl fs))] U.heap ∧ va_K (dC, dI) vwCl (tyL cy) U)) (vp_Si (fun r => r.toInt = sbV fs n lf nx)) 0 0 (fun _ => False) := by
  refine Met.ofW (cc := cX1_sumBehind) (maxL := 4) (ret := (some .int)) (by decide) rfl ?_
  intro pp ee ss mm args below meth cc0 s₁ B hml hv
  obtain ⟨rfl, hP, hK⟩ := hv
  have hx := B.exec
  have hb := B.bytes
  have hr := B.returns
  have hts := atoms_spec (ws := wsX1_sumBehind) B.pre
  have hown : ss.vm.findClass RX1 = some mm.cls := findClass_of_methodNamed B.named
  have hlocks := B.notSynchronized
  have hL0 := hts (.fieldLink RX1 18 "HereLived$Fitting" "sum" "[I") (by decide +kernel)
  have hiX1 : ∀ w ∈ wsX10, w ∈ wsX1_sumBehind := by decide +kernel
  have hl := lv_entry ([.ref (ad 43), .int (nI n), .int (nI lf), .int (nI nx)]) (n := 4) (Nat.le_of_ble_eq_true rfl)
  rw [lg_entry_eq]
  generalize (lg_sl ([.ref (ad 43), .int (nI n), .int (nI lf), .int (nI nx)]) ++ List.replicate (4 - (lg_sl ([.ref (ad 43), .int (nI n), .int (nI lf), .int (nI nx)])).length) Slot.unset).toArray = ls at hl ⊢
  have hl : lv_has ls 4 [(0, .ref (ad 43)), (1, .int (nI n)), (2, .int (nI lf)), (3, .int (nI nx))] := hl
  refine bw_Q (fun Q hQ => ?_)
  change W pp l ee { frames := 0, cells := 0, slots := 0, locals := 0 } ss mm _ below meth cc0 ss.heap [] 0 0 Q (F0 mm 0 ls [])
  refine lv_iload_n hx hb dX1_sumBehind_0 rfl (lv_at hl 3 rfl) ?_
  refine lv_iload_n hx hb dX1_sumBehind_1 rfl (lv_at hl 1 rfl) ?_
  refine bw_icmp_ne (tgt := 7) (a := ((nx : Nat) : Int)) (b := ((n : Nat) : Int)) hx hb dX1_sumBehind_2 (by decide) (nI_toInt (by omega)) (nI_toInt (by omega)) (fun c_1 => ?_) (fun c_1 => ?_)
  · skip
    refine lv_iload_n hx hb dX1_sumBehind_7 rfl (lv_at hl 2 rfl) ?_
    refine lv_iconst (v := 1) hx hb dX1_sumBehind_8 (by decide) ?_
    refine bw_icmp_le (tgt := 28) (a := ((lf : Nat) : Int)) (b := 1) hx hb dX1_sumBehind_9 (by decide) (nI_toInt (by omega)) rfl (fun c_2 => ?_) (fun c_2 => ?_)
    · skip
      refine lv_iconst (v := (-1)) hx hb dX1_sumBehind_28 (by decide) ?_
      refine bw_Qe hQ ?_
      have hpost : ((-1) : Int32).toInt = sbV fs n lf nx := by
        unfold sbV
        rw [if_neg (by omega)]
        first
          | (rw [if_pos (by omega)])
          | (rw [if_neg (by omega)]; rfl)
      exact W.iret (v := (-1)) hx hb hr (fun t9 ht hW => ⟨_, rfl, hpost, by rw [ht]⟩) (fun q h => by cases h) dX1_sumBehind_29
    · skip
      refine lv_aload_n hx hb dX1_sumBehind_12 rfl (lv_at hl 0 rfl) ?_
      refine va_get (D := (dC, dI)) (ci := 1) (v := .ref (ad 46)) (C := RX1) (T := TX1) (N := 5) hx hb hts hiX1 hown hK hP 0 rfl rfl 3 (by decide) hL0 (fun _ h9 => h9) rfl dX1_sumBehind_13 ?_
      refine lv_iload_n hx hb dX1_sumBehind_16 rfl (lv_at hl 2 rfl) ?_
      refine lv_iconst (v := 1) hx hb dX1_sumBehind_17 (by decide) ?_
      refine lv_isub hx hb dX1_sumBehind_18 ?_
      refine bw_re (show (nI lf) - 1 = nI (lf - 1) from pk_sub (a := lf) (b := 1) (by omega)) ?_
      refine lv_bipush (v := 41) hx hb dX1_sumBehind_19 (by decide) ?_
      refine lv_imul hx hb dX1_sumBehind_21 ?_
      refine bw_re (show (nI (lf - 1)) * 41 = nI ((lf - 1) * 41) from pk_mul (lf - 1) (41)) ?_
      refine lv_iload_n hx hb dX1_sumBehind_22 rfl (lv_at hl 3 rfl) ?_
      refine lv_iadd hx hb dX1_sumBehind_23 ?_
      refine bw_re (show (nI ((lf - 1) * 41)) + (nI nx) = nI ((lf - 1) * 41 + nx) from nI_add ((lf - 1) * 41) (nx)) ?_
      refine bw_iald hx hb hK hP 1 0 rfl rfl (j := ((lf - 1) * 41 + nx)) (nI_toInt (by omega)) (by omega) dX1_sumBehind_24 ?_
      refine lv_goto (tgt := 29) hx hb dX1_sumBehind_25 (by decide) ?_
      refine bw_Qe hQ ?_
      have hpost : (fs ((lf - 1) * 41 + nx)).toInt = sbV fs n lf nx := by
        unfold sbV
        rw [if_neg (by omega)]
        first
          | (rw [if_pos (by omega)])
          | (rw [if_neg (by omega)]; rfl)
      exact W.iret (v := fs ((lf - 1) * 41 + nx)) hx hb hr (fun t9 ht hW => ⟨_, rfl, hpost, by rw [ht]⟩) (fun q h => by cases h) dX1_sumBehind_29
  · skip
    refine lv_iconst (v := 0) hx hb dX1_sumBehind_5 (by decide) ?_
    refine bw_Qe hQ ?_
    have hpost : (0 : Int32).toInt = sbV fs n lf nx := by
      unfold sbV; rw [if_pos (by omega)]; rfl
    exact W.iret (v := 0) hx hb hr (fun t9 ht hW => ⟨_, rfl, hpost, by rw [ht]⟩) (fun q h => by cases h) dX1_sumBehind_6

set_option maxHeartbeats 4000000 in
set_option maxRecDepth 100000 in
theorem c_X1_fitFrom (l : Launch) (dC : Nat → ClassId) (dI : Nat → Nat → Nat) (cy : Nat → ClassId) (ad : Nat → Nat) (fl : Nat) (fs : Nat → Int32) (ft : Nat → Int32) (wn : Nat) (ww : Nat → Int32) (wd : Nat) (lf : Nat) (i : Nat) (v : Nat → Nat) (sz : Nat) (hv : wR ww wn v) (hvb : ∀ k, k < wn → v k ≤ 144) (hwn : wn ≤ 40) (hwd : wd ≤ 400) (hl1 : 1 ≤ lf) (hl8 : lf ≤ 8) (hi : i < wn) (hprev : 1 < lf → ∀ j, j < wn → fOK v wn wd fs ft (lf - 1) j) : Met l yX1_fitFrom wsX1_fitFrom ({ frames := 1, cells := 0, slots := 0, locals := 23 }) (va_Pc [.ref (ad 43), .ref (ad 41), .int (nI wd), .int (nI lf), .int (nI i)] (fun U => U.heap.size = sz ∧ va_P (dC, dI) vwCl [(ad 43, .inr (1, [.int (nI fl), .ref (ad 44), .ref (ad 45), .ref (ad 46), .ref (ad 47)])), (ad 46, .inl (cy 0, 369, .inl fs)), (ad 47, .inl (cy 0, 369, .inl ft)), (ad 41, .inr (9, [.ref (ad 42), .int (nI wn)])), (ad 42, .inl (cy 0, 40, .inl ww))] U.heap ∧ va_K (dC, dI) vwCl (tyL cy) U ∧ va_D (fun _ => True) [(ad 43, .inr (1, [.int (nI fl), .ref (ad 44), .ref (ad 45), .ref (ad 46), .ref (ad 47)])), (ad 46, .inl (cy 0, 369, .inl fs)), (ad 47, .inl (cy 0, 369, .inl ft)), (ad 41, .inr (9, [.ref (ad 42), .int (nI wn)])), (ad 42, .inl (cy 0, 40, .inl ww))])) (va_Qv (S := Int32 × Nat) (fun u => match u with | (b1, t1) => b1.toInt = fF v wn wd lf i ∧ t1 = fC v wn wd lf i) (fun u => match u with | (b1, t1) => fun t => va_P (dC, dI) vwCl [(ad 43, .inr (1, [.int (nI fl), .ref (ad 44), .ref (ad 45), .ref (ad 46), .ref (ad 47)])), (ad 46, .inl (cy 0, 369, .inl (upd fs (lf * 41 + i) b1))), (ad 47, .inl (cy 0, 369, .inl (upd ft (lf * 41 + i) (nI t1)))), (ad 41, .inr (9, [.ref (ad 42), .int (nI wn)])), (ad 42, .inl (cy 0, 40, .inl ww))] t.heap ∧ va_K (dC, dI) vwCl (tyL cy) t ∧ va_D (va_A [(ad 43, .inr (1, [.int (nI fl), .ref (ad 44), .ref (ad 45), .ref (ad 46), .ref (ad 47)])), (ad 46, .inl (cy 0, 369, .inl fs)), (ad 47, .inl (cy 0, 369, .inl ft)), (ad 41, .inr (9, [.ref (ad 42), .int (nI wn)])), (ad 42, .inl (cy 0, 40, .inl ww))] sz) [(ad 43, .inr (1, [.int (nI fl), .ref (ad 44), .ref (ad 45), .ref (ad 46), .ref (ad 47)])), (ad 46, .inl (cy 0, 369, .inl (upd fs (lf * 41 + i) b1))), (ad 47, .inl (cy 0, 369, .inl (upd ft (lf * 41 + i) (nI t1)))), (ad 41, .inr (9, [.ref (ad 42), .int (nI wn)])), (ad 42, .inl (cy 0, 40, .inl ww))]) (va_A [(ad 43, .inr (1, [.int (nI fl), .ref (ad 44), .ref (ad 45), .ref (ad 46), .ref (ad 47)])), (ad 46, .inl (cy 0, 369, .inl fs)), (ad 47, .inl (cy 0, 369, .inl ft)), (ad 41, .inr (9, [.ref (ad 42), .int (nI wn)])), (ad 42, .inl (cy 0, 40, .inl ww))] sz)) 0 0 (va_A [(ad 43, .inr (1, [.int (nI fl), .ref (ad 44), .ref (ad 45), .ref (ad 46), .ref (ad 47)])), (ad 46, .inl (cy 0, 369, .inl fs)), (ad 47, .inl (cy 0, 369, .inl ft)), (ad 41, .inr (9, [.ref (ad 42), .int (nI wn)])), (ad 42, .inl (cy 0, 40, .inl ww))] sz) := by
  refine Met.ofW (cc := cX1_fitFrom) (maxL := 10) (ret := none) (by decide) rfl ?_
  intro pp ee ss mm args below meth cc0 s₁ B hml hv
  obtain ⟨rfl, hsz, hP, hK, hD0⟩ := hv
  have hx := B.exec
  have hb := B.bytes
  have hr := B.returns
  have hts := atoms_spec (ws := wsX1_fitFrom) B.pre
  have hown : ss.vm.findClass RX1 = some mm.cls := findClass_of_methodNamed B.named
  have hlocks := B.notSynchronized
  have hL0 := hts (.fieldLink RX1 24 "HereLived$Words" "size" "I") (by decide +kernel)
  have hL1 := hts (.fieldLink RX1 18 "HereLived$Fitting" "sum" "[I") (by decide +kernel)
  have hL2 := hts (.fieldLink RX1 21 "HereLived$Fitting" "taken" "[I") (by decide +kernel)
  have hL3 := hts (.fieldLink RX1 38 "HereLived$Words" "widths" "[I") (by decide +kernel)
  have hiX1 : ∀ w ∈ wsX10, w ∈ wsX1_fitFrom := by decide +kernel
  have hiX9 : ∀ w ∈ wsX90, w ∈ wsX1_fitFrom := by decide +kernel
  subst hsz
  have hD := hD0.self (sz := ss.heap.size)
  generalize hAe : va_A [(ad 43, .inr (1, [.int (nI fl), .ref (ad 44), .ref (ad 45), .ref (ad 46), .ref (ad 47)])), (ad 46, .inl (cy 0, 369, .inl fs)), (ad 47, .inl (cy 0, 369, .inl ft)), (ad 41, .inr (9, [.ref (ad 42), .int (nI wn)])), (ad 42, .inl (cy 0, 40, .inl ww))] ss.heap.size = A at hD ⊢
  have hA : ∀ q : Nat, ss.heap.size ≤ q → A q := fun q h => by rw [← hAe]; exact Or.inr h
  have hS : va_S A ss.heap ss.heap [] := va_S.rf
  have hP : va_P (dC, dI) vwCl [(ad 43, .inr (1, [.int (nI fl), .ref (ad 44), .ref (ad 45), .ref (ad 46), .ref (ad 47)])), (ad 46, .inl (cy 0, 369, .inl fs)), (ad 47, .inl (cy 0, 369, .inl ft)), (ad 41, .inr (9, [.ref (ad 42), .int (nI wn)])), (ad 42, .inl (cy 0, 40, .inl ww))] ss.heap := hP
  have hl := lv_entry ([.ref (ad 43), .ref (ad 41), .int (nI wd), .int (nI lf), .int (nI i)]) (n := 10) (Nat.le_of_ble_eq_true rfl)
  rw [lg_entry_eq]
  generalize (lg_sl ([.ref (ad 43), .ref (ad 41), .int (nI wd), .int (nI lf), .int (nI i)]) ++ List.replicate (10 - (lg_sl ([.ref (ad 43), .ref (ad 41), .int (nI wd), .int (nI lf), .int (nI i)])).length) Slot.unset).toArray = ls at hl ⊢
  have hl : lv_has ls 10 [(0, .ref (ad 43)), (1, .ref (ad 41)), (2, .int (nI wd)), (3, .int (nI lf)), (4, .int (nI i))] := hl
  refine bw_Q (fun Q hQ => ?_)
  refine bw_H0 (fun H locs eH eL => ?_)
  have hS : va_S A ss.heap H locs := by rw [eH, eL]; exact hS
  have hP : va_P (dC, dI) vwCl [(ad 43, .inr (1, [.int (nI fl), .ref (ad 44), .ref (ad 45), .ref (ad 46), .ref (ad 47)])), (ad 46, .inl (cy 0, 369, .inl fs)), (ad 47, .inl (cy 0, 369, .inl ft)), (ad 41, .inr (9, [.ref (ad 42), .int (nI wn)])), (ad 42, .inl (cy 0, 40, .inl ww))] H := by rw [eH]; exact hP
  change W pp l ee { frames := 1, cells := 0, slots := 0, locals := 23 } ss mm _ below meth cc0 H locs 0 0 Q (F0 mm 0 ls [])
  refine lv_iconst (v := (-1)) hx hb dX1_fitFrom_0 (by decide) ?_
  refine lv_istore (lv' := [(5, .int (-1)), (0, .ref (ad 43)), (1, .ref (ad 41)), (2, .int (nI wd)), (3, .int (nI lf)), (4, .int (nI i))]) hx hb dX1_fitFrom_1 hl (by decide) rfl (fun ls hl => ?_)
  refine lv_iconst (v := 0) hx hb dX1_fitFrom_3 (by decide) ?_
  refine lv_istore (lv' := [(6, .int 0), (5, .int (-1)), (0, .ref (ad 43)), (1, .ref (ad 41)), (2, .int (nI wd)), (3, .int (nI lf)), (4, .int (nI i))]) hx hb dX1_fitFrom_4 hl (by decide) rfl (fun ls hl => ?_)
  refine lv_bipush (v := (-2)) hx hb dX1_fitFrom_6 (by decide) ?_
  refine lv_istore (lv' := [(7, .int (-2)), (6, .int 0), (5, .int (-1)), (0, .ref (ad 43)), (1, .ref (ad 41)), (2, .int (nI wd)), (3, .int (nI lf)), (4, .int (nI i))]) hx hb dX1_fitFrom_8 hl (by decide) rfl (fun ls hl => ?_)
  refine lv_iload hx hb dX1_fitFrom_10 (lv_at hl 7 rfl) ?_
  refine lv_iconst (v := 1) hx hb dX1_fitFrom_12 (by decide) ?_
  refine lv_iadd hx hb dX1_fitFrom_13 ?_
  refine bw_re (show (nI i) + 1 = nI (i + 1) from nI_add (i) (1)) ?_
  refine lv_istore (lv' := [(8, .int (nI (i + 1))), (7, .int (-2)), (6, .int 0), (5, .int (-1)), (0, .ref (ad 43)), (1, .ref (ad 41)), (2, .int (nI wd)), (3, .int (nI lf)), (4, .int (nI i))]) hx hb dX1_fitFrom_14 hl (by decide) rfl (fun ls hl => ?_)
  have L_16 : ∀ (n9 : Nat), ∀ (m : Nat) (b : Int32) (t : Nat) (u : Int32), (wn - (i + m)) < n9 → (i + m ≤ wn) → (u.toInt = lnW v i m) → (-2 ≤ u.toInt ∧ u.toInt ≤ ((wd : Nat) : Int)) → (b.toInt = (bst (cst v wn wd (fF v wn wd (lf - 1)) i) m).1) → (t = (bst (cst v wn wd (fF v wn wd (lf - 1)) i) m).2) → ∀ (H : Heap) (locs : List Loc), va_P (dC, dI) vwCl [(ad 43, .inr (1, [.int (nI fl), .ref (ad 44), .ref (ad 45), .ref (ad 46), .ref (ad 47)])), (ad 46, .inl (cy 0, 369, .inl fs)), (ad 47, .inl (cy 0, 369, .inl ft)), (ad 41, .inr (9, [.ref (ad 42), .int (nI wn)])), (ad 42, .inl (cy 0, 40, .inl ww))] H → va_D A [(ad 43, .inr (1, [.int (nI fl), .ref (ad 44), .ref (ad 45), .ref (ad 46), .ref (ad 47)])), (ad 46, .inl (cy 0, 369, .inl fs)), (ad 47, .inl (cy 0, 369, .inl ft)), (ad 41, .inr (9, [.ref (ad 42), .int (nI wn)])), (ad 42, .inl (cy 0, 40, .inl ww))] → va_S A ss.heap H locs → ∀ (ls : Array Slot), lv_has ls 10 [(0, .ref (ad 43)), (1, .ref (ad 41)), (2, .int (nI wd)), (3, .int (nI lf)), (4, .int (nI i)), (5, .int b), (6, .int (nI t)), (7, .int u), (8, .int (nI (i + m + 1)))] → W pp l ee { frames := 1, cells := 0, slots := 0, locals := 23 } ss mm (List.toArray [Value.ref (ad 43), Value.ref (ad 41), Value.int (nI wd), Value.int (nI lf), Value.int (nI i)]) below meth cc0 H locs 0 0 Q (F0 mm 16 ls []) := by
    intro n9
    induction n9 with
    | zero => intro m b t u hm9; exact absurd hm9 (Nat.not_lt_zero _)
    | succ n9 ih16 =>
      intro m b t u hm16 hm hu hu2 hb9 ht9
      intro H locs hP hD hS
      intro ls hl
      have hle9 := lnW_s v i m
      refine lv_iload hx hb dX1_fitFrom_16 (lv_at hl 8 rfl) ?_
      refine lv_aload_n hx hb dX1_fitFrom_18 rfl (lv_at hl 1 rfl) ?_
      refine va_get (D := (dC, dI)) (ci := 9) (v := .int (nI wn)) (C := RX9) (T := TX9) (N := 2) hx hb hts hiX9 hown hK hP 3 rfl rfl 1 (by decide) hL0 (fun _ h9 => h9) rfl dX1_fitFrom_19 ?_
      have L_128 : ∀ (b3 : Int32) (t3 : Nat), (b3.toInt = fF v wn wd lf i) → (t3 = fC v wn wd lf i) → ∀ (H : Heap) (locs : List Loc), va_P (dC, dI) vwCl [(ad 43, .inr (1, [.int (nI fl), .ref (ad 44), .ref (ad 45), .ref (ad 46), .ref (ad 47)])), (ad 46, .inl (cy 0, 369, .inl fs)), (ad 47, .inl (cy 0, 369, .inl ft)), (ad 41, .inr (9, [.ref (ad 42), .int (nI wn)])), (ad 42, .inl (cy 0, 40, .inl ww))] H → va_D A [(ad 43, .inr (1, [.int (nI fl), .ref (ad 44), .ref (ad 45), .ref (ad 46), .ref (ad 47)])), (ad 46, .inl (cy 0, 369, .inl fs)), (ad 47, .inl (cy 0, 369, .inl ft)), (ad 41, .inr (9, [.ref (ad 42), .int (nI wn)])), (ad 42, .inl (cy 0, 40, .inl ww))] → va_S A ss.heap H locs → ∀ (ls : Array Slot), lv_has ls 10 [(0, .ref (ad 43)), (1, .ref (ad 41)), (2, .int (nI wd)), (3, .int (nI lf)), (4, .int (nI i)), (5, .int b3), (6, .int (nI t3))] → W pp l ee { frames := 1, cells := 0, slots := 0, locals := 23 } ss mm (List.toArray [Value.ref (ad 43), Value.ref (ad 41), Value.int (nI wd), Value.int (nI lf), Value.int (nI i)]) below meth cc0 H locs 0 0 Q (F0 mm 128 ls []) := by
        intro b3 t3 hb3 ht3
        intro H locs hP hD hS
        intro ls hl
        refine lv_aload_n hx hb dX1_fitFrom_128 rfl (lv_at hl 0 rfl) ?_
        refine va_get (D := (dC, dI)) (ci := 1) (v := .ref (ad 46)) (C := RX1) (T := TX1) (N := 5) hx hb hts hiX1 hown hK hP 0 rfl rfl 3 (by decide) hL1 (fun _ h9 => h9) rfl dX1_fitFrom_129 ?_
        refine lv_iload_n hx hb dX1_fitFrom_132 rfl (lv_at hl 3 rfl) ?_
        refine lv_bipush (v := 41) hx hb dX1_fitFrom_133 (by decide) ?_
        refine lv_imul hx hb dX1_fitFrom_135 ?_
        refine bw_re (show (nI lf) * 41 = nI (lf * 41) from pk_mul (lf) (41)) ?_
        refine lv_iload hx hb dX1_fitFrom_136 (lv_at hl 4 rfl) ?_
        refine lv_iadd hx hb dX1_fitFrom_138 ?_
        refine bw_re (show (nI (lf * 41)) + (nI i) = nI (lf * 41 + i) from nI_add (lf * 41) (i)) ?_
        refine lv_iload hx hb dX1_fitFrom_139 (lv_at hl 5 rfl) ?_
        refine bw_iast hx hb hK hP hD hS 1 0 rfl rfl (j := (lf * 41 + i)) (nI_toInt (by omega)) (by omega) dX1_fitFrom_141 (fun H locs hP hD hS => ?_)
        have hP : va_P (dC, dI) vwCl [(ad 43, .inr (1, [.int (nI fl), .ref (ad 44), .ref (ad 45), .ref (ad 46), .ref (ad 47)])), (ad 46, .inl (cy 0, 369, .inl (upd fs (lf * 41 + i) b3))), (ad 47, .inl (cy 0, 369, .inl ft)), (ad 41, .inr (9, [.ref (ad 42), .int (nI wn)])), (ad 42, .inl (cy 0, 40, .inl ww))] H := hP
        have hD : va_D A [(ad 43, .inr (1, [.int (nI fl), .ref (ad 44), .ref (ad 45), .ref (ad 46), .ref (ad 47)])), (ad 46, .inl (cy 0, 369, .inl (upd fs (lf * 41 + i) b3))), (ad 47, .inl (cy 0, 369, .inl ft)), (ad 41, .inr (9, [.ref (ad 42), .int (nI wn)])), (ad 42, .inl (cy 0, 40, .inl ww))] := hD
        refine lv_aload_n hx hb dX1_fitFrom_142 rfl (lv_at hl 0 rfl) ?_
        refine va_get (D := (dC, dI)) (ci := 1) (v := .ref (ad 47)) (C := RX1) (T := TX1) (N := 5) hx hb hts hiX1 hown hK hP 0 rfl rfl 4 (by decide) hL2 (fun _ h9 => h9) rfl dX1_fitFrom_143 ?_
        refine lv_iload_n hx hb dX1_fitFrom_146 rfl (lv_at hl 3 rfl) ?_
        refine lv_bipush (v := 41) hx hb dX1_fitFrom_147 (by decide) ?_
        refine lv_imul hx hb dX1_fitFrom_149 ?_
        refine bw_re (show (nI lf) * 41 = nI (lf * 41) from pk_mul (lf) (41)) ?_
        refine lv_iload hx hb dX1_fitFrom_150 (lv_at hl 4 rfl) ?_
        refine lv_iadd hx hb dX1_fitFrom_152 ?_
        refine bw_re (show (nI (lf * 41)) + (nI i) = nI (lf * 41 + i) from nI_add (lf * 41) (i)) ?_
        refine lv_iload hx hb dX1_fitFrom_153 (lv_at hl 6 rfl) ?_
        refine bw_iast hx hb hK hP hD hS 2 0 rfl rfl (j := (lf * 41 + i)) (nI_toInt (by omega)) (by omega) dX1_fitFrom_155 (fun H locs hP hD hS => ?_)
        have hP : va_P (dC, dI) vwCl [(ad 43, .inr (1, [.int (nI fl), .ref (ad 44), .ref (ad 45), .ref (ad 46), .ref (ad 47)])), (ad 46, .inl (cy 0, 369, .inl (upd fs (lf * 41 + i) b3))), (ad 47, .inl (cy 0, 369, .inl (upd ft (lf * 41 + i) (nI t3)))), (ad 41, .inr (9, [.ref (ad 42), .int (nI wn)])), (ad 42, .inl (cy 0, 40, .inl ww))] H := hP
        have hD : va_D A [(ad 43, .inr (1, [.int (nI fl), .ref (ad 44), .ref (ad 45), .ref (ad 46), .ref (ad 47)])), (ad 46, .inl (cy 0, 369, .inl (upd fs (lf * 41 + i) b3))), (ad 47, .inl (cy 0, 369, .inl (upd ft (lf * 41 + i) (nI t3)))), (ad 41, .inr (9, [.ref (ad 42), .int (nI wn)])), (ad 42, .inl (cy 0, 40, .inl ww))] := hD
        refine bw_Qe hQ ?_
        have hP9 : va_P (dC, dI) vwCl [(ad 43, .inr (1, [.int (nI fl), .ref (ad 44), .ref (ad 45), .ref (ad 46), .ref (ad 47)])), (ad 46, .inl (cy 0, 369, .inl (upd fs (lf * 41 + i) b3))), (ad 47, .inl (cy 0, 369, .inl (upd ft (lf * 41 + i) (nI t3)))), (ad 41, .inr (9, [.ref (ad 42), .int (nI wn)])), (ad 42, .inl (cy 0, 40, .inl ww))] H := hP.sub [0, 1, 2, 3, 4] rfl
        have hD9 : va_D A [(ad 43, .inr (1, [.int (nI fl), .ref (ad 44), .ref (ad 45), .ref (ad 46), .ref (ad 47)])), (ad 46, .inl (cy 0, 369, .inl (upd fs (lf * 41 + i) b3))), (ad 47, .inl (cy 0, 369, .inl (upd ft (lf * 41 + i) (nI t3)))), (ad 41, .inr (9, [.ref (ad 42), .int (nI wn)])), (ad 42, .inl (cy 0, 40, .inl ww))] := hD.sub [0, 1, 2, 3, 4] (by decide) rfl
        have hpost : b3.toInt = fF v wn wd lf i ∧ t3 = fC v wn wd lf i := by
          exact ⟨hb3, ht3⟩
        exact W.vret hx hb hr (fun t9 ht hW => ⟨⟨(b3, t3), rfl, hpost, by rw [ht]; exact hP9, va_K.moved hW.alike hK, hD9⟩, hS.F ht⟩) hS.2.2 dX1_fitFrom_156
      refine bw_icmp_gt (tgt := 128) (a := ((i + m + 1 : Nat) : Int)) (b := ((wn : Nat) : Int)) hx hb dX1_fitFrom_22 (by decide) (nI_toInt (by omega)) (nI_toInt (by omega)) (fun c_1 => ?_) (fun c_1 => ?_)
      · skip
        have hI_hb3 : b.toInt = fF v wn wd lf i := by
          have e9 : bst (cst v wn wd (fF v wn wd (lf - 1)) i) (wn - i) = bst (cst v wn wd (fF v wn wd (lf - 1)) i) m := by
            first
              | rw [show wn - i = m by omega]
              | (rw [show wn - i = m + (wn - i - m) by omega]
                 exact bst_all _ (fun j a1 a2 => cst_inf (m := m + 1) (by omega) j (by omega)))
          rw [fF_at v wn wd i hl1, e9]; exact hb9
        have hI_ht3 : t = fC v wn wd lf i := by
          have e9 : bst (cst v wn wd (fF v wn wd (lf - 1)) i) (wn - i) = bst (cst v wn wd (fF v wn wd (lf - 1)) i) m := by
            first
              | rw [show wn - i = m by omega]
              | (rw [show wn - i = m + (wn - i - m) by omega]
                 exact bst_all _ (fun j a1 a2 => cst_inf (m := m + 1) (by omega) j (by omega)))
          unfold fC; rw [e9]; exact ht9
        exact L_128 b t hI_hb3 hI_ht3 H locs hP hD hS ls (lv_sub hl [0, 1, 2, 3, 4, 5, 6] rfl)
      · skip
        have hvb1 := hvb (i + m) (by omega)
        refine lv_iload hx hb dX1_fitFrom_25 (lv_at hl 7 rfl) ?_
        refine lv_iconst (v := 2) hx hb dX1_fitFrom_27 (by decide) ?_
        refine lv_aload_n hx hb dX1_fitFrom_28 rfl (lv_at hl 1 rfl) ?_
        refine va_get (D := (dC, dI)) (ci := 9) (v := .ref (ad 42)) (C := RX9) (T := TX9) (N := 2) hx hb hts hiX9 hown hK hP 3 rfl rfl 0 (by decide) hL3 (fun _ h9 => h9) rfl dX1_fitFrom_29 ?_
        refine lv_iload hx hb dX1_fitFrom_32 (lv_at hl 8 rfl) ?_
        refine lv_iconst (v := 1) hx hb dX1_fitFrom_34 (by decide) ?_
        refine lv_isub hx hb dX1_fitFrom_35 ?_
        refine bw_re (show (nI (i + m + 1)) - 1 = nI ((i + m + 1) - 1) from pk_sub (a := i + m + 1) (b := 1) (by omega)) ?_
        refine bw_iald hx hb hK hP 4 0 rfl rfl (j := ((i + m + 1) - 1)) (nI_toInt (by omega)) (by omega) dX1_fitFrom_36 ?_
        refine bw_re (show ww ((i + m + 1) - 1) = nI (v (i + m)) from (by rw [show i + m + 1 - 1 = i + m by omega]; exact hv (i + m) (by omega))) ?_
        refine lv_iadd hx hb dX1_fitFrom_37 ?_
        refine bw_re (show 2 + (nI (v (i + m))) = nI (2 + v (i + m)) from nI_add (2) (v (i + m))) ?_
        refine lv_iadd hx hb dX1_fitFrom_38 ?_
        refine bw_nm (a := (u.toInt + ((2 + v (i + m) : Nat) : Int))) (tI_add rfl (nI_toInt (by omega)) (by omega) (by omega)) (fun un eun tun => ?_)
        refine bw_re (show un = un from rfl) ?_
        refine lv_istore (lv' := [(7, .int un), (0, .ref (ad 43)), (1, .ref (ad 41)), (2, .int (nI wd)), (3, .int (nI lf)), (4, .int (nI i)), (5, .int b), (6, .int (nI t)), (8, .int (nI (i + m + 1)))]) hx hb dX1_fitFrom_39 hl (by decide) rfl (fun ls hl => ?_)
        refine lv_iload hx hb dX1_fitFrom_41 (lv_at hl 0 rfl) ?_
        refine lv_iload_n hx hb dX1_fitFrom_43 rfl (lv_at hl 3 rfl) ?_
        refine bw_icmp_le (tgt := 50) (a := un.toInt) (b := ((wd : Nat) : Int)) hx hb dX1_fitFrom_44 (by decide) rfl (nI_toInt (by omega)) (fun c_2 => ?_) (fun c_2 => ?_)
        · skip
          refine lv_aload_n hx hb dX1_fitFrom_50 rfl (lv_at hl 1 rfl) ?_
          refine lv_aload_n hx hb dX1_fitFrom_51 rfl (lv_at hl 2 rfl) ?_
          refine va_get (D := (dC, dI)) (ci := 9) (v := .int (nI wn)) (C := RX9) (T := TX9) (N := 2) hx hb hts hiX9 hown hK hP 3 rfl rfl 1 (by decide) hL0 (fun _ h9 => h9) rfl dX1_fitFrom_52 ?_
          refine lv_iload_n hx hb dX1_fitFrom_55 rfl (lv_at hl 4 rfl) ?_
          refine lv_iload hx hb dX1_fitFrom_56 (lv_at hl 8 rfl) ?_
          have hPc : va_P (dC, dI) vwCl [(ad 43, .inr (1, [.int (nI fl), .ref (ad 44), .ref (ad 45), .ref (ad 46), .ref (ad 47)])), (ad 46, .inl (cy 0, 369, .inl fs))] H := hP.sub [0, 1] rfl
          refine vp_callSi (va_Run.run (va_runV (As := [.int (nI wn), .int (nI lf), .int (nI (i + m + 1))]) (rest := []) ⟨hx, hb, hml, hown, hts⟩ (c_X1_sumBehind l dC dI cy ad fl fs wn lf (i + m + 1) (by first | assumption | omega) (by first | assumption | omega) (by first | assumption | omega)) (cwV 3 hts gX1_fitFrom_X1_sumBehind rfl rfl rfl (by decide +kernel) ⟨Nat.le_of_ble_eq_true rfl, Nat.le_of_ble_eq_true rfl⟩) ⟨fun a U g mk q => by obtain ⟨q0, qP, qK⟩ := q; exact ⟨q0, qP, va_K.moved (u := U) (U := U.calling g mk a) (Vm.Alike.refl U.vm) qK⟩, va_recv hK hPc (ci := 1) (q0 := 0) rfl rfl, fun U hU hW => ⟨rfl, by rw [hU]; exact hPc, va_K.moved hW.alike hK⟩⟩ rfl rfl hl.1 rfl (lv_room (Nat.le_of_ble_eq_true rfl)) dX1_fitFrom_58 ⟨Nat.le_of_ble_eq_true rfl, Nat.le_of_ble_eq_true rfl⟩)) (fun sb_ hsb_ => ?_)
          have hcw : lnW v i (m + 1) ≤ ((wd : Nat) : Int) := by omega
          have hsF : sb_.toInt = if i + (m + 1) = wn then 0 else fF v wn wd (lf - 1) (i + (m + 1)) := by
            rw [hsb_]; exact sb_F (ft := ft) hl1 (by omega) hprev
          have hFb := fF_b (v := v) (n := wn) hwd (lf - 1) (i + (m + 1))
          have hsb2 : -1 ≤ sb_.toInt ∧ sb_.toInt ≤ 1280000 := by
            by_cases q : i + (m + 1) = wn
            · rw [if_pos q] at hsF; omega
            · rw [if_neg q] at hsF; omega
          have hlp := lnW_pos v i (m := m + 1) (by omega)
          have hsq := sq_b (x := ((wd : Nat) : Int) - un.toInt) (by omega) (by omega)
          refine lv_istore (lv' := [(9, .int sb_), (7, .int un), (0, .ref (ad 43)), (1, .ref (ad 41)), (2, .int (nI wd)), (3, .int (nI lf)), (4, .int (nI i)), (5, .int b), (6, .int (nI t)), (8, .int (nI (i + m + 1)))]) hx hb dX1_fitFrom_61 hl (by decide) rfl (fun ls hl => ?_)
          refine lv_iload hx hb dX1_fitFrom_63 (lv_at hl 0 rfl) ?_
          refine lv_iconst (v := (-1)) hx hb dX1_fitFrom_65 (by decide) ?_
          have L_92 : ∀ (z : Int32), (z.toInt = cst v wn wd (fF v wn wd (lf - 1)) i (m + 1)) → ∀ (H : Heap) (locs : List Loc), va_P (dC, dI) vwCl [(ad 43, .inr (1, [.int (nI fl), .ref (ad 44), .ref (ad 45), .ref (ad 46), .ref (ad 47)])), (ad 46, .inl (cy 0, 369, .inl fs)), (ad 47, .inl (cy 0, 369, .inl ft)), (ad 41, .inr (9, [.ref (ad 42), .int (nI wn)])), (ad 42, .inl (cy 0, 40, .inl ww))] H → va_D A [(ad 43, .inr (1, [.int (nI fl), .ref (ad 44), .ref (ad 45), .ref (ad 46), .ref (ad 47)])), (ad 46, .inl (cy 0, 369, .inl fs)), (ad 47, .inl (cy 0, 369, .inl ft)), (ad 41, .inr (9, [.ref (ad 42), .int (nI wn)])), (ad 42, .inl (cy 0, 40, .inl ww))] → va_S A ss.heap H locs → ∀ (ls : Array Slot), lv_has ls 10 [(0, .ref (ad 43)), (1, .ref (ad 41)), (2, .int (nI wd)), (3, .int (nI lf)), (4, .int (nI i)), (5, .int b), (6, .int (nI t)), (7, .int un), (8, .int (nI (i + m + 1))), (9, .int z)] → W pp l ee { frames := 1, cells := 0, slots := 0, locals := 23 } ss mm (List.toArray [Value.ref (ad 43), Value.ref (ad 41), Value.int (nI wd), Value.int (nI lf), Value.int (nI i)]) below meth cc0 H locs 0 0 Q (F0 mm 92 ls []) := by
            intro z hz
            intro H locs hP hD hS
            intro ls hl
            refine lv_iload hx hb dX1_fitFrom_92 (lv_at hl 9 rfl) ?_
            refine lv_iconst (v := (-1)) hx hb dX1_fitFrom_94 (by decide) ?_
            refine bw_icmp_eq (tgt := 122) (a := z.toInt) (b := (-1)) hx hb dX1_fitFrom_95 (by decide) rfl rfl (fun c_3 => ?_) (fun c_3 => ?_)
            · skip
              refine lv_iinc (v := nI (i + m + 1 + 1)) (lv' := [(8, .int (nI (i + m + 1 + 1))), (0, .ref (ad 43)), (1, .ref (ad 41)), (2, .int (nI wd)), (3, .int (nI lf)), (4, .int (nI i)), (5, .int b), (6, .int (nI t)), (7, .int un), (9, .int z)]) hx hb dX1_fitFrom_122 hl (k := 8) rfl (show nI (i + m + 1) + Int32.ofInt 1 = nI (i + m + 1 + 1) from nI_add (i + m + 1) 1) (by decide) rfl (fun ls hl => ?_)
              refine lv_goto (tgt := 16) hx hb dX1_fitFrom_125 (by decide) ?_
              have hI_hu : un.toInt = lnW v i (m + 1) := by
                omega
              have hI_hu2 : -2 ≤ un.toInt ∧ un.toInt ≤ ((wd : Nat) : Int) := by
                omega
              have hI_hb9 : b.toInt = (bst (cst v wn wd (fF v wn wd (lf - 1)) i) (m + 1)).1 := by
                first
                  | rw [(bst_n (g := cst v wn wd (fF v wn wd (lf - 1)) i) (m := m) (fun q => by have q1 := q.1; have q2 := q.2; rw [← hz] at q1 q2; rw [← hb9] at q2; omega))]; exact hb9
                  | rw [(bst_y (g := cst v wn wd (fF v wn wd (lf - 1)) i) (m := m) ⟨by rw [← hz]; omega, by rw [← hz, ← hb9]; omega⟩)]; exact hz
              have hI_ht9 : t = (bst (cst v wn wd (fF v wn wd (lf - 1)) i) (m + 1)).2 := by
                first
                  | rw [(bst_n (g := cst v wn wd (fF v wn wd (lf - 1)) i) (m := m) (fun q => by have q1 := q.1; have q2 := q.2; rw [← hz] at q1 q2; rw [← hb9] at q2; omega))]; exact ht9
                  | (rw [(bst_y (g := cst v wn wd (fF v wn wd (lf - 1)) i) (m := m) ⟨by rw [← hz]; omega, by rw [← hz, ← hb9]; omega⟩)]; show _ = m + 1; omega)
              exact ih16 (m + 1) b t un (by omega) (by first | assumption | omega) hI_hu hI_hu2 hI_hb9 hI_ht9 H locs hP hD hS ls (lv_sub hl [1, 2, 3, 4, 5, 6, 7, 8, 0] rfl)
            · skip
              refine lv_iload hx hb dX1_fitFrom_98 (lv_at hl 5 rfl) ?_
              refine lv_iconst (v := (-1)) hx hb dX1_fitFrom_100 (by decide) ?_
              refine bw_icmp_eq (tgt := 111) (a := b.toInt) (b := (-1)) hx hb dX1_fitFrom_101 (by decide) rfl rfl (fun c_4 => ?_) (fun c_4 => ?_)
              · skip
                refine lv_iload hx hb dX1_fitFrom_111 (lv_at hl 9 rfl) ?_
                refine lv_istore (lv' := [(5, .int z), (0, .ref (ad 43)), (1, .ref (ad 41)), (2, .int (nI wd)), (3, .int (nI lf)), (4, .int (nI i)), (6, .int (nI t)), (7, .int un), (8, .int (nI (i + m + 1))), (9, .int z)]) hx hb dX1_fitFrom_113 hl (by decide) rfl (fun ls hl => ?_)
                refine lv_iload hx hb dX1_fitFrom_115 (lv_at hl 8 rfl) ?_
                refine lv_iload hx hb dX1_fitFrom_117 (lv_at hl 5 rfl) ?_
                refine lv_isub hx hb dX1_fitFrom_119 ?_
                refine bw_re (show (nI (i + m + 1)) - (nI i) = nI ((i + m + 1) - i) from pk_sub (a := i + m + 1) (b := i) (by omega)) ?_
                refine lv_istore (lv' := [(6, .int (nI ((i + m + 1) - i))), (5, .int z), (0, .ref (ad 43)), (1, .ref (ad 41)), (2, .int (nI wd)), (3, .int (nI lf)), (4, .int (nI i)), (7, .int un), (8, .int (nI (i + m + 1))), (9, .int z)]) hx hb dX1_fitFrom_120 hl (by decide) rfl (fun ls hl => ?_)
                refine lv_iinc (v := nI (i + m + 1 + 1)) (lv' := [(8, .int (nI (i + m + 1 + 1))), (6, .int (nI ((i + m + 1) - i))), (5, .int z), (0, .ref (ad 43)), (1, .ref (ad 41)), (2, .int (nI wd)), (3, .int (nI lf)), (4, .int (nI i)), (7, .int un), (9, .int z)]) hx hb dX1_fitFrom_122 hl (k := 8) rfl (show nI (i + m + 1) + Int32.ofInt 1 = nI (i + m + 1 + 1) from nI_add (i + m + 1) 1) (by decide) rfl (fun ls hl => ?_)
                refine lv_goto (tgt := 16) hx hb dX1_fitFrom_125 (by decide) ?_
                have hI_hu : un.toInt = lnW v i (m + 1) := by
                  omega
                have hI_hu2 : -2 ≤ un.toInt ∧ un.toInt ≤ ((wd : Nat) : Int) := by
                  omega
                have hI_hb9 : z.toInt = (bst (cst v wn wd (fF v wn wd (lf - 1)) i) (m + 1)).1 := by
                  first
                    | rw [(bst_n (g := cst v wn wd (fF v wn wd (lf - 1)) i) (m := m) (fun q => by have q1 := q.1; have q2 := q.2; rw [← hz] at q1 q2; rw [← hb9] at q2; omega))]; exact hb9
                    | rw [(bst_y (g := cst v wn wd (fF v wn wd (lf - 1)) i) (m := m) ⟨by rw [← hz]; omega, by rw [← hz, ← hb9]; omega⟩)]; exact hz
                have hI_ht9 : ((i + m + 1) - i) = (bst (cst v wn wd (fF v wn wd (lf - 1)) i) (m + 1)).2 := by
                  first
                    | rw [(bst_n (g := cst v wn wd (fF v wn wd (lf - 1)) i) (m := m) (fun q => by have q1 := q.1; have q2 := q.2; rw [← hz] at q1 q2; rw [← hb9] at q2; omega))]; exact ht9
                    | (rw [(bst_y (g := cst v wn wd (fF v wn wd (lf - 1)) i) (m := m) ⟨by rw [← hz]; omega, by rw [← hz, ← hb9]; omega⟩)]; show _ = m + 1; omega)
                exact ih16 (m + 1) z ((i + m + 1) - i) un (by omega) (by first | assumption | omega) hI_hu hI_hu2 hI_hb9 hI_ht9 H locs hP hD hS ls (lv_sub hl [3, 4, 5, 6, 7, 2, 1, 8, 0] rfl)
              · skip
                refine lv_iload hx hb dX1_fitFrom_104 (lv_at hl 9 rfl) ?_
                refine lv_iload hx hb dX1_fitFrom_106 (lv_at hl 5 rfl) ?_
                refine bw_icmp_ge (tgt := 122) (a := z.toInt) (b := b.toInt) hx hb dX1_fitFrom_108 (by decide) rfl rfl (fun c_5 => ?_) (fun c_5 => ?_)
                · skip
                  refine lv_iinc (v := nI (i + m + 1 + 1)) (lv' := [(8, .int (nI (i + m + 1 + 1))), (0, .ref (ad 43)), (1, .ref (ad 41)), (2, .int (nI wd)), (3, .int (nI lf)), (4, .int (nI i)), (5, .int b), (6, .int (nI t)), (7, .int un), (9, .int z)]) hx hb dX1_fitFrom_122 hl (k := 8) rfl (show nI (i + m + 1) + Int32.ofInt 1 = nI (i + m + 1 + 1) from nI_add (i + m + 1) 1) (by decide) rfl (fun ls hl => ?_)
                  refine lv_goto (tgt := 16) hx hb dX1_fitFrom_125 (by decide) ?_
                  have hI_hu : un.toInt = lnW v i (m + 1) := by
                    omega
                  have hI_hu2 : -2 ≤ un.toInt ∧ un.toInt ≤ ((wd : Nat) : Int) := by
                    omega
                  have hI_hb9 : b.toInt = (bst (cst v wn wd (fF v wn wd (lf - 1)) i) (m + 1)).1 := by
                    first
                      | rw [(bst_n (g := cst v wn wd (fF v wn wd (lf - 1)) i) (m := m) (fun q => by have q1 := q.1; have q2 := q.2; rw [← hz] at q1 q2; rw [← hb9] at q2; omega))]; exact hb9
                      | rw [(bst_y (g := cst v wn wd (fF v wn wd (lf - 1)) i) (m := m) ⟨by rw [← hz]; omega, by rw [← hz, ← hb9]; omega⟩)]; exact hz
                  have hI_ht9 : t = (bst (cst v wn wd (fF v wn wd (lf - 1)) i) (m + 1)).2 := by
                    first
                      | rw [(bst_n (g := cst v wn wd (fF v wn wd (lf - 1)) i) (m := m) (fun q => by have q1 := q.1; have q2 := q.2; rw [← hz] at q1 q2; rw [← hb9] at q2; omega))]; exact ht9
                      | (rw [(bst_y (g := cst v wn wd (fF v wn wd (lf - 1)) i) (m := m) ⟨by rw [← hz]; omega, by rw [← hz, ← hb9]; omega⟩)]; show _ = m + 1; omega)
                  exact ih16 (m + 1) b t un (by omega) (by first | assumption | omega) hI_hu hI_hu2 hI_hb9 hI_ht9 H locs hP hD hS ls (lv_sub hl [1, 2, 3, 4, 5, 6, 7, 8, 0] rfl)
                · skip
                  refine lv_iload hx hb dX1_fitFrom_111 (lv_at hl 9 rfl) ?_
                  refine lv_istore (lv' := [(5, .int z), (0, .ref (ad 43)), (1, .ref (ad 41)), (2, .int (nI wd)), (3, .int (nI lf)), (4, .int (nI i)), (6, .int (nI t)), (7, .int un), (8, .int (nI (i + m + 1))), (9, .int z)]) hx hb dX1_fitFrom_113 hl (by decide) rfl (fun ls hl => ?_)
                  refine lv_iload hx hb dX1_fitFrom_115 (lv_at hl 8 rfl) ?_
                  refine lv_iload hx hb dX1_fitFrom_117 (lv_at hl 5 rfl) ?_
                  refine lv_isub hx hb dX1_fitFrom_119 ?_
                  refine bw_re (show (nI (i + m + 1)) - (nI i) = nI ((i + m + 1) - i) from pk_sub (a := i + m + 1) (b := i) (by omega)) ?_
                  refine lv_istore (lv' := [(6, .int (nI ((i + m + 1) - i))), (5, .int z), (0, .ref (ad 43)), (1, .ref (ad 41)), (2, .int (nI wd)), (3, .int (nI lf)), (4, .int (nI i)), (7, .int un), (8, .int (nI (i + m + 1))), (9, .int z)]) hx hb dX1_fitFrom_120 hl (by decide) rfl (fun ls hl => ?_)
                  refine lv_iinc (v := nI (i + m + 1 + 1)) (lv' := [(8, .int (nI (i + m + 1 + 1))), (6, .int (nI ((i + m + 1) - i))), (5, .int z), (0, .ref (ad 43)), (1, .ref (ad 41)), (2, .int (nI wd)), (3, .int (nI lf)), (4, .int (nI i)), (7, .int un), (9, .int z)]) hx hb dX1_fitFrom_122 hl (k := 8) rfl (show nI (i + m + 1) + Int32.ofInt 1 = nI (i + m + 1 + 1) from nI_add (i + m + 1) 1) (by decide) rfl (fun ls hl => ?_)
                  refine lv_goto (tgt := 16) hx hb dX1_fitFrom_125 (by decide) ?_
                  have hI_hu : un.toInt = lnW v i (m + 1) := by
                    omega
                  have hI_hu2 : -2 ≤ un.toInt ∧ un.toInt ≤ ((wd : Nat) : Int) := by
                    omega
                  have hI_hb9 : z.toInt = (bst (cst v wn wd (fF v wn wd (lf - 1)) i) (m + 1)).1 := by
                    first
                      | rw [(bst_n (g := cst v wn wd (fF v wn wd (lf - 1)) i) (m := m) (fun q => by have q1 := q.1; have q2 := q.2; rw [← hz] at q1 q2; rw [← hb9] at q2; omega))]; exact hb9
                      | rw [(bst_y (g := cst v wn wd (fF v wn wd (lf - 1)) i) (m := m) ⟨by rw [← hz]; omega, by rw [← hz, ← hb9]; omega⟩)]; exact hz
                  have hI_ht9 : ((i + m + 1) - i) = (bst (cst v wn wd (fF v wn wd (lf - 1)) i) (m + 1)).2 := by
                    first
                      | rw [(bst_n (g := cst v wn wd (fF v wn wd (lf - 1)) i) (m := m) (fun q => by have q1 := q.1; have q2 := q.2; rw [← hz] at q1 q2; rw [← hb9] at q2; omega))]; exact ht9
                      | (rw [(bst_y (g := cst v wn wd (fF v wn wd (lf - 1)) i) (m := m) ⟨by rw [← hz]; omega, by rw [← hz, ← hb9]; omega⟩)]; show _ = m + 1; omega)
                  exact ih16 (m + 1) z ((i + m + 1) - i) un (by omega) (by first | assumption | omega) hI_hu hI_hu2 hI_hb9 hI_ht9 H locs hP hD hS ls (lv_sub hl [3, 4, 5, 6, 7, 2, 1, 8, 0] rfl)
          refine bw_icmp_eq (tgt := 92) (a := sb_.toInt) (b := (-1)) hx hb dX1_fitFrom_66 (by decide) rfl rfl (fun c_1 => ?_) (fun c_1 => ?_)
          · skip
            have hI_hz : sb_.toInt = cst v wn wd (fF v wn wd (lf - 1)) i (m + 1) := by
              first
                | (rw [cst_1 hcw hsF c_1]; exact c_1)
                | (rw [cst_2 hcw hsF (by omega)])
                | (rw [cst_3 (x := ((wd : Nat) : Int) - un.toInt) hcw hsF c_1 (by omega) (by omega)]; exact tzt)
            exact L_92 sb_ hI_hz H locs hP hD hS ls (lv_sub hl [2, 3, 4, 5, 6, 7, 8, 1, 9, 0] rfl)
          · skip
            refine lv_iload hx hb dX1_fitFrom_69 (lv_at hl 9 rfl) ?_
            refine lv_aload_n hx hb dX1_fitFrom_71 rfl (lv_at hl 3 rfl) ?_
            refine va_get (D := (dC, dI)) (ci := 9) (v := .int (nI wn)) (C := RX9) (T := TX9) (N := 2) hx hb hts hiX9 hown hK hP 3 rfl rfl 1 (by decide) hL0 (fun _ h9 => h9) rfl dX1_fitFrom_72 ?_
            refine bw_icmp_ge (tgt := 92) (a := ((i + m + 1 : Nat) : Int)) (b := ((wn : Nat) : Int)) hx hb dX1_fitFrom_75 (by decide) (nI_toInt (by omega)) (nI_toInt (by omega)) (fun c_6 => ?_) (fun c_6 => ?_)
            · skip
              have hI_hz : sb_.toInt = cst v wn wd (fF v wn wd (lf - 1)) i (m + 1) := by
                first
                  | (rw [cst_1 hcw hsF c_1]; exact c_1)
                  | (rw [cst_2 hcw hsF (by omega)])
                  | (rw [cst_3 (x := ((wd : Nat) : Int) - un.toInt) hcw hsF c_1 (by omega) (by omega)]; exact tzt)
              exact L_92 sb_ hI_hz H locs hP hD hS ls (lv_sub hl [2, 3, 4, 5, 6, 7, 8, 1, 9, 0] rfl)
            · skip
              refine lv_iload hx hb dX1_fitFrom_78 (lv_at hl 0 rfl) ?_
              refine lv_iload_n hx hb dX1_fitFrom_80 rfl (lv_at hl 4 rfl) ?_
              refine lv_iload hx hb dX1_fitFrom_81 (lv_at hl 1 rfl) ?_
              refine lv_isub hx hb dX1_fitFrom_83 ?_
              refine bw_nm (a := (((wd : Nat) : Int) - un.toInt)) (tI_sub (nI_toInt (by omega)) rfl (by omega) (by omega)) (fun z_7 ez_7 tz_7 => ?_)
              refine lv_iload_n hx hb dX1_fitFrom_84 rfl (lv_at hl 4 rfl) ?_
              refine lv_iload hx hb dX1_fitFrom_85 (lv_at hl 1 rfl) ?_
              refine lv_isub hx hb dX1_fitFrom_87 ?_
              refine bw_nm (a := (((wd : Nat) : Int) - un.toInt)) (tI_sub (nI_toInt (by omega)) rfl (by omega) (by omega)) (fun z_8 ez_8 tz_8 => ?_)
              refine lv_imul hx hb dX1_fitFrom_88 ?_
              refine bw_nm (a := ((((wd : Nat) : Int) - un.toInt) * (((wd : Nat) : Int) - un.toInt))) (tI_mul tz_7 tz_8 (by omega) (by omega)) (fun z_9 ez_9 tz_9 => ?_)
              refine lv_iadd hx hb dX1_fitFrom_89 ?_
              refine bw_nm (a := (sb_.toInt + ((((wd : Nat) : Int) - un.toInt) * (((wd : Nat) : Int) - un.toInt)))) (tI_add rfl tz_9 (by omega) (by omega)) (fun zt ezt tzt => ?_)
              refine lv_istore (lv' := [(9, .int zt), (7, .int un), (0, .ref (ad 43)), (1, .ref (ad 41)), (2, .int (nI wd)), (3, .int (nI lf)), (4, .int (nI i)), (5, .int b), (6, .int (nI t)), (8, .int (nI (i + m + 1)))]) hx hb dX1_fitFrom_90 hl (by decide) rfl (fun ls hl => ?_)
              have hI_hz : zt.toInt = cst v wn wd (fF v wn wd (lf - 1)) i (m + 1) := by
                first
                  | (rw [cst_1 hcw hsF c_1]; exact c_1)
                  | (rw [cst_2 hcw hsF (by omega)])
                  | (rw [cst_3 (x := ((wd : Nat) : Int) - un.toInt) hcw hsF c_1 (by omega) (by omega)]; exact tzt)
              exact L_92 zt hI_hz H locs hP hD hS ls (lv_sub hl [2, 3, 4, 5, 6, 7, 8, 1, 9, 0] rfl)
        · skip
          refine lv_goto (tgt := 128) hx hb dX1_fitFrom_47 (by decide) ?_
          have hI_hb3 : b.toInt = fF v wn wd lf i := by
            have e9 : bst (cst v wn wd (fF v wn wd (lf - 1)) i) (wn - i) = bst (cst v wn wd (fF v wn wd (lf - 1)) i) m := by
              first
                | rw [show wn - i = m by omega]
                | (rw [show wn - i = m + (wn - i - m) by omega]
                   exact bst_all _ (fun j a1 a2 => cst_inf (m := m + 1) (by omega) j (by omega)))
            rw [fF_at v wn wd i hl1, e9]; exact hb9
          have hI_ht3 : t = fC v wn wd lf i := by
            have e9 : bst (cst v wn wd (fF v wn wd (lf - 1)) i) (wn - i) = bst (cst v wn wd (fF v wn wd (lf - 1)) i) m := by
              first
                | rw [show wn - i = m by omega]
                | (rw [show wn - i = m + (wn - i - m) by omega]
                   exact bst_all _ (fun j a1 a2 => cst_inf (m := m + 1) (by omega) j (by omega)))
            unfold fC; rw [e9]; exact ht9
          exact L_128 b t hI_hb3 hI_ht3 H locs hP hD hS ls (lv_sub hl [1, 2, 3, 4, 5, 6, 7] rfl)
  have hI_hu : ((-2) : Int32).toInt = lnW v i 0 := by
    rfl
  have hI_hu2 : -2 ≤ ((-2) : Int32).toInt ∧ ((-2) : Int32).toInt ≤ ((wd : Nat) : Int) := by
    have q : (-2 : Int32).toInt = -2 := rfl
    omega
  have hI_hb9 : ((-1) : Int32).toInt = (bst (cst v wn wd (fF v wn wd (lf - 1)) i) 0).1 := by
    rfl
  have hI_ht9 : 0 = (bst (cst v wn wd (fF v wn wd (lf - 1)) i) 0).2 := by
    rfl
  exact L_16 ((wn - (i + 0)) + 1) 0 (-1) 0 (-2) (by omega) (by first | assumption | omega) hI_hu hI_hu2 hI_hb9 hI_ht9 H locs hP hD hS ls (lv_sub hl [4, 5, 6, 7, 8, 3, 2, 1, 0] rfl)

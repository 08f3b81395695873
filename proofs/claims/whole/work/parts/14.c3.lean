/-! joining, the tape's bytes -/
def mJoin (mk : Nat → Int32) (p q n : Nat) : Nat → Int32 := fun k => if k < n ∧ (mk k).toInt = (mk q).toInt then mk p else mk k
theorem mJoin_0 (mk : Nat → Int32) (p q : Nat) : mJoin mk p q 0 = mk := by
  funext k; unfold mJoin; rw [if_neg (by omega)]
theorem mJoin_at {mk : Nat → Int32} {p q n k : Nat} (h : n ≤ k) : mJoin mk p q n k = mk k := by unfold mJoin; rw [if_neg (by omega)]
theorem mJoin_p {mk : Nat → Int32} {p q n : Nat} (h : (mk p).toInt ≠ (mk q).toInt) : mJoin mk p q n p = mk p := by unfold mJoin; rw [if_neg (by omega)]
theorem mJoin_hit {mk : Nat → Int32} {p q n : Nat} (h : (mk n).toInt = (mk q).toInt) : upd (mJoin mk p q n) n (mk p) = mJoin mk p q (n + 1) := by
  funext k
  by_cases hk : k = n
  · subst hk; rw [pk_us]; unfold mJoin; rw [if_pos ⟨by omega, h⟩]
  · rw [pk_un hk]; unfold mJoin
    by_cases h2 : k < n ∧ (mk k).toInt = (mk q).toInt
    · rw [if_pos h2, if_pos ⟨by omega, h2.2⟩]
    · rw [if_neg h2, if_neg (fun q => h2 ⟨by omega, q.2⟩)]
theorem mJoin_miss {mk : Nat → Int32} {p q n : Nat} (h : (mk n).toInt ≠ (mk q).toInt) : mJoin mk p q n = mJoin mk p q (n + 1) := by
  funext k
  unfold mJoin
  by_cases h2 : k < n ∧ (mk k).toInt = (mk q).toInt
  · rw [if_pos h2, if_pos ⟨by omega, h2.2⟩]
  · have h3 : ¬ (k < n + 1 ∧ (mk k).toInt = (mk q).toInt) := by
      intro z
      by_cases e : k = n
      · rw [e] at z; exact h z.2
      · exact h2 ⟨by omega, z.2⟩
    rw [if_neg h2, if_neg h3]
def tB (v sh : Int32) : Int32 := (v.toUInt32 >>> (sh.toUInt32 &&& Int32.toUInt32 31)).toInt32 &&& 255
def tApp (tb : Nat → Int32) (n : Nat) (v : Int32) : Nat → Int32 := upd (upd (upd (upd tb n (tB v 24)) (n + 1) (tB v 16)) (n + 1 + 1) (tB v 8)) (n + 1 + 1 + 1) (tB v 0)
def tApp5 (tb : Nat → Int32) (n : Nat) (a b c d e : Int32) : Nat → Int32 := tApp (tApp (tApp (tApp (tApp tb n a) (n + 4) b) (n + 8) c) (n + 12) d) (n + 16) e
/-- a count as an int -/
def ctI (p : Nat → Bool) (n : Nat) : Int32 := nI (fb_ct p n)
/-- the site that it surely is -/
def sOnly (nb fr tt st nu : Nat → Int32) (sn s : Nat) (t m : Int32) (y : Int) : Prop := sSu1 nb fr tt st nu s t m y ∧ ∀ o, o < sn → o ≠ s → ¬ sPos nb fr tt st nu o t m y
def aOK (t n : Int32) : Prop := 0 ≤ t.toInt ∧ t.toInt ≤ 9 ∧ 1 ≤ n.toInt ∧ n.toInt ≤ 999
def yOK (y : Int32) : Prop := 1500 ≤ y.toInt ∧ y.toInt ≤ 2100
set_option maxHeartbeats 4000000 in
set_option maxRecDepth 100000 in
theorem c_X6_addNumbering (l : Launch) (dC : Nat → ClassId) (dI : Nat → Nat → Nat) (cy : Nat → ClassId) (ad : Nat → Nat) (sn : Nat) (nb : Nat → Int32) (fr : Nat → Int32) (tt : Nat → Int32) (st : Nat → Int32) (nu : Nat → Int32) (s : Nat) (k : Nat) (f1 : Int32) (t1 : Int32) (s1 : Int32) (n1 : Int32) (sz : Nat) (hs : s < 40) (hk : nb s = nI k) (hk8 : k < 8) : Met l yX6_addNumbering wsX6_addNumbering ({ frames := 0, cells := 0, slots := 0, locals := 0 }) (va_Pc [.ref (ad 3), .int (nI s), .int f1, .int t1, .int s1, .int n1] (fun U => U.heap.size = sz ∧ va_P (dC, dI) vwCl [(ad 3, .inr (6, [.ref (ad 4), .ref (ad 5), .ref (ad 6), .ref (ad 7), .ref (ad 8), .int (nI sn)])), (ad 4, .inl (cy 0, 40, .inl nb)), (ad 5, .inl (cy 0, 320, .inl fr)), (ad 6, .inl (cy 0, 320, .inl tt)), (ad 7, .inl (cy 0, 320, .inl st)), (ad 8, .inl (cy 0, 320, .inl nu))] U.heap ∧ va_K (dC, dI) vwCl (tyL cy) U ∧ va_D (fun _ => True) [(ad 3, .inr (6, [.ref (ad 4), .ref (ad 5), .ref (ad 6), .ref (ad 7), .ref (ad 8), .int (nI sn)])), (ad 4, .inl (cy 0, 40, .inl nb)), (ad 5, .inl (cy 0, 320, .inl fr)), (ad 6, .inl (cy 0, 320, .inl tt)), (ad 7, .inl (cy 0, 320, .inl st)), (ad 8, .inl (cy 0, 320, .inl nu))])) (va_Qv (S := Unit) (fun _ => True) (fun _ => fun t => va_P (dC, dI) vwCl [(ad 3, .inr (6, [.ref (ad 4), .ref (ad 5), .ref (ad 6), .ref (ad 7), .ref (ad 8), .int (nI sn)])), (ad 4, .inl (cy 0, 40, .inl (upd nb s (nI (k + 1))))), (ad 5, .inl (cy 0, 320, .inl (upd fr (s * 8 + k) f1))), (ad 6, .inl (cy 0, 320, .inl (upd tt (s * 8 + k) t1))), (ad 7, .inl (cy 0, 320, .inl (upd st (s * 8 + k) s1))), (ad 8, .inl (cy 0, 320, .inl (upd nu (s * 8 + k) n1)))] t.heap ∧ va_K (dC, dI) vwCl (tyL cy) t ∧ va_D (va_A [(ad 3, .inr (6, [.ref (ad 4), .ref (ad 5), .ref (ad 6), .ref (ad 7), .ref (ad 8), .int (nI sn)])), (ad 4, .inl (cy 0, 40, .inl nb)), (ad 5, .inl (cy 0, 320, .inl fr)), (ad 6, .inl (cy 0, 320, .inl tt)), (ad 7, .inl (cy 0, 320, .inl st)), (ad 8, .inl (cy 0, 320, .inl nu))] sz) [(ad 3, .inr (6, [.ref (ad 4), .ref (ad 5), .ref (ad 6), .ref (ad 7), .ref (ad 8), .int (nI sn)])), (ad 4, .inl (cy 0, 40, .inl (upd nb s (nI (k + 1))))), (ad 5, .inl (cy 0, 320, .inl (upd fr (s * 8 + k) f1))), (ad 6, .inl (cy 0, 320, .inl (upd tt (s * 8 + k) t1))), (ad 7, .inl (cy 0, 320, .inl (upd st (s * 8 + k) s1))), (ad 8, .inl (cy 0, 320, .inl (upd nu (s * 8 + k) n1)))]) (va_A [(ad 3, .inr (6, [.ref (ad 4), .ref (ad 5), .ref (ad 6), .ref (ad 7), .ref (ad 8), .int (nI sn)])), (ad 4, .inl (cy 0, 40, .inl nb)), (ad 5, .inl (cy 0, 320, .inl fr)), (ad 6, .inl (cy 0, 320, .inl tt)), (ad 7, .inl (cy 0, 320, .inl st)), (ad 8, .inl (cy 0, 320, .inl nu))] sz)) 0 0 (va_A [(ad 3, .inr (6, [.ref (ad 4), .ref (ad 5), .ref (ad 6), .ref (ad 7), .ref (ad 8), .int (nI sn)])), (ad 4, .inl (cy 0, 40, .inl nb)), (ad 5, .inl (cy 0, 320, .inl fr)), (ad 6, .inl (cy 0, 320, .inl tt)), (ad 7, .inl (cy 0, 320, .inl st)), (ad 8, .inl (cy 0, 320, .inl nu))] sz) := by
  refine Met.ofW (cc := cX6_addNumbering) (maxL := 7) (ret := none) (by decide) rfl ?_
  intro pp ee ss mm args below meth cc0 s₁ B hml hv
  obtain ⟨rfl, hsz, hP, hK, hD0⟩ := hv
  have hx := B.exec
  have hb := B.bytes
  have hr := B.returns
  have hts := atoms_spec (ws := wsX6_addNumbering) B.pre
  have hown : ss.vm.findClass RX6 = some mm.cls := findClass_of_methodNamed B.named
  have hlocks := B.notSynchronized
  have hL0 := hts (.fieldLink RX6 9 "HereLived$Sites" "numberings" "[I") (by decide +kernel)
  have hL1 := hts (.fieldLink RX6 15 "HereLived$Sites" "from" "[I") (by decide +kernel)
  have hL2 := hts (.fieldLink RX6 18 "HereLived$Sites" "to" "[I") (by decide +kernel)
  have hL3 := hts (.fieldLink RX6 21 "HereLived$Sites" "street" "[I") (by decide +kernel)
  have hL4 := hts (.fieldLink RX6 24 "HereLived$Sites" "number" "[I") (by decide +kernel)
  have hiX6 : ∀ w ∈ wsX60, w ∈ wsX6_addNumbering := by decide +kernel
  subst hsz
  have hD := hD0.self (sz := ss.heap.size)
  generalize hAe : va_A [(ad 3, .inr (6, [.ref (ad 4), .ref (ad 5), .ref (ad 6), .ref (ad 7), .ref (ad 8), .int (nI sn)])), (ad 4, .inl (cy 0, 40, .inl nb)), (ad 5, .inl (cy 0, 320, .inl fr)), (ad 6, .inl (cy 0, 320, .inl tt)), (ad 7, .inl (cy 0, 320, .inl st)), (ad 8, .inl (cy 0, 320, .inl nu))] ss.heap.size = A at hD ⊢
  have hA : ∀ q : Nat, ss.heap.size ≤ q → A q := fun q h => by rw [← hAe]; exact Or.inr h
  have hS : va_S A ss.heap ss.heap [] := va_S.rf
  have hP : va_P (dC, dI) vwCl [(ad 3, .inr (6, [.ref (ad 4), .ref (ad 5), .ref (ad 6), .ref (ad 7), .ref (ad 8), .int (nI sn)])), (ad 4, .inl (cy 0, 40, .inl nb)), (ad 5, .inl (cy 0, 320, .inl fr)), (ad 6, .inl (cy 0, 320, .inl tt)), (ad 7, .inl (cy 0, 320, .inl st)), (ad 8, .inl (cy 0, 320, .inl nu))] ss.heap := hP
  have hl := lv_entry ([.ref (ad 3), .int (nI s), .int f1, .int t1, .int s1, .int n1]) (n := 7) (Nat.le_of_ble_eq_true rfl)
  rw [lg_entry_eq]
  generalize (lg_sl ([.ref (ad 3), .int (nI s), .int f1, .int t1, .int s1, .int n1]) ++ List.replicate (7 - (lg_sl ([.ref (ad 3), .int (nI s), .int f1, .int t1, .int s1, .int n1])).length) Slot.unset).toArray = ls at hl ⊢
  have hl : lv_has ls 7 [(0, .ref (ad 3)), (1, .int (nI s)), (2, .int f1), (3, .int t1), (4, .int s1), (5, .int n1)] := hl
  refine bw_Q (fun Q hQ => ?_)
  refine bw_H0 (fun H locs eH eL => ?_)
  have hS : va_S A ss.heap H locs := by rw [eH, eL]; exact hS
  have hP : va_P (dC, dI) vwCl [(ad 3, .inr (6, [.ref (ad 4), .ref (ad 5), .ref (ad 6), .ref (ad 7), .ref (ad 8), .int (nI sn)])), (ad 4, .inl (cy 0, 40, .inl nb)), (ad 5, .inl (cy 0, 320, .inl fr)), (ad 6, .inl (cy 0, 320, .inl tt)), (ad 7, .inl (cy 0, 320, .inl st)), (ad 8, .inl (cy 0, 320, .inl nu))] H := by rw [eH]; exact hP
  change W pp l ee { frames := 0, cells := 0, slots := 0, locals := 0 } ss mm _ below meth cc0 H locs 0 0 Q (F0 mm 0 ls [])
  refine lv_iload_n hx hb dX6_addNumbering_0 rfl (lv_at hl 1 rfl) ?_
  refine lv_bipush (v := 8) hx hb dX6_addNumbering_1 (by decide) ?_
  refine lv_imul hx hb dX6_addNumbering_3 ?_
  refine bw_re (show (nI s) * 8 = nI (s * 8) from pk_mul (s) (8)) ?_
  refine lv_aload_n hx hb dX6_addNumbering_4 rfl (lv_at hl 0 rfl) ?_
  refine va_get (D := (dC, dI)) (ci := 6) (v := .ref (ad 4)) (C := RX6) (T := TX6) (N := 6) hx hb hts hiX6 hown hK hP 0 rfl rfl 0 (by decide) hL0 (fun _ h9 => h9) rfl dX6_addNumbering_5 ?_
  refine lv_iload_n hx hb dX6_addNumbering_8 rfl (lv_at hl 1 rfl) ?_
  refine bw_iald hx hb hK hP 1 0 rfl rfl (j := s) (nI_toInt (by omega)) (by omega) dX6_addNumbering_9 ?_
  refine bw_re (show nb s = nI k from hk) ?_
  refine lv_iadd hx hb dX6_addNumbering_10 ?_
  refine bw_re (show (nI (s * 8)) + (nI k) = nI (s * 8 + k) from nI_add (s * 8) (k)) ?_
  refine lv_istore (lv' := [(6, .int (nI (s * 8 + k))), (0, .ref (ad 3)), (1, .int (nI s)), (2, .int f1), (3, .int t1), (4, .int s1), (5, .int n1)]) hx hb dX6_addNumbering_11 hl (by decide) rfl (fun ls hl => ?_)
  refine lv_aload_n hx hb dX6_addNumbering_13 rfl (lv_at hl 1 rfl) ?_
  refine va_get (D := (dC, dI)) (ci := 6) (v := .ref (ad 5)) (C := RX6) (T := TX6) (N := 6) hx hb hts hiX6 hown hK hP 0 rfl rfl 1 (by decide) hL1 (fun _ h9 => h9) rfl dX6_addNumbering_14 ?_
  refine lv_iload hx hb dX6_addNumbering_17 (lv_at hl 0 rfl) ?_
  refine lv_iload_n hx hb dX6_addNumbering_19 rfl (lv_at hl 3 rfl) ?_
  refine bw_iast hx hb hK hP hD hS 2 0 rfl rfl (j := (s * 8 + k)) (nI_toInt (by omega)) (by omega) dX6_addNumbering_20 (fun H locs hP hD hS => ?_)
  have hP : va_P (dC, dI) vwCl [(ad 3, .inr (6, [.ref (ad 4), .ref (ad 5), .ref (ad 6), .ref (ad 7), .ref (ad 8), .int (nI sn)])), (ad 4, .inl (cy 0, 40, .inl nb)), (ad 5, .inl (cy 0, 320, .inl (upd fr (s * 8 + k) f1))), (ad 6, .inl (cy 0, 320, .inl tt)), (ad 7, .inl (cy 0, 320, .inl st)), (ad 8, .inl (cy 0, 320, .inl nu))] H := hP
  have hD : va_D A [(ad 3, .inr (6, [.ref (ad 4), .ref (ad 5), .ref (ad 6), .ref (ad 7), .ref (ad 8), .int (nI sn)])), (ad 4, .inl (cy 0, 40, .inl nb)), (ad 5, .inl (cy 0, 320, .inl (upd fr (s * 8 + k) f1))), (ad 6, .inl (cy 0, 320, .inl tt)), (ad 7, .inl (cy 0, 320, .inl st)), (ad 8, .inl (cy 0, 320, .inl nu))] := hD
  refine lv_aload_n hx hb dX6_addNumbering_21 rfl (lv_at hl 1 rfl) ?_
  refine va_get (D := (dC, dI)) (ci := 6) (v := .ref (ad 6)) (C := RX6) (T := TX6) (N := 6) hx hb hts hiX6 hown hK hP 0 rfl rfl 2 (by decide) hL2 (fun _ h9 => h9) rfl dX6_addNumbering_22 ?_
  refine lv_iload hx hb dX6_addNumbering_25 (lv_at hl 0 rfl) ?_
  refine lv_iload_n hx hb dX6_addNumbering_27 rfl (lv_at hl 4 rfl) ?_
  refine bw_iast hx hb hK hP hD hS 3 0 rfl rfl (j := (s * 8 + k)) (nI_toInt (by omega)) (by omega) dX6_addNumbering_28 (fun H locs hP hD hS => ?_)
  have hP : va_P (dC, dI) vwCl [(ad 3, .inr (6, [.ref (ad 4), .ref (ad 5), .ref (ad 6), .ref (ad 7), .ref (ad 8), .int (nI sn)])), (ad 4, .inl (cy 0, 40, .inl nb)), (ad 5, .inl (cy 0, 320, .inl (upd fr (s * 8 + k) f1))), (ad 6, .inl (cy 0, 320, .inl (upd tt (s * 8 + k) t1))), (ad 7, .inl (cy 0, 320, .inl st)), (ad 8, .inl (cy 0, 320, .inl nu))] H := hP
  have hD : va_D A [(ad 3, .inr (6, [.ref (ad 4), .ref (ad 5), .ref (ad 6), .ref (ad 7), .ref (ad 8), .int (nI sn)])), (ad 4, .inl (cy 0, 40, .inl nb)), (ad 5, .inl (cy 0, 320, .inl (upd fr (s * 8 + k) f1))), (ad 6, .inl (cy 0, 320, .inl (upd tt (s * 8 + k) t1))), (ad 7, .inl (cy 0, 320, .inl st)), (ad 8, .inl (cy 0, 320, .inl nu))] := hD
  refine lv_aload_n hx hb dX6_addNumbering_29 rfl (lv_at hl 1 rfl) ?_
  refine va_get (D := (dC, dI)) (ci := 6) (v := .ref (ad 7)) (C := RX6) (T := TX6) (N := 6) hx hb hts hiX6 hown hK hP 0 rfl rfl 3 (by decide) hL3 (fun _ h9 => h9) rfl dX6_addNumbering_30 ?_
  refine lv_iload hx hb dX6_addNumbering_33 (lv_at hl 0 rfl) ?_
  refine lv_iload hx hb dX6_addNumbering_35 (lv_at hl 5 rfl) ?_
  refine bw_iast hx hb hK hP hD hS 4 0 rfl rfl (j := (s * 8 + k)) (nI_toInt (by omega)) (by omega) dX6_addNumbering_37 (fun H locs hP hD hS => ?_)
  have hP : va_P (dC, dI) vwCl [(ad 3, .inr (6, [.ref (ad 4), .ref (ad 5), .ref (ad 6), .ref (ad 7), .ref (ad 8), .int (nI sn)])), (ad 4, .inl (cy 0, 40, .inl nb)), (ad 5, .inl (cy 0, 320, .inl (upd fr (s * 8 + k) f1))), (ad 6, .inl (cy 0, 320, .inl (upd tt (s * 8 + k) t1))), (ad 7, .inl (cy 0, 320, .inl (upd st (s * 8 + k) s1))), (ad 8, .inl (cy 0, 320, .inl nu))] H := hP
  have hD : va_D A [(ad 3, .inr (6, [.ref (ad 4), .ref (ad 5), .ref (ad 6), .ref (ad 7), .ref (ad 8), .int (nI sn)])), (ad 4, .inl (cy 0, 40, .inl nb)), (ad 5, .inl (cy 0, 320, .inl (upd fr (s * 8 + k) f1))), (ad 6, .inl (cy 0, 320, .inl (upd tt (s * 8 + k) t1))), (ad 7, .inl (cy 0, 320, .inl (upd st (s * 8 + k) s1))), (ad 8, .inl (cy 0, 320, .inl nu))] := hD
  refine lv_aload_n hx hb dX6_addNumbering_38 rfl (lv_at hl 1 rfl) ?_
  refine va_get (D := (dC, dI)) (ci := 6) (v := .ref (ad 8)) (C := RX6) (T := TX6) (N := 6) hx hb hts hiX6 hown hK hP 0 rfl rfl 4 (by decide) hL4 (fun _ h9 => h9) rfl dX6_addNumbering_39 ?_
  refine lv_iload hx hb dX6_addNumbering_42 (lv_at hl 0 rfl) ?_
  refine lv_iload hx hb dX6_addNumbering_44 (lv_at hl 6 rfl) ?_
  refine bw_iast hx hb hK hP hD hS 5 0 rfl rfl (j := (s * 8 + k)) (nI_toInt (by omega)) (by omega) dX6_addNumbering_46 (fun H locs hP hD hS => ?_)
  have hP : va_P (dC, dI) vwCl [(ad 3, .inr (6, [.ref (ad 4), .ref (ad 5), .ref (ad 6), .ref (ad 7), .ref (ad 8), .int (nI sn)])), (ad 4, .inl (cy 0, 40, .inl nb)), (ad 5, .inl (cy 0, 320, .inl (upd fr (s * 8 + k) f1))), (ad 6, .inl (cy 0, 320, .inl (upd tt (s * 8 + k) t1))), (ad 7, .inl (cy 0, 320, .inl (upd st (s * 8 + k) s1))), (ad 8, .inl (cy 0, 320, .inl (upd nu (s * 8 + k) n1)))] H := hP
  have hD : va_D A [(ad 3, .inr (6, [.ref (ad 4), .ref (ad 5), .ref (ad 6), .ref (ad 7), .ref (ad 8), .int (nI sn)])), (ad 4, .inl (cy 0, 40, .inl nb)), (ad 5, .inl (cy 0, 320, .inl (upd fr (s * 8 + k) f1))), (ad 6, .inl (cy 0, 320, .inl (upd tt (s * 8 + k) t1))), (ad 7, .inl (cy 0, 320, .inl (upd st (s * 8 + k) s1))), (ad 8, .inl (cy 0, 320, .inl (upd nu (s * 8 + k) n1)))] := hD
  refine lv_aload_n hx hb dX6_addNumbering_47 rfl (lv_at hl 1 rfl) ?_
  refine va_get (D := (dC, dI)) (ci := 6) (v := .ref (ad 4)) (C := RX6) (T := TX6) (N := 6) hx hb hts hiX6 hown hK hP 0 rfl rfl 0 (by decide) hL0 (fun _ h9 => h9) rfl dX6_addNumbering_48 ?_
  refine lv_iload_n hx hb dX6_addNumbering_51 rfl (lv_at hl 2 rfl) ?_
  refine lv_dup2_11 hx hb dX6_addNumbering_52 rfl rfl ?_
  refine bw_iald hx hb hK hP 1 0 rfl rfl (j := s) (nI_toInt (by omega)) (by omega) dX6_addNumbering_53 ?_
  refine bw_re (show nb s = nI k from hk) ?_
  refine lv_iconst (v := 1) hx hb dX6_addNumbering_54 (by decide) ?_
  refine lv_iadd hx hb dX6_addNumbering_55 ?_
  refine bw_re (show (nI k) + 1 = nI (k + 1) from nI_add (k) (1)) ?_
  refine bw_iast hx hb hK hP hD hS 1 0 rfl rfl (j := s) (nI_toInt (by omega)) (by omega) dX6_addNumbering_56 (fun H locs hP hD hS => ?_)
  have hP : va_P (dC, dI) vwCl [(ad 3, .inr (6, [.ref (ad 4), .ref (ad 5), .ref (ad 6), .ref (ad 7), .ref (ad 8), .int (nI sn)])), (ad 4, .inl (cy 0, 40, .inl (upd nb s (nI (k + 1))))), (ad 5, .inl (cy 0, 320, .inl (upd fr (s * 8 + k) f1))), (ad 6, .inl (cy 0, 320, .inl (upd tt (s * 8 + k) t1))), (ad 7, .inl (cy 0, 320, .inl (upd st (s * 8 + k) s1))), (ad 8, .inl (cy 0, 320, .inl (upd nu (s * 8 + k) n1)))] H := hP
  have hD : va_D A [(ad 3, .inr (6, [.ref (ad 4), .ref (ad 5), .ref (ad 6), .ref (ad 7), .ref (ad 8), .int (nI sn)])), (ad 4, .inl (cy 0, 40, .inl (upd nb s (nI (k + 1))))), (ad 5, .inl (cy 0, 320, .inl (upd fr (s * 8 + k) f1))), (ad 6, .inl (cy 0, 320, .inl (upd tt (s * 8 + k) t1))), (ad 7, .inl (cy 0, 320, .inl (upd st (s * 8 + k) s1))), (ad 8, .inl (cy 0, 320, .inl (upd nu (s * 8 + k) n1)))] := hD
  subst hQ
  have hP9 : va_P (dC, dI) vwCl [(ad 3, .inr (6, [.ref (ad 4), .ref (ad 5), .ref (ad 6), .ref (ad 7), .ref (ad 8), .int (nI sn)])), (ad 4, .inl (cy 0, 40, .inl (upd nb s (nI (k + 1))))), (ad 5, .inl (cy 0, 320, .inl (upd fr (s * 8 + k) f1))), (ad 6, .inl (cy 0, 320, .inl (upd tt (s * 8 + k) t1))), (ad 7, .inl (cy 0, 320, .inl (upd st (s * 8 + k) s1))), (ad 8, .inl (cy 0, 320, .inl (upd nu (s * 8 + k) n1)))] H := hP.sub [0, 1, 2, 3, 4, 5] rfl
  have hD9 : va_D A [(ad 3, .inr (6, [.ref (ad 4), .ref (ad 5), .ref (ad 6), .ref (ad 7), .ref (ad 8), .int (nI sn)])), (ad 4, .inl (cy 0, 40, .inl (upd nb s (nI (k + 1))))), (ad 5, .inl (cy 0, 320, .inl (upd fr (s * 8 + k) f1))), (ad 6, .inl (cy 0, 320, .inl (upd tt (s * 8 + k) t1))), (ad 7, .inl (cy 0, 320, .inl (upd st (s * 8 + k) s1))), (ad 8, .inl (cy 0, 320, .inl (upd nu (s * 8 + k) n1)))] := hD.sub [0, 1, 2, 3, 4, 5] (by decide) rfl
  have hpost : True := by
    trivial
  exact W.vret hx hb hr (fun t9 ht hW => ⟨⟨(), rfl, hpost, by rw [ht]; exact hP9, va_K.moved hW.alike hK, hD9⟩, hS.F ht⟩) hS.2.2 dX6_addNumbering_57

set_option maxHeartbeats 4000000 in
set_option maxRecDepth 100000 in
theorem c_X3_add (l : Launch) (dC : Nat → ClassId) (dI : Nat → Nat → Nat) (cy : Nat → ClassId) (ad : Nat → Nat) (pn : Nat) (bo : Nat → Int32) (di : Nat → Int32) (th : Nat → Int32) (mk : Nat → Int32) (b1 : Int32) (d1 : Int32) (t1 : Int32) (sz : Nat) (hpn : pn < 30) : Met l yX3_add wsX3_add ({ frames := 0, cells := 0, slots := 0, locals := 0 }) (va_Pc [.ref (ad 9), .int b1, .int d1, .int t1] (fun U => U.heap.size = sz ∧ va_P (dC, dI) vwCl [(ad 9, .inr (3, [.ref (ad 10), .ref (ad 11), .ref (ad 12), .ref (ad 13), .int (nI pn)])), (ad 10, .inl (cy 0, 30, .inl bo)), (ad 11, .inl (cy 0, 30, .inl di)), (ad 12, .inl (cy 0, 30, .inl th)), (ad 13, .inl (cy 0, 30, .inl mk))] U.heap ∧ va_K (dC, dI) vwCl (tyL cy) U ∧ va_D (fun _ => True) [(ad 9, .inr (3, [.ref (ad 10), .ref (ad 11), .ref (ad 12), .ref (ad 13), .int (nI pn)])), (ad 10, .inl (cy 0, 30, .inl bo)), (ad 11, .inl (cy 0, 30, .inl di)), (ad 12, .inl (cy 0, 30, .inl th)), (ad 13, .inl (cy 0, 30, .inl mk))])) (va_Qi (S := Unit) (fun r => fun _ => r = nI pn) (fun _ => fun t => va_P (dC, dI) vwCl [(ad 9, .inr (3, [.ref (ad 10), .ref (ad 11), .ref (ad 12), .ref (ad 13), .int (nI (pn + 1))])), (ad 10, .inl (cy 0, 30, .inl (upd bo pn b1))), (ad 11, .inl (cy 0, 30, .inl (upd di pn d1))), (ad 12, .inl (cy 0, 30, .inl (upd th pn t1))), (ad 13, .inl (cy 0, 30, .inl (upd mk pn (nI pn))))] t.heap ∧ va_K (dC, dI) vwCl (tyL cy) t ∧ va_D (va_A [(ad 9, .inr (3, [.ref (ad 10), .ref (ad 11), .ref (ad 12), .ref (ad 13), .int (nI pn)])), (ad 10, .inl (cy 0, 30, .inl bo)), (ad 11, .inl (cy 0, 30, .inl di)), (ad 12, .inl (cy 0, 30, .inl th)), (ad 13, .inl (cy 0, 30, .inl mk))] sz) [(ad 9, .inr (3, [.ref (ad 10), .ref (ad 11), .ref (ad 12), .ref (ad 13), .int (nI (pn + 1))])), (ad 10, .inl (cy 0, 30, .inl (upd bo pn b1))), (ad 11, .inl (cy 0, 30, .inl (upd di pn d1))), (ad 12, .inl (cy 0, 30, .inl (upd th pn t1))), (ad 13, .inl (cy 0, 30, .inl (upd mk pn (nI pn))))]) (va_A [(ad 9, .inr (3, [.ref (ad 10), .ref (ad 11), .ref (ad 12), .ref (ad 13), .int (nI pn)])), (ad 10, .inl (cy 0, 30, .inl bo)), (ad 11, .inl (cy 0, 30, .inl di)), (ad 12, .inl (cy 0, 30, .inl th)), (ad 13, .inl (cy 0, 30, .inl mk))] sz)) 0 0 (va_A [(ad 9, .inr (3, [.ref (ad 10), .ref (ad 11), .ref (ad 12), .ref (ad 13), .int (nI pn)])), (ad 10, .inl (cy 0, 30, .inl bo)), (ad 11, .inl (cy 0, 30, .inl di)), (ad 12, .inl (cy 0, 30, .inl th)), (ad 13, .inl (cy 0, 30, .inl mk))] sz) := by
  refine Met.ofW (cc := cX3_add) (maxL := 5) (ret := (some .int)) (by decide) rfl ?_
  intro pp ee ss mm args below meth cc0 s₁ B hml hv
  obtain ⟨rfl, hsz, hP, hK, hD0⟩ := hv
  have hx := B.exec
  have hb := B.bytes
  have hr := B.returns
  have hts := atoms_spec (ws := wsX3_add) B.pre
  have hown : ss.vm.findClass RX3 = some mm.cls := findClass_of_methodNamed B.named
  have hlocks := B.notSynchronized
  have hL0 := hts (.fieldLink RX3 24 "HereLived$People" "size" "I") (by decide +kernel)
  have hL1 := hts (.fieldLink RX3 9 "HereLived$People" "born" "[I") (by decide +kernel)
  have hL2 := hts (.fieldLink RX3 15 "HereLived$People" "died" "[I") (by decide +kernel)
  have hL3 := hts (.fieldLink RX3 18 "HereLived$People" "theme" "[I") (by decide +kernel)
  have hL4 := hts (.fieldLink RX3 21 "HereLived$People" "mark" "[I") (by decide +kernel)
  have hiX3 : ∀ w ∈ wsX30, w ∈ wsX3_add := by decide +kernel
  subst hsz
  have hD := hD0.self (sz := ss.heap.size)
  generalize hAe : va_A [(ad 9, .inr (3, [.ref (ad 10), .ref (ad 11), .ref (ad 12), .ref (ad 13), .int (nI pn)])), (ad 10, .inl (cy 0, 30, .inl bo)), (ad 11, .inl (cy 0, 30, .inl di)), (ad 12, .inl (cy 0, 30, .inl th)), (ad 13, .inl (cy 0, 30, .inl mk))] ss.heap.size = A at hD ⊢
  have hA : ∀ q : Nat, ss.heap.size ≤ q → A q := fun q h => by rw [← hAe]; exact Or.inr h
  have hS : va_S A ss.heap ss.heap [] := va_S.rf
  have hP : va_P (dC, dI) vwCl [(ad 9, .inr (3, [.ref (ad 10), .ref (ad 11), .ref (ad 12), .ref (ad 13), .int (nI pn)])), (ad 10, .inl (cy 0, 30, .inl bo)), (ad 11, .inl (cy 0, 30, .inl di)), (ad 12, .inl (cy 0, 30, .inl th)), (ad 13, .inl (cy 0, 30, .inl mk))] ss.heap := hP
  have hl := lv_entry ([.ref (ad 9), .int b1, .int d1, .int t1]) (n := 5) (Nat.le_of_ble_eq_true rfl)
  rw [lg_entry_eq]
  generalize (lg_sl ([.ref (ad 9), .int b1, .int d1, .int t1]) ++ List.replicate (5 - (lg_sl ([.ref (ad 9), .int b1, .int d1, .int t1])).length) Slot.unset).toArray = ls at hl ⊢
  have hl : lv_has ls 5 [(0, .ref (ad 9)), (1, .int b1), (2, .int d1), (3, .int t1)] := hl
  refine bw_Q (fun Q hQ => ?_)
  refine bw_H0 (fun H locs eH eL => ?_)
  have hS : va_S A ss.heap H locs := by rw [eH, eL]; exact hS
  have hP : va_P (dC, dI) vwCl [(ad 9, .inr (3, [.ref (ad 10), .ref (ad 11), .ref (ad 12), .ref (ad 13), .int (nI pn)])), (ad 10, .inl (cy 0, 30, .inl bo)), (ad 11, .inl (cy 0, 30, .inl di)), (ad 12, .inl (cy 0, 30, .inl th)), (ad 13, .inl (cy 0, 30, .inl mk))] H := by rw [eH]; exact hP
  change W pp l ee { frames := 0, cells := 0, slots := 0, locals := 0 } ss mm _ below meth cc0 H locs 0 0 Q (F0 mm 0 ls [])
  refine lv_aload_n hx hb dX3_add_0 rfl (lv_at hl 0 rfl) ?_
  refine va_get (D := (dC, dI)) (ci := 3) (v := .int (nI pn)) (C := RX3) (T := TX3) (N := 5) hx hb hts hiX3 hown hK hP 0 rfl rfl 4 (by decide) hL0 (fun _ h9 => h9) rfl dX3_add_1 ?_
  refine lv_istore (lv' := [(4, .int (nI pn)), (0, .ref (ad 9)), (1, .int b1), (2, .int d1), (3, .int t1)]) hx hb dX3_add_4 hl (by decide) rfl (fun ls hl => ?_)
  refine lv_aload_n hx hb dX3_add_6 rfl (lv_at hl 1 rfl) ?_
  refine va_get (D := (dC, dI)) (ci := 3) (v := .ref (ad 10)) (C := RX3) (T := TX3) (N := 5) hx hb hts hiX3 hown hK hP 0 rfl rfl 0 (by decide) hL1 (fun _ h9 => h9) rfl dX3_add_7 ?_
  refine lv_iload hx hb dX3_add_10 (lv_at hl 0 rfl) ?_
  refine lv_iload_n hx hb dX3_add_12 rfl (lv_at hl 2 rfl) ?_
  refine bw_iast hx hb hK hP hD hS 1 0 rfl rfl (j := pn) (nI_toInt (by omega)) (by omega) dX3_add_13 (fun H locs hP hD hS => ?_)
  have hP : va_P (dC, dI) vwCl [(ad 9, .inr (3, [.ref (ad 10), .ref (ad 11), .ref (ad 12), .ref (ad 13), .int (nI pn)])), (ad 10, .inl (cy 0, 30, .inl (upd bo pn b1))), (ad 11, .inl (cy 0, 30, .inl di)), (ad 12, .inl (cy 0, 30, .inl th)), (ad 13, .inl (cy 0, 30, .inl mk))] H := hP
  have hD : va_D A [(ad 9, .inr (3, [.ref (ad 10), .ref (ad 11), .ref (ad 12), .ref (ad 13), .int (nI pn)])), (ad 10, .inl (cy 0, 30, .inl (upd bo pn b1))), (ad 11, .inl (cy 0, 30, .inl di)), (ad 12, .inl (cy 0, 30, .inl th)), (ad 13, .inl (cy 0, 30, .inl mk))] := hD
  refine lv_aload_n hx hb dX3_add_14 rfl (lv_at hl 1 rfl) ?_
  refine va_get (D := (dC, dI)) (ci := 3) (v := .ref (ad 11)) (C := RX3) (T := TX3) (N := 5) hx hb hts hiX3 hown hK hP 0 rfl rfl 1 (by decide) hL2 (fun _ h9 => h9) rfl dX3_add_15 ?_
  refine lv_iload hx hb dX3_add_18 (lv_at hl 0 rfl) ?_
  refine lv_iload_n hx hb dX3_add_20 rfl (lv_at hl 3 rfl) ?_
  refine bw_iast hx hb hK hP hD hS 2 0 rfl rfl (j := pn) (nI_toInt (by omega)) (by omega) dX3_add_21 (fun H locs hP hD hS => ?_)
  have hP : va_P (dC, dI) vwCl [(ad 9, .inr (3, [.ref (ad 10), .ref (ad 11), .ref (ad 12), .ref (ad 13), .int (nI pn)])), (ad 10, .inl (cy 0, 30, .inl (upd bo pn b1))), (ad 11, .inl (cy 0, 30, .inl (upd di pn d1))), (ad 12, .inl (cy 0, 30, .inl th)), (ad 13, .inl (cy 0, 30, .inl mk))] H := hP
  have hD : va_D A [(ad 9, .inr (3, [.ref (ad 10), .ref (ad 11), .ref (ad 12), .ref (ad 13), .int (nI pn)])), (ad 10, .inl (cy 0, 30, .inl (upd bo pn b1))), (ad 11, .inl (cy 0, 30, .inl (upd di pn d1))), (ad 12, .inl (cy 0, 30, .inl th)), (ad 13, .inl (cy 0, 30, .inl mk))] := hD
  refine lv_aload_n hx hb dX3_add_22 rfl (lv_at hl 1 rfl) ?_
  refine va_get (D := (dC, dI)) (ci := 3) (v := .ref (ad 12)) (C := RX3) (T := TX3) (N := 5) hx hb hts hiX3 hown hK hP 0 rfl rfl 2 (by decide) hL3 (fun _ h9 => h9) rfl dX3_add_23 ?_
  refine lv_iload hx hb dX3_add_26 (lv_at hl 0 rfl) ?_
  refine lv_iload_n hx hb dX3_add_28 rfl (lv_at hl 4 rfl) ?_
  refine bw_iast hx hb hK hP hD hS 3 0 rfl rfl (j := pn) (nI_toInt (by omega)) (by omega) dX3_add_29 (fun H locs hP hD hS => ?_)
  have hP : va_P (dC, dI) vwCl [(ad 9, .inr (3, [.ref (ad 10), .ref (ad 11), .ref (ad 12), .ref (ad 13), .int (nI pn)])), (ad 10, .inl (cy 0, 30, .inl (upd bo pn b1))), (ad 11, .inl (cy 0, 30, .inl (upd di pn d1))), (ad 12, .inl (cy 0, 30, .inl (upd th pn t1))), (ad 13, .inl (cy 0, 30, .inl mk))] H := hP
  have hD : va_D A [(ad 9, .inr (3, [.ref (ad 10), .ref (ad 11), .ref (ad 12), .ref (ad 13), .int (nI pn)])), (ad 10, .inl (cy 0, 30, .inl (upd bo pn b1))), (ad 11, .inl (cy 0, 30, .inl (upd di pn d1))), (ad 12, .inl (cy 0, 30, .inl (upd th pn t1))), (ad 13, .inl (cy 0, 30, .inl mk))] := hD
  refine lv_aload_n hx hb dX3_add_30 rfl (lv_at hl 1 rfl) ?_
  refine va_get (D := (dC, dI)) (ci := 3) (v := .ref (ad 13)) (C := RX3) (T := TX3) (N := 5) hx hb hts hiX3 hown hK hP 0 rfl rfl 3 (by decide) hL4 (fun _ h9 => h9) rfl dX3_add_31 ?_
  refine lv_iload hx hb dX3_add_34 (lv_at hl 0 rfl) ?_
  refine lv_iload hx hb dX3_add_36 (lv_at hl 0 rfl) ?_
  refine bw_iast hx hb hK hP hD hS 4 0 rfl rfl (j := pn) (nI_toInt (by omega)) (by omega) dX3_add_38 (fun H locs hP hD hS => ?_)
  have hP : va_P (dC, dI) vwCl [(ad 9, .inr (3, [.ref (ad 10), .ref (ad 11), .ref (ad 12), .ref (ad 13), .int (nI pn)])), (ad 10, .inl (cy 0, 30, .inl (upd bo pn b1))), (ad 11, .inl (cy 0, 30, .inl (upd di pn d1))), (ad 12, .inl (cy 0, 30, .inl (upd th pn t1))), (ad 13, .inl (cy 0, 30, .inl (upd mk pn (nI pn))))] H := hP
  have hD : va_D A [(ad 9, .inr (3, [.ref (ad 10), .ref (ad 11), .ref (ad 12), .ref (ad 13), .int (nI pn)])), (ad 10, .inl (cy 0, 30, .inl (upd bo pn b1))), (ad 11, .inl (cy 0, 30, .inl (upd di pn d1))), (ad 12, .inl (cy 0, 30, .inl (upd th pn t1))), (ad 13, .inl (cy 0, 30, .inl (upd mk pn (nI pn))))] := hD
  refine lv_aload_n hx hb dX3_add_39 rfl (lv_at hl 1 rfl) ?_
  refine lv_dup hx hb dX3_add_40 rfl ?_
  refine va_get (D := (dC, dI)) (ci := 3) (v := .int (nI pn)) (C := RX3) (T := TX3) (N := 5) hx hb hts hiX3 hown hK hP 0 rfl rfl 4 (by decide) hL0 (fun _ h9 => h9) rfl dX3_add_41 ?_
  refine lv_iconst (v := 1) hx hb dX3_add_44 (by decide) ?_
  refine lv_iadd hx hb dX3_add_45 ?_
  refine bw_re (show (nI pn) + 1 = nI (pn + 1) from nI_add (pn) (1)) ?_
  refine va_put (D := (dC, dI)) (ci := 3) (v := .int (nI (pn + 1))) (ty := (tyX3 4)) (C := RX3) (T := TX3) (N := 5) hx hb hts hiX3 tyX3 tyX3_ok nmX3 hown hK hP hD hS 0 rfl rfl 4 (by decide) hL0 (fun _ h9 => h9) rfl (by decide +kernel) rfl rfl (Nat.le_of_ble_eq_true rfl) dX3_add_46 (fun H locs hP hD hS => ?_)
  have hP : va_P (dC, dI) vwCl [(ad 9, .inr (3, [.ref (ad 10), .ref (ad 11), .ref (ad 12), .ref (ad 13), .int (nI (pn + 1))])), (ad 10, .inl (cy 0, 30, .inl (upd bo pn b1))), (ad 11, .inl (cy 0, 30, .inl (upd di pn d1))), (ad 12, .inl (cy 0, 30, .inl (upd th pn t1))), (ad 13, .inl (cy 0, 30, .inl (upd mk pn (nI pn))))] H := hP
  have hD : va_D A [(ad 9, .inr (3, [.ref (ad 10), .ref (ad 11), .ref (ad 12), .ref (ad 13), .int (nI (pn + 1))])), (ad 10, .inl (cy 0, 30, .inl (upd bo pn b1))), (ad 11, .inl (cy 0, 30, .inl (upd di pn d1))), (ad 12, .inl (cy 0, 30, .inl (upd th pn t1))), (ad 13, .inl (cy 0, 30, .inl (upd mk pn (nI pn))))] := hD
  refine lv_iload hx hb dX3_add_49 (lv_at hl 0 rfl) ?_
  subst hQ
  have hP9 : va_P (dC, dI) vwCl [(ad 9, .inr (3, [.ref (ad 10), .ref (ad 11), .ref (ad 12), .ref (ad 13), .int (nI (pn + 1))])), (ad 10, .inl (cy 0, 30, .inl (upd bo pn b1))), (ad 11, .inl (cy 0, 30, .inl (upd di pn d1))), (ad 12, .inl (cy 0, 30, .inl (upd th pn t1))), (ad 13, .inl (cy 0, 30, .inl (upd mk pn (nI pn))))] H := hP.sub [0, 1, 2, 3, 4] rfl
  have hD9 : va_D A [(ad 9, .inr (3, [.ref (ad 10), .ref (ad 11), .ref (ad 12), .ref (ad 13), .int (nI (pn + 1))])), (ad 10, .inl (cy 0, 30, .inl (upd bo pn b1))), (ad 11, .inl (cy 0, 30, .inl (upd di pn d1))), (ad 12, .inl (cy 0, 30, .inl (upd th pn t1))), (ad 13, .inl (cy 0, 30, .inl (upd mk pn (nI pn))))] := hD.sub [0, 1, 2, 3, 4] (by decide) rfl
  have hpost : (nI pn : Int32) = nI pn := by
    exact rfl
  exact W.iret (v := nI pn) hx hb hr (fun t9 ht hW => ⟨⟨nI pn, (), rfl, hpost, by rw [ht]; exact hP9, va_K.moved hW.alike hK, hD9⟩, hS.F ht⟩) hS.2.2 dX3_add_51

set_option maxHeartbeats 4000000 in
set_option maxRecDepth 100000 in
theorem c_X3_areOne (l : Launch) (dC : Nat → ClassId) (dI : Nat → Nat → Nat) (cy : Nat → ClassId) (ad : Nat → Nat) (pn : Nat) (mk : Nat → Int32) (p : Nat) (q : Nat) (hp : p < 30) (hq : q < 30) : Met l yX3_areOne wsX3_areOne ({ frames := 0, cells := 0, slots := 0, locals := 0 }) (va_Pc [.ref (ad 9), .int (nI p), .int (nI q)] (fun U => va_P (dC, dI) vwCl [(ad 9, .inr (3, [.ref (ad 10), .ref (ad 11), .ref (ad 12), .ref (ad 13), .int (nI pn)])), (ad 13, .inl (cy 0, 30, .inl mk))] U.heap ∧ va_K (dC, dI) vwCl (tyL cy) U)) (vp_Si (fun r => r = if (mk p).toInt = (mk q).toInt then 1 else 0)) 0 0 (fun _ => False) := by
  refine Met.ofW (cc := cX3_areOne) (maxL := 3) (ret := (some .boolean)) (by decide) rfl ?_
  intro pp ee ss mm args below meth cc0 s₁ B hml hv
  obtain ⟨rfl, hP, hK⟩ := hv
  have hx := B.exec
  have hb := B.bytes
  have hr := B.returns
  have hts := atoms_spec (ws := wsX3_areOne) B.pre
  have hown : ss.vm.findClass RX3 = some mm.cls := findClass_of_methodNamed B.named
  have hlocks := B.notSynchronized
  have hL0 := hts (.fieldLink RX3 21 "HereLived$People" "mark" "[I") (by decide +kernel)
  have hiX3 : ∀ w ∈ wsX30, w ∈ wsX3_areOne := by decide +kernel
  have hl := lv_entry ([.ref (ad 9), .int (nI p), .int (nI q)]) (n := 3) (Nat.le_of_ble_eq_true rfl)
  rw [lg_entry_eq]
  generalize (lg_sl ([.ref (ad 9), .int (nI p), .int (nI q)]) ++ List.replicate (3 - (lg_sl ([.ref (ad 9), .int (nI p), .int (nI q)])).length) Slot.unset).toArray = ls at hl ⊢
  have hl : lv_has ls 3 [(0, .ref (ad 9)), (1, .int (nI p)), (2, .int (nI q))] := hl
  refine bw_Q (fun Q hQ => ?_)
  change W pp l ee { frames := 0, cells := 0, slots := 0, locals := 0 } ss mm _ below meth cc0 ss.heap [] 0 0 Q (F0 mm 0 ls [])
  refine lv_aload_n hx hb dX3_areOne_0 rfl (lv_at hl 0 rfl) ?_
  refine va_get (D := (dC, dI)) (ci := 3) (v := .ref (ad 13)) (C := RX3) (T := TX3) (N := 5) hx hb hts hiX3 hown hK hP 0 rfl rfl 3 (by decide) hL0 (fun _ h9 => h9) rfl dX3_areOne_1 ?_
  refine lv_iload_n hx hb dX3_areOne_4 rfl (lv_at hl 1 rfl) ?_
  refine bw_iald hx hb hK hP 1 0 rfl rfl (j := p) (nI_toInt (by omega)) (by omega) dX3_areOne_5 ?_
  refine lv_aload_n hx hb dX3_areOne_6 rfl (lv_at hl 0 rfl) ?_
  refine va_get (D := (dC, dI)) (ci := 3) (v := .ref (ad 13)) (C := RX3) (T := TX3) (N := 5) hx hb hts hiX3 hown hK hP 0 rfl rfl 3 (by decide) hL0 (fun _ h9 => h9) rfl dX3_areOne_7 ?_
  refine lv_iload_n hx hb dX3_areOne_10 rfl (lv_at hl 2 rfl) ?_
  refine bw_iald hx hb hK hP 1 0 rfl rfl (j := q) (nI_toInt (by omega)) (by omega) dX3_areOne_11 ?_
  refine bw_icmp_ne (tgt := 19) (a := (mk p).toInt) (b := (mk q).toInt) hx hb dX3_areOne_12 (by decide) rfl rfl (fun c_1 => ?_) (fun c_1 => ?_)
  · skip
    refine lv_iconst (v := 0) hx hb dX3_areOne_19 (by decide) ?_
    subst hQ
    have hpost : (0 : Int32) = if (mk p).toInt = (mk q).toInt then 1 else 0 := by
      first | rw [if_pos (by omega)] | rw [if_neg (by omega)]
    exact W.zret (v := 0) hx hb hr (by rfl) (fun t9 ht hW => ⟨_, rfl, hpost, by rw [ht]⟩) (fun q h => by cases h) dX3_areOne_20
  · skip
    refine lv_iconst (v := 1) hx hb dX3_areOne_15 (by decide) ?_
    refine lv_goto (tgt := 20) hx hb dX3_areOne_16 (by decide) ?_
    subst hQ
    have hpost : (1 : Int32) = if (mk p).toInt = (mk q).toInt then 1 else 0 := by
      first | rw [if_pos (by omega)] | rw [if_neg (by omega)]
    exact W.zret (v := 1) hx hb hr (by rfl) (fun t9 ht hW => ⟨_, rfl, hpost, by rw [ht]⟩) (fun q h => by cases h) dX3_areOne_20

set_option maxHeartbeats 4000000 in
set_option maxRecDepth 100000 in
theorem c_X3_makeOne (l : Launch) (dC : Nat → ClassId) (dI : Nat → Nat → Nat) (cy : Nat → ClassId) (ad : Nat → Nat) (pn : Nat) (mk : Nat → Int32) (p : Nat) (q : Nat) (sz : Nat) (hpn : pn ≤ 30) (hp : p < 30) (hq : q < 30) (hne : (mk p).toInt ≠ (mk q).toInt) : Met l yX3_makeOne wsX3_makeOne ({ frames := 0, cells := 0, slots := 0, locals := 0 }) (va_Pc [.ref (ad 9), .int (nI p), .int (nI q)] (fun U => U.heap.size = sz ∧ va_P (dC, dI) vwCl [(ad 9, .inr (3, [.ref (ad 10), .ref (ad 11), .ref (ad 12), .ref (ad 13), .int (nI pn)])), (ad 13, .inl (cy 0, 30, .inl mk))] U.heap ∧ va_K (dC, dI) vwCl (tyL cy) U ∧ va_D (fun _ => True) [(ad 9, .inr (3, [.ref (ad 10), .ref (ad 11), .ref (ad 12), .ref (ad 13), .int (nI pn)])), (ad 13, .inl (cy 0, 30, .inl mk))])) (va_Qv (S := (Nat → Int32)) (fun mk2 => mk2 = mJoin mk p q pn) (fun mk2 => fun t => va_P (dC, dI) vwCl [(ad 9, .inr (3, [.ref (ad 10), .ref (ad 11), .ref (ad 12), .ref (ad 13), .int (nI pn)])), (ad 13, .inl (cy 0, 30, .inl mk2))] t.heap ∧ va_K (dC, dI) vwCl (tyL cy) t ∧ va_D (va_A [(ad 9, .inr (3, [.ref (ad 10), .ref (ad 11), .ref (ad 12), .ref (ad 13), .int (nI pn)])), (ad 13, .inl (cy 0, 30, .inl mk))] sz) [(ad 9, .inr (3, [.ref (ad 10), .ref (ad 11), .ref (ad 12), .ref (ad 13), .int (nI pn)])), (ad 13, .inl (cy 0, 30, .inl mk2))]) (va_A [(ad 9, .inr (3, [.ref (ad 10), .ref (ad 11), .ref (ad 12), .ref (ad 13), .int (nI pn)])), (ad 13, .inl (cy 0, 30, .inl mk))] sz)) 0 0 (va_A [(ad 9, .inr (3, [.ref (ad 10), .ref (ad 11), .ref (ad 12), .ref (ad 13), .int (nI pn)])), (ad 13, .inl (cy 0, 30, .inl mk))] sz) := by
  refine Met.ofW (cc := cX3_makeOne) (maxL := 5) (ret := none) (by decide) rfl ?_
  intro pp ee ss mm args below meth cc0 s₁ B hml hv
  obtain ⟨rfl, hsz, hP, hK, hD0⟩ := hv
  have hx := B.exec
  have hb := B.bytes
  have hr := B.returns
  have hts := atoms_spec (ws := wsX3_makeOne) B.pre
  have hown : ss.vm.findClass RX3 = some mm.cls := findClass_of_methodNamed B.named
  have hlocks := B.notSynchronized
  have hL0 := hts (.fieldLink RX3 21 "HereLived$People" "mark" "[I") (by decide +kernel)
  have hL1 := hts (.fieldLink RX3 24 "HereLived$People" "size" "I") (by decide +kernel)
  have hiX3 : ∀ w ∈ wsX30, w ∈ wsX3_makeOne := by decide +kernel
  subst hsz
  have hD := hD0.self (sz := ss.heap.size)
  generalize hAe : va_A [(ad 9, .inr (3, [.ref (ad 10), .ref (ad 11), .ref (ad 12), .ref (ad 13), .int (nI pn)])), (ad 13, .inl (cy 0, 30, .inl mk))] ss.heap.size = A at hD ⊢
  have hA : ∀ q : Nat, ss.heap.size ≤ q → A q := fun q h => by rw [← hAe]; exact Or.inr h
  have hS : va_S A ss.heap ss.heap [] := va_S.rf
  have hP : va_P (dC, dI) vwCl [(ad 9, .inr (3, [.ref (ad 10), .ref (ad 11), .ref (ad 12), .ref (ad 13), .int (nI pn)])), (ad 13, .inl (cy 0, 30, .inl mk))] ss.heap := hP
  have hl := lv_entry ([.ref (ad 9), .int (nI p), .int (nI q)]) (n := 5) (Nat.le_of_ble_eq_true rfl)
  rw [lg_entry_eq]
  generalize (lg_sl ([.ref (ad 9), .int (nI p), .int (nI q)]) ++ List.replicate (5 - (lg_sl ([.ref (ad 9), .int (nI p), .int (nI q)])).length) Slot.unset).toArray = ls at hl ⊢
  have hl : lv_has ls 5 [(0, .ref (ad 9)), (1, .int (nI p)), (2, .int (nI q))] := hl
  refine bw_Q (fun Q hQ => ?_)
  refine bw_H0 (fun H locs eH eL => ?_)
  have hS : va_S A ss.heap H locs := by rw [eH, eL]; exact hS
  have hP : va_P (dC, dI) vwCl [(ad 9, .inr (3, [.ref (ad 10), .ref (ad 11), .ref (ad 12), .ref (ad 13), .int (nI pn)])), (ad 13, .inl (cy 0, 30, .inl mk))] H := by rw [eH]; exact hP
  change W pp l ee { frames := 0, cells := 0, slots := 0, locals := 0 } ss mm _ below meth cc0 H locs 0 0 Q (F0 mm 0 ls [])
  refine lv_aload_n hx hb dX3_makeOne_0 rfl (lv_at hl 0 rfl) ?_
  refine va_get (D := (dC, dI)) (ci := 3) (v := .ref (ad 13)) (C := RX3) (T := TX3) (N := 5) hx hb hts hiX3 hown hK hP 0 rfl rfl 3 (by decide) hL0 (fun _ h9 => h9) rfl dX3_makeOne_1 ?_
  refine lv_iload_n hx hb dX3_makeOne_4 rfl (lv_at hl 2 rfl) ?_
  refine bw_iald hx hb hK hP 1 0 rfl rfl (j := q) (nI_toInt (by omega)) (by omega) dX3_makeOne_5 ?_
  refine lv_istore_n (lv' := [(3, .int (mk q)), (0, .ref (ad 9)), (1, .int (nI p)), (2, .int (nI q))]) hx hb dX3_makeOne_6 rfl hl (by decide) rfl (fun ls hl => ?_)
  refine lv_iconst (v := 0) hx hb dX3_makeOne_7 (by decide) ?_
  refine lv_istore (lv' := [(4, .int 0), (3, .int (mk q)), (0, .ref (ad 9)), (1, .int (nI p)), (2, .int (nI q))]) hx hb dX3_makeOne_8 hl (by decide) rfl (fun ls hl => ?_)
  have L_10 : ∀ (n9 : Nat), ∀ (i : Nat) (f : Nat → Int32), (pn - i) < n9 → (i ≤ pn) → (f = mJoin mk p q i) → ∀ (H : Heap) (locs : List Loc), va_P (dC, dI) vwCl [(ad 9, .inr (3, [.ref (ad 10), .ref (ad 11), .ref (ad 12), .ref (ad 13), .int (nI pn)])), (ad 13, .inl (cy 0, 30, .inl f))] H → va_D A [(ad 9, .inr (3, [.ref (ad 10), .ref (ad 11), .ref (ad 12), .ref (ad 13), .int (nI pn)])), (ad 13, .inl (cy 0, 30, .inl f))] → va_S A ss.heap H locs → ∀ (ls : Array Slot), lv_has ls 5 [(0, .ref (ad 9)), (1, .int (nI p)), (2, .int (nI q)), (3, .int (mk q)), (4, .int (nI i))] → W pp l ee { frames := 0, cells := 0, slots := 0, locals := 0 } ss mm (List.toArray [Value.ref (ad 9), Value.int (nI p), Value.int (nI q)]) below meth cc0 H locs 0 0 Q (F0 mm 10 ls []) := by
    intro n9
    induction n9 with
    | zero => intro i f hm9; exact absurd hm9 (Nat.not_lt_zero _)
    | succ n9 ih10 =>
      intro i f hm10 hi hf
      intro H locs hP hD hS
      intro ls hl
      have q1 : f i = mk i := by rw [hf]; exact mJoin_at (Nat.le_refl _)
      have q2 : f p = mk p := by rw [hf]; exact mJoin_p hne
      refine lv_iload hx hb dX3_makeOne_10 (lv_at hl 4 rfl) ?_
      refine lv_aload_n hx hb dX3_makeOne_12 rfl (lv_at hl 0 rfl) ?_
      refine va_get (D := (dC, dI)) (ci := 3) (v := .int (nI pn)) (C := RX3) (T := TX3) (N := 5) hx hb hts hiX3 hown hK hP 0 rfl rfl 4 (by decide) hL1 (fun _ h9 => h9) rfl dX3_makeOne_13 ?_
      refine bw_icmp_ge (tgt := 49) (a := ((i : Nat) : Int)) (b := ((pn : Nat) : Int)) hx hb dX3_makeOne_16 (by decide) (nI_toInt (by omega)) (nI_toInt (by omega)) (fun c_1 => ?_) (fun c_1 => ?_)
      · skip
        subst hQ
        have hP9 : va_P (dC, dI) vwCl [(ad 9, .inr (3, [.ref (ad 10), .ref (ad 11), .ref (ad 12), .ref (ad 13), .int (nI pn)])), (ad 13, .inl (cy 0, 30, .inl f))] H := hP.sub [0, 1] rfl
        have hD9 : va_D A [(ad 9, .inr (3, [.ref (ad 10), .ref (ad 11), .ref (ad 12), .ref (ad 13), .int (nI pn)])), (ad 13, .inl (cy 0, 30, .inl f))] := hD.sub [0, 1] (by decide) rfl
        have hpost : f = mJoin mk p q pn := by
          have e9 : i = pn := by omega
          rw [hf, e9]
        exact W.vret hx hb hr (fun t9 ht hW => ⟨⟨f, rfl, hpost, by rw [ht]; exact hP9, va_K.moved hW.alike hK, hD9⟩, hS.F ht⟩) hS.2.2 dX3_makeOne_49
      · skip
        refine lv_aload_n hx hb dX3_makeOne_19 rfl (lv_at hl 0 rfl) ?_
        refine va_get (D := (dC, dI)) (ci := 3) (v := .ref (ad 13)) (C := RX3) (T := TX3) (N := 5) hx hb hts hiX3 hown hK hP 0 rfl rfl 3 (by decide) hL0 (fun _ h9 => h9) rfl dX3_makeOne_20 ?_
        refine lv_iload hx hb dX3_makeOne_23 (lv_at hl 4 rfl) ?_
        refine bw_iald hx hb hK hP 1 0 rfl rfl (j := i) (nI_toInt (by omega)) (by omega) dX3_makeOne_25 ?_
        refine lv_iload_n hx hb dX3_makeOne_26 rfl (lv_at hl 3 rfl) ?_
        refine bw_icmp_ne (tgt := 43) (a := (f i).toInt) (b := (mk q).toInt) hx hb dX3_makeOne_27 (by decide) rfl rfl (fun c_2 => ?_) (fun c_2 => ?_)
        · skip
          refine lv_iinc (v := nI (i + 1)) (lv' := [(4, .int (nI (i + 1))), (0, .ref (ad 9)), (1, .int (nI p)), (2, .int (nI q)), (3, .int (mk q))]) hx hb dX3_makeOne_43 hl (k := 4) rfl (show nI i + Int32.ofInt 1 = nI (i + 1) from nI_add i 1) (by decide) rfl (fun ls hl => ?_)
          refine lv_goto (tgt := 10) hx hb dX3_makeOne_46 (by decide) ?_
          have hI_hf : f = mJoin mk p q (i + 1) := by
            first
              | (rw [q2, hf]; exact mJoin_hit (by rw [← q1]; omega))
              | (rw [hf]; exact mJoin_miss (by rw [← q1]; omega))
          exact ih10 (i + 1) f (by omega) (by first | assumption | omega) hI_hf H locs hP hD hS ls (lv_sub hl [1, 2, 3, 4, 0] rfl)
        · skip
          refine lv_aload_n hx hb dX3_makeOne_30 rfl (lv_at hl 0 rfl) ?_
          refine va_get (D := (dC, dI)) (ci := 3) (v := .ref (ad 13)) (C := RX3) (T := TX3) (N := 5) hx hb hts hiX3 hown hK hP 0 rfl rfl 3 (by decide) hL0 (fun _ h9 => h9) rfl dX3_makeOne_31 ?_
          refine lv_iload hx hb dX3_makeOne_34 (lv_at hl 4 rfl) ?_
          refine lv_aload_n hx hb dX3_makeOne_36 rfl (lv_at hl 0 rfl) ?_
          refine va_get (D := (dC, dI)) (ci := 3) (v := .ref (ad 13)) (C := RX3) (T := TX3) (N := 5) hx hb hts hiX3 hown hK hP 0 rfl rfl 3 (by decide) hL0 (fun _ h9 => h9) rfl dX3_makeOne_37 ?_
          refine lv_iload_n hx hb dX3_makeOne_40 rfl (lv_at hl 1 rfl) ?_
          refine bw_iald hx hb hK hP 1 0 rfl rfl (j := p) (nI_toInt (by omega)) (by omega) dX3_makeOne_41 ?_
          refine bw_iast hx hb hK hP hD hS 1 0 rfl rfl (j := i) (nI_toInt (by omega)) (by omega) dX3_makeOne_42 (fun H locs hP hD hS => ?_)
          have hP : va_P (dC, dI) vwCl [(ad 9, .inr (3, [.ref (ad 10), .ref (ad 11), .ref (ad 12), .ref (ad 13), .int (nI pn)])), (ad 13, .inl (cy 0, 30, .inl (upd f i (f p))))] H := hP
          have hD : va_D A [(ad 9, .inr (3, [.ref (ad 10), .ref (ad 11), .ref (ad 12), .ref (ad 13), .int (nI pn)])), (ad 13, .inl (cy 0, 30, .inl (upd f i (f p))))] := hD
          refine lv_iinc (v := nI (i + 1)) (lv' := [(4, .int (nI (i + 1))), (0, .ref (ad 9)), (1, .int (nI p)), (2, .int (nI q)), (3, .int (mk q))]) hx hb dX3_makeOne_43 hl (k := 4) rfl (show nI i + Int32.ofInt 1 = nI (i + 1) from nI_add i 1) (by decide) rfl (fun ls hl => ?_)
          refine lv_goto (tgt := 10) hx hb dX3_makeOne_46 (by decide) ?_
          have hI_hf : (upd f i (f p)) = mJoin mk p q (i + 1) := by
            first
              | (rw [q2, hf]; exact mJoin_hit (by rw [← q1]; omega))
              | (rw [hf]; exact mJoin_miss (by rw [← q1]; omega))
          exact ih10 (i + 1) (upd f i (f p)) (by omega) (by first | assumption | omega) hI_hf H locs hP hD hS ls (lv_sub hl [1, 2, 3, 4, 0] rfl)
  have hI_hf : mk = mJoin mk p q 0 := by
    exact (mJoin_0 mk p q).symm
  exact L_10 ((pn - 0) + 1) 0 mk (by omega) (by first | assumption | omega) hI_hf H locs hP hD hS ls (lv_sub hl [2, 3, 4, 1, 0] rfl)

set_option maxHeartbeats 4000000 in
set_option maxRecDepth 100000 in
theorem c_X2_add (l : Launch) (dC : Nat → ClassId) (dI : Nat → Nat → Nat) (cy : Nat → ClassId) (ad : Nat → Nat) (qn : Nat) (qp : Nat → Int32) (qs : Nat → Int32) (qt : Nat → Int32) (qm : Nat → Int32) (qf : Nat → Int32) (ql : Nat → Int32) (qx : Nat → Int32) (p1 : Int32) (s1 : Int32) (t1 : Int32) (m1 : Int32) (f1 : Int32) (l1 : Int32) (sz : Nat) (hqn : qn < 100) : Met l yX2_add wsX2_add ({ frames := 0, cells := 0, slots := 0, locals := 0 }) (va_Pc [.ref (ad 14), .int p1, .int s1, .int t1, .int m1, .int f1, .int l1] (fun U => U.heap.size = sz ∧ va_P (dC, dI) vwCl [(ad 14, .inr (2, [.ref (ad 15), .ref (ad 16), .ref (ad 17), .ref (ad 18), .ref (ad 19), .ref (ad 20), .ref (ad 21), .int (nI qn)])), (ad 15, .inl (cy 0, 100, .inl qp)), (ad 16, .inl (cy 0, 100, .inl qs)), (ad 17, .inl (cy 0, 100, .inl qt)), (ad 18, .inl (cy 0, 100, .inl qm)), (ad 19, .inl (cy 0, 100, .inl qf)), (ad 20, .inl (cy 0, 100, .inl ql)), (ad 21, .inl (cy 2, 100, .inl qx))] U.heap ∧ va_K (dC, dI) vwCl (tyL cy) U ∧ va_D (fun _ => True) [(ad 14, .inr (2, [.ref (ad 15), .ref (ad 16), .ref (ad 17), .ref (ad 18), .ref (ad 19), .ref (ad 20), .ref (ad 21), .int (nI qn)])), (ad 15, .inl (cy 0, 100, .inl qp)), (ad 16, .inl (cy 0, 100, .inl qs)), (ad 17, .inl (cy 0, 100, .inl qt)), (ad 18, .inl (cy 0, 100, .inl qm)), (ad 19, .inl (cy 0, 100, .inl qf)), (ad 20, .inl (cy 0, 100, .inl ql)), (ad 21, .inl (cy 2, 100, .inl qx))])) (va_Qi (S := Unit) (fun r => fun _ => r = nI qn) (fun _ => fun t => va_P (dC, dI) vwCl [(ad 14, .inr (2, [.ref (ad 15), .ref (ad 16), .ref (ad 17), .ref (ad 18), .ref (ad 19), .ref (ad 20), .ref (ad 21), .int (nI (qn + 1))])), (ad 15, .inl (cy 0, 100, .inl (upd qp qn p1))), (ad 16, .inl (cy 0, 100, .inl (upd qs qn s1))), (ad 17, .inl (cy 0, 100, .inl (upd qt qn t1))), (ad 18, .inl (cy 0, 100, .inl (upd qm qn m1))), (ad 19, .inl (cy 0, 100, .inl (upd qf qn f1))), (ad 20, .inl (cy 0, 100, .inl (upd ql qn l1))), (ad 21, .inl (cy 2, 100, .inl qx))] t.heap ∧ va_K (dC, dI) vwCl (tyL cy) t ∧ va_D (va_A [(ad 14, .inr (2, [.ref (ad 15), .ref (ad 16), .ref (ad 17), .ref (ad 18), .ref (ad 19), .ref (ad 20), .ref (ad 21), .int (nI qn)])), (ad 15, .inl (cy 0, 100, .inl qp)), (ad 16, .inl (cy 0, 100, .inl qs)), (ad 17, .inl (cy 0, 100, .inl qt)), (ad 18, .inl (cy 0, 100, .inl qm)), (ad 19, .inl (cy 0, 100, .inl qf)), (ad 20, .inl (cy 0, 100, .inl ql)), (ad 21, .inl (cy 2, 100, .inl qx))] sz) [(ad 14, .inr (2, [.ref (ad 15), .ref (ad 16), .ref (ad 17), .ref (ad 18), .ref (ad 19), .ref (ad 20), .ref (ad 21), .int (nI (qn + 1))])), (ad 15, .inl (cy 0, 100, .inl (upd qp qn p1))), (ad 16, .inl (cy 0, 100, .inl (upd qs qn s1))), (ad 17, .inl (cy 0, 100, .inl (upd qt qn t1))), (ad 18, .inl (cy 0, 100, .inl (upd qm qn m1))), (ad 19, .inl (cy 0, 100, .inl (upd qf qn f1))), (ad 20, .inl (cy 0, 100, .inl (upd ql qn l1))), (ad 21, .inl (cy 2, 100, .inl qx))]) (va_A [(ad 14, .inr (2, [.ref (ad 15), .ref (ad 16), .ref (ad 17), .ref (ad 18), .ref (ad 19), .ref (ad 20), .ref (ad 21), .int (nI qn)])), (ad 15, .inl (cy 0, 100, .inl qp)), (ad 16, .inl (cy 0, 100, .inl qs)), (ad 17, .inl (cy 0, 100, .inl qt)), (ad 18, .inl (cy 0, 100, .inl qm)), (ad 19, .inl (cy 0, 100, .inl qf)), (ad 20, .inl (cy 0, 100, .inl ql)), (ad 21, .inl (cy 2, 100, .inl qx))] sz)) 0 0 (va_A [(ad 14, .inr (2, [.ref (ad 15), .ref (ad 16), .ref (ad 17), .ref (ad 18), .ref (ad 19), .ref (ad 20), .ref (ad 21), .int (nI qn)])), (ad 15, .inl (cy 0, 100, .inl qp)), (ad 16, .inl (cy 0, 100, .inl qs)), (ad 17, .inl (cy 0, 100, .inl qt)), (ad 18, .inl (cy 0, 100, .inl qm)), (ad 19, .inl (cy 0, 100, .inl qf)), (ad 20, .inl (cy 0, 100, .inl ql)), (ad 21, .inl (cy 2, 100, .inl qx))] sz) := by
  refine Met.ofW (cc := cX2_add) (maxL := 8) (ret := (some .int)) (by decide) rfl ?_
  intro pp ee ss mm args below meth cc0 s₁ B hml hv
  obtain ⟨rfl, hsz, hP, hK, hD0⟩ := hv
  have hx := B.exec
  have hb := B.bytes
  have hr := B.returns
  have hts := atoms_spec (ws := wsX2_add) B.pre
  have hown : ss.vm.findClass RX2 = some mm.cls := findClass_of_methodNamed B.named
  have hlocks := B.notSynchronized
  have hL0 := hts (.fieldLink RX2 34 "HereLived$Papers" "size" "I") (by decide +kernel)
  have hL1 := hts (.fieldLink RX2 9 "HereLived$Papers" "ofPerson" "[I") (by decide +kernel)
  have hL2 := hts (.fieldLink RX2 15 "HereLived$Papers" "source" "[I") (by decide +kernel)
  have hL3 := hts (.fieldLink RX2 18 "HereLived$Papers" "street" "[I") (by decide +kernel)
  have hL4 := hts (.fieldLink RX2 21 "HereLived$Papers" "number" "[I") (by decide +kernel)
  have hL5 := hts (.fieldLink RX2 24 "HereLived$Papers" "from" "[I") (by decide +kernel)
  have hL6 := hts (.fieldLink RX2 27 "HereLived$Papers" "to" "[I") (by decide +kernel)
  have hiX2 : ∀ w ∈ wsX20, w ∈ wsX2_add := by decide +kernel
  subst hsz
  have hD := hD0.self (sz := ss.heap.size)
  generalize hAe : va_A [(ad 14, .inr (2, [.ref (ad 15), .ref (ad 16), .ref (ad 17), .ref (ad 18), .ref (ad 19), .ref (ad 20), .ref (ad 21), .int (nI qn)])), (ad 15, .inl (cy 0, 100, .inl qp)), (ad 16, .inl (cy 0, 100, .inl qs)), (ad 17, .inl (cy 0, 100, .inl qt)), (ad 18, .inl (cy 0, 100, .inl qm)), (ad 19, .inl (cy 0, 100, .inl qf)), (ad 20, .inl (cy 0, 100, .inl ql)), (ad 21, .inl (cy 2, 100, .inl qx))] ss.heap.size = A at hD ⊢
  have hA : ∀ q : Nat, ss.heap.size ≤ q → A q := fun q h => by rw [← hAe]; exact Or.inr h
  have hS : va_S A ss.heap ss.heap [] := va_S.rf
  have hP : va_P (dC, dI) vwCl [(ad 14, .inr (2, [.ref (ad 15), .ref (ad 16), .ref (ad 17), .ref (ad 18), .ref (ad 19), .ref (ad 20), .ref (ad 21), .int (nI qn)])), (ad 15, .inl (cy 0, 100, .inl qp)), (ad 16, .inl (cy 0, 100, .inl qs)), (ad 17, .inl (cy 0, 100, .inl qt)), (ad 18, .inl (cy 0, 100, .inl qm)), (ad 19, .inl (cy 0, 100, .inl qf)), (ad 20, .inl (cy 0, 100, .inl ql)), (ad 21, .inl (cy 2, 100, .inl qx))] ss.heap := hP
  have hl := lv_entry ([.ref (ad 14), .int p1, .int s1, .int t1, .int m1, .int f1, .int l1]) (n := 8) (Nat.le_of_ble_eq_true rfl)
  rw [lg_entry_eq]
  generalize (lg_sl ([.ref (ad 14), .int p1, .int s1, .int t1, .int m1, .int f1, .int l1]) ++ List.replicate (8 - (lg_sl ([.ref (ad 14), .int p1, .int s1, .int t1, .int m1, .int f1, .int l1])).length) Slot.unset).toArray = ls at hl ⊢
  have hl : lv_has ls 8 [(0, .ref (ad 14)), (1, .int p1), (2, .int s1), (3, .int t1), (4, .int m1), (5, .int f1), (6, .int l1)] := hl
  refine bw_Q (fun Q hQ => ?_)
  refine bw_H0 (fun H locs eH eL => ?_)
  have hS : va_S A ss.heap H locs := by rw [eH, eL]; exact hS
  have hP : va_P (dC, dI) vwCl [(ad 14, .inr (2, [.ref (ad 15), .ref (ad 16), .ref (ad 17), .ref (ad 18), .ref (ad 19), .ref (ad 20), .ref (ad 21), .int (nI qn)])), (ad 15, .inl (cy 0, 100, .inl qp)), (ad 16, .inl (cy 0, 100, .inl qs)), (ad 17, .inl (cy 0, 100, .inl qt)), (ad 18, .inl (cy 0, 100, .inl qm)), (ad 19, .inl (cy 0, 100, .inl qf)), (ad 20, .inl (cy 0, 100, .inl ql)), (ad 21, .inl (cy 2, 100, .inl qx))] H := by rw [eH]; exact hP
  change W pp l ee { frames := 0, cells := 0, slots := 0, locals := 0 } ss mm _ below meth cc0 H locs 0 0 Q (F0 mm 0 ls [])
  refine lv_aload_n hx hb dX2_add_0 rfl (lv_at hl 0 rfl) ?_
  refine va_get (D := (dC, dI)) (ci := 2) (v := .int (nI qn)) (C := RX2) (T := TX2) (N := 8) hx hb hts hiX2 hown hK hP 0 rfl rfl 7 (by decide) hL0 (fun _ h9 => h9) rfl dX2_add_1 ?_
  refine lv_istore (lv' := [(7, .int (nI qn)), (0, .ref (ad 14)), (1, .int p1), (2, .int s1), (3, .int t1), (4, .int m1), (5, .int f1), (6, .int l1)]) hx hb dX2_add_4 hl (by decide) rfl (fun ls hl => ?_)
  refine lv_aload_n hx hb dX2_add_6 rfl (lv_at hl 1 rfl) ?_
  refine va_get (D := (dC, dI)) (ci := 2) (v := .ref (ad 15)) (C := RX2) (T := TX2) (N := 8) hx hb hts hiX2 hown hK hP 0 rfl rfl 0 (by decide) hL1 (fun _ h9 => h9) rfl dX2_add_7 ?_
  refine lv_iload hx hb dX2_add_10 (lv_at hl 0 rfl) ?_
  refine lv_iload_n hx hb dX2_add_12 rfl (lv_at hl 2 rfl) ?_
  refine bw_iast hx hb hK hP hD hS 1 0 rfl rfl (j := qn) (nI_toInt (by omega)) (by omega) dX2_add_13 (fun H locs hP hD hS => ?_)
  have hP : va_P (dC, dI) vwCl [(ad 14, .inr (2, [.ref (ad 15), .ref (ad 16), .ref (ad 17), .ref (ad 18), .ref (ad 19), .ref (ad 20), .ref (ad 21), .int (nI qn)])), (ad 15, .inl (cy 0, 100, .inl (upd qp qn p1))), (ad 16, .inl (cy 0, 100, .inl qs)), (ad 17, .inl (cy 0, 100, .inl qt)), (ad 18, .inl (cy 0, 100, .inl qm)), (ad 19, .inl (cy 0, 100, .inl qf)), (ad 20, .inl (cy 0, 100, .inl ql)), (ad 21, .inl (cy 2, 100, .inl qx))] H := hP
  have hD : va_D A [(ad 14, .inr (2, [.ref (ad 15), .ref (ad 16), .ref (ad 17), .ref (ad 18), .ref (ad 19), .ref (ad 20), .ref (ad 21), .int (nI qn)])), (ad 15, .inl (cy 0, 100, .inl (upd qp qn p1))), (ad 16, .inl (cy 0, 100, .inl qs)), (ad 17, .inl (cy 0, 100, .inl qt)), (ad 18, .inl (cy 0, 100, .inl qm)), (ad 19, .inl (cy 0, 100, .inl qf)), (ad 20, .inl (cy 0, 100, .inl ql)), (ad 21, .inl (cy 2, 100, .inl qx))] := hD
  refine lv_aload_n hx hb dX2_add_14 rfl (lv_at hl 1 rfl) ?_
  refine va_get (D := (dC, dI)) (ci := 2) (v := .ref (ad 16)) (C := RX2) (T := TX2) (N := 8) hx hb hts hiX2 hown hK hP 0 rfl rfl 1 (by decide) hL2 (fun _ h9 => h9) rfl dX2_add_15 ?_
  refine lv_iload hx hb dX2_add_18 (lv_at hl 0 rfl) ?_
  refine lv_iload_n hx hb dX2_add_20 rfl (lv_at hl 3 rfl) ?_
  refine bw_iast hx hb hK hP hD hS 2 0 rfl rfl (j := qn) (nI_toInt (by omega)) (by omega) dX2_add_21 (fun H locs hP hD hS => ?_)
  have hP : va_P (dC, dI) vwCl [(ad 14, .inr (2, [.ref (ad 15), .ref (ad 16), .ref (ad 17), .ref (ad 18), .ref (ad 19), .ref (ad 20), .ref (ad 21), .int (nI qn)])), (ad 15, .inl (cy 0, 100, .inl (upd qp qn p1))), (ad 16, .inl (cy 0, 100, .inl (upd qs qn s1))), (ad 17, .inl (cy 0, 100, .inl qt)), (ad 18, .inl (cy 0, 100, .inl qm)), (ad 19, .inl (cy 0, 100, .inl qf)), (ad 20, .inl (cy 0, 100, .inl ql)), (ad 21, .inl (cy 2, 100, .inl qx))] H := hP
  have hD : va_D A [(ad 14, .inr (2, [.ref (ad 15), .ref (ad 16), .ref (ad 17), .ref (ad 18), .ref (ad 19), .ref (ad 20), .ref (ad 21), .int (nI qn)])), (ad 15, .inl (cy 0, 100, .inl (upd qp qn p1))), (ad 16, .inl (cy 0, 100, .inl (upd qs qn s1))), (ad 17, .inl (cy 0, 100, .inl qt)), (ad 18, .inl (cy 0, 100, .inl qm)), (ad 19, .inl (cy 0, 100, .inl qf)), (ad 20, .inl (cy 0, 100, .inl ql)), (ad 21, .inl (cy 2, 100, .inl qx))] := hD
  refine lv_aload_n hx hb dX2_add_22 rfl (lv_at hl 1 rfl) ?_
  refine va_get (D := (dC, dI)) (ci := 2) (v := .ref (ad 17)) (C := RX2) (T := TX2) (N := 8) hx hb hts hiX2 hown hK hP 0 rfl rfl 2 (by decide) hL3 (fun _ h9 => h9) rfl dX2_add_23 ?_
  refine lv_iload hx hb dX2_add_26 (lv_at hl 0 rfl) ?_
  refine lv_iload_n hx hb dX2_add_28 rfl (lv_at hl 4 rfl) ?_
  refine bw_iast hx hb hK hP hD hS 3 0 rfl rfl (j := qn) (nI_toInt (by omega)) (by omega) dX2_add_29 (fun H locs hP hD hS => ?_)
  have hP : va_P (dC, dI) vwCl [(ad 14, .inr (2, [.ref (ad 15), .ref (ad 16), .ref (ad 17), .ref (ad 18), .ref (ad 19), .ref (ad 20), .ref (ad 21), .int (nI qn)])), (ad 15, .inl (cy 0, 100, .inl (upd qp qn p1))), (ad 16, .inl (cy 0, 100, .inl (upd qs qn s1))), (ad 17, .inl (cy 0, 100, .inl (upd qt qn t1))), (ad 18, .inl (cy 0, 100, .inl qm)), (ad 19, .inl (cy 0, 100, .inl qf)), (ad 20, .inl (cy 0, 100, .inl ql)), (ad 21, .inl (cy 2, 100, .inl qx))] H := hP
  have hD : va_D A [(ad 14, .inr (2, [.ref (ad 15), .ref (ad 16), .ref (ad 17), .ref (ad 18), .ref (ad 19), .ref (ad 20), .ref (ad 21), .int (nI qn)])), (ad 15, .inl (cy 0, 100, .inl (upd qp qn p1))), (ad 16, .inl (cy 0, 100, .inl (upd qs qn s1))), (ad 17, .inl (cy 0, 100, .inl (upd qt qn t1))), (ad 18, .inl (cy 0, 100, .inl qm)), (ad 19, .inl (cy 0, 100, .inl qf)), (ad 20, .inl (cy 0, 100, .inl ql)), (ad 21, .inl (cy 2, 100, .inl qx))] := hD
  refine lv_aload_n hx hb dX2_add_30 rfl (lv_at hl 1 rfl) ?_
  refine va_get (D := (dC, dI)) (ci := 2) (v := .ref (ad 18)) (C := RX2) (T := TX2) (N := 8) hx hb hts hiX2 hown hK hP 0 rfl rfl 3 (by decide) hL4 (fun _ h9 => h9) rfl dX2_add_31 ?_
  refine lv_iload hx hb dX2_add_34 (lv_at hl 0 rfl) ?_
  refine lv_iload hx hb dX2_add_36 (lv_at hl 5 rfl) ?_
  refine bw_iast hx hb hK hP hD hS 4 0 rfl rfl (j := qn) (nI_toInt (by omega)) (by omega) dX2_add_38 (fun H locs hP hD hS => ?_)
  have hP : va_P (dC, dI) vwCl [(ad 14, .inr (2, [.ref (ad 15), .ref (ad 16), .ref (ad 17), .ref (ad 18), .ref (ad 19), .ref (ad 20), .ref (ad 21), .int (nI qn)])), (ad 15, .inl (cy 0, 100, .inl (upd qp qn p1))), (ad 16, .inl (cy 0, 100, .inl (upd qs qn s1))), (ad 17, .inl (cy 0, 100, .inl (upd qt qn t1))), (ad 18, .inl (cy 0, 100, .inl (upd qm qn m1))), (ad 19, .inl (cy 0, 100, .inl qf)), (ad 20, .inl (cy 0, 100, .inl ql)), (ad 21, .inl (cy 2, 100, .inl qx))] H := hP
  have hD : va_D A [(ad 14, .inr (2, [.ref (ad 15), .ref (ad 16), .ref (ad 17), .ref (ad 18), .ref (ad 19), .ref (ad 20), .ref (ad 21), .int (nI qn)])), (ad 15, .inl (cy 0, 100, .inl (upd qp qn p1))), (ad 16, .inl (cy 0, 100, .inl (upd qs qn s1))), (ad 17, .inl (cy 0, 100, .inl (upd qt qn t1))), (ad 18, .inl (cy 0, 100, .inl (upd qm qn m1))), (ad 19, .inl (cy 0, 100, .inl qf)), (ad 20, .inl (cy 0, 100, .inl ql)), (ad 21, .inl (cy 2, 100, .inl qx))] := hD
  refine lv_aload_n hx hb dX2_add_39 rfl (lv_at hl 1 rfl) ?_
  refine va_get (D := (dC, dI)) (ci := 2) (v := .ref (ad 19)) (C := RX2) (T := TX2) (N := 8) hx hb hts hiX2 hown hK hP 0 rfl rfl 4 (by decide) hL5 (fun _ h9 => h9) rfl dX2_add_40 ?_
  refine lv_iload hx hb dX2_add_43 (lv_at hl 0 rfl) ?_
  refine lv_iload hx hb dX2_add_45 (lv_at hl 6 rfl) ?_
  refine bw_iast hx hb hK hP hD hS 5 0 rfl rfl (j := qn) (nI_toInt (by omega)) (by omega) dX2_add_47 (fun H locs hP hD hS => ?_)
  have hP : va_P (dC, dI) vwCl [(ad 14, .inr (2, [.ref (ad 15), .ref (ad 16), .ref (ad 17), .ref (ad 18), .ref (ad 19), .ref (ad 20), .ref (ad 21), .int (nI qn)])), (ad 15, .inl (cy 0, 100, .inl (upd qp qn p1))), (ad 16, .inl (cy 0, 100, .inl (upd qs qn s1))), (ad 17, .inl (cy 0, 100, .inl (upd qt qn t1))), (ad 18, .inl (cy 0, 100, .inl (upd qm qn m1))), (ad 19, .inl (cy 0, 100, .inl (upd qf qn f1))), (ad 20, .inl (cy 0, 100, .inl ql)), (ad 21, .inl (cy 2, 100, .inl qx))] H := hP
  have hD : va_D A [(ad 14, .inr (2, [.ref (ad 15), .ref (ad 16), .ref (ad 17), .ref (ad 18), .ref (ad 19), .ref (ad 20), .ref (ad 21), .int (nI qn)])), (ad 15, .inl (cy 0, 100, .inl (upd qp qn p1))), (ad 16, .inl (cy 0, 100, .inl (upd qs qn s1))), (ad 17, .inl (cy 0, 100, .inl (upd qt qn t1))), (ad 18, .inl (cy 0, 100, .inl (upd qm qn m1))), (ad 19, .inl (cy 0, 100, .inl (upd qf qn f1))), (ad 20, .inl (cy 0, 100, .inl ql)), (ad 21, .inl (cy 2, 100, .inl qx))] := hD
  refine lv_aload_n hx hb dX2_add_48 rfl (lv_at hl 1 rfl) ?_
  refine va_get (D := (dC, dI)) (ci := 2) (v := .ref (ad 20)) (C := RX2) (T := TX2) (N := 8) hx hb hts hiX2 hown hK hP 0 rfl rfl 5 (by decide) hL6 (fun _ h9 => h9) rfl dX2_add_49 ?_
  refine lv_iload hx hb dX2_add_52 (lv_at hl 0 rfl) ?_
  refine lv_iload hx hb dX2_add_54 (lv_at hl 7 rfl) ?_
  refine bw_iast hx hb hK hP hD hS 6 0 rfl rfl (j := qn) (nI_toInt (by omega)) (by omega) dX2_add_56 (fun H locs hP hD hS => ?_)
  have hP : va_P (dC, dI) vwCl [(ad 14, .inr (2, [.ref (ad 15), .ref (ad 16), .ref (ad 17), .ref (ad 18), .ref (ad 19), .ref (ad 20), .ref (ad 21), .int (nI qn)])), (ad 15, .inl (cy 0, 100, .inl (upd qp qn p1))), (ad 16, .inl (cy 0, 100, .inl (upd qs qn s1))), (ad 17, .inl (cy 0, 100, .inl (upd qt qn t1))), (ad 18, .inl (cy 0, 100, .inl (upd qm qn m1))), (ad 19, .inl (cy 0, 100, .inl (upd qf qn f1))), (ad 20, .inl (cy 0, 100, .inl (upd ql qn l1))), (ad 21, .inl (cy 2, 100, .inl qx))] H := hP
  have hD : va_D A [(ad 14, .inr (2, [.ref (ad 15), .ref (ad 16), .ref (ad 17), .ref (ad 18), .ref (ad 19), .ref (ad 20), .ref (ad 21), .int (nI qn)])), (ad 15, .inl (cy 0, 100, .inl (upd qp qn p1))), (ad 16, .inl (cy 0, 100, .inl (upd qs qn s1))), (ad 17, .inl (cy 0, 100, .inl (upd qt qn t1))), (ad 18, .inl (cy 0, 100, .inl (upd qm qn m1))), (ad 19, .inl (cy 0, 100, .inl (upd qf qn f1))), (ad 20, .inl (cy 0, 100, .inl (upd ql qn l1))), (ad 21, .inl (cy 2, 100, .inl qx))] := hD
  refine lv_aload_n hx hb dX2_add_57 rfl (lv_at hl 1 rfl) ?_
  refine lv_dup hx hb dX2_add_58 rfl ?_
  refine va_get (D := (dC, dI)) (ci := 2) (v := .int (nI qn)) (C := RX2) (T := TX2) (N := 8) hx hb hts hiX2 hown hK hP 0 rfl rfl 7 (by decide) hL0 (fun _ h9 => h9) rfl dX2_add_59 ?_
  refine lv_iconst (v := 1) hx hb dX2_add_62 (by decide) ?_
  refine lv_iadd hx hb dX2_add_63 ?_
  refine bw_re (show (nI qn) + 1 = nI (qn + 1) from nI_add (qn) (1)) ?_
  refine va_put (D := (dC, dI)) (ci := 2) (v := .int (nI (qn + 1))) (ty := (tyX2 7)) (C := RX2) (T := TX2) (N := 8) hx hb hts hiX2 tyX2 tyX2_ok nmX2 hown hK hP hD hS 0 rfl rfl 7 (by decide) hL0 (fun _ h9 => h9) rfl (by decide +kernel) rfl rfl (Nat.le_of_ble_eq_true rfl) dX2_add_64 (fun H locs hP hD hS => ?_)
  have hP : va_P (dC, dI) vwCl [(ad 14, .inr (2, [.ref (ad 15), .ref (ad 16), .ref (ad 17), .ref (ad 18), .ref (ad 19), .ref (ad 20), .ref (ad 21), .int (nI (qn + 1))])), (ad 15, .inl (cy 0, 100, .inl (upd qp qn p1))), (ad 16, .inl (cy 0, 100, .inl (upd qs qn s1))), (ad 17, .inl (cy 0, 100, .inl (upd qt qn t1))), (ad 18, .inl (cy 0, 100, .inl (upd qm qn m1))), (ad 19, .inl (cy 0, 100, .inl (upd qf qn f1))), (ad 20, .inl (cy 0, 100, .inl (upd ql qn l1))), (ad 21, .inl (cy 2, 100, .inl qx))] H := hP
  have hD : va_D A [(ad 14, .inr (2, [.ref (ad 15), .ref (ad 16), .ref (ad 17), .ref (ad 18), .ref (ad 19), .ref (ad 20), .ref (ad 21), .int (nI (qn + 1))])), (ad 15, .inl (cy 0, 100, .inl (upd qp qn p1))), (ad 16, .inl (cy 0, 100, .inl (upd qs qn s1))), (ad 17, .inl (cy 0, 100, .inl (upd qt qn t1))), (ad 18, .inl (cy 0, 100, .inl (upd qm qn m1))), (ad 19, .inl (cy 0, 100, .inl (upd qf qn f1))), (ad 20, .inl (cy 0, 100, .inl (upd ql qn l1))), (ad 21, .inl (cy 2, 100, .inl qx))] := hD
  refine lv_iload hx hb dX2_add_67 (lv_at hl 0 rfl) ?_
  subst hQ
  have hP9 : va_P (dC, dI) vwCl [(ad 14, .inr (2, [.ref (ad 15), .ref (ad 16), .ref (ad 17), .ref (ad 18), .ref (ad 19), .ref (ad 20), .ref (ad 21), .int (nI (qn + 1))])), (ad 15, .inl (cy 0, 100, .inl (upd qp qn p1))), (ad 16, .inl (cy 0, 100, .inl (upd qs qn s1))), (ad 17, .inl (cy 0, 100, .inl (upd qt qn t1))), (ad 18, .inl (cy 0, 100, .inl (upd qm qn m1))), (ad 19, .inl (cy 0, 100, .inl (upd qf qn f1))), (ad 20, .inl (cy 0, 100, .inl (upd ql qn l1))), (ad 21, .inl (cy 2, 100, .inl qx))] H := hP.sub [0, 1, 2, 3, 4, 5, 6, 7] rfl
  have hD9 : va_D A [(ad 14, .inr (2, [.ref (ad 15), .ref (ad 16), .ref (ad 17), .ref (ad 18), .ref (ad 19), .ref (ad 20), .ref (ad 21), .int (nI (qn + 1))])), (ad 15, .inl (cy 0, 100, .inl (upd qp qn p1))), (ad 16, .inl (cy 0, 100, .inl (upd qs qn s1))), (ad 17, .inl (cy 0, 100, .inl (upd qt qn t1))), (ad 18, .inl (cy 0, 100, .inl (upd qm qn m1))), (ad 19, .inl (cy 0, 100, .inl (upd qf qn f1))), (ad 20, .inl (cy 0, 100, .inl (upd ql qn l1))), (ad 21, .inl (cy 2, 100, .inl qx))] := hD.sub [0, 1, 2, 3, 4, 5, 6, 7] (by decide) rfl
  have hpost : (nI qn : Int32) = nI qn := by
    exact rfl
  exact W.iret (v := nI qn) hx hb hr (fun t9 ht hW => ⟨⟨nI qn, (), rfl, hpost, by rw [ht]; exact hP9, va_K.moved hW.alike hK, hD9⟩, hS.F ht⟩) hS.2.2 dX2_add_69

set_option maxHeartbeats 4000000 in
set_option maxRecDepth 100000 in
theorem c_X0_add (l : Launch) (dC : Nat → ClassId) (dI : Nat → Nat → Nat) (cy : Nat → ClassId) (ad : Nat → Nat) (an : Nat) (ap : Nat → Int32) (as_ : Nat → Int32) (ay : Nat → Int32) (ast : Nat → Int32) (ayes : Nat → Int32) (ano : Nat → Int32) (asp : Nat → Int32) (aln : Nat → Int32) (alw : Nat → Int32) (alx : Nat → Int32) (p1 : Int32) (s1 : Int32) (y1 : Int32) (sz : Nat) (han : an < 40) : Met l yX0_add wsX0_add ({ frames := 0, cells := 0, slots := 0, locals := 0 }) (va_Pc [.ref (ad 30), .int p1, .int s1, .int y1] (fun U => U.heap.size = sz ∧ va_P (dC, dI) vwCl [(ad 30, .inr (0, [.ref (ad 31), .ref (ad 32), .ref (ad 33), .ref (ad 34), .ref (ad 35), .ref (ad 36), .ref (ad 37), .ref (ad 38), .ref (ad 39), .ref (ad 40), .int (nI an)])), (ad 31, .inl (cy 0, 40, .inl ap)), (ad 32, .inl (cy 0, 40, .inl as_)), (ad 33, .inl (cy 0, 40, .inl ay)), (ad 34, .inl (cy 0, 40, .inl ast)), (ad 35, .inl (cy 0, 40, .inl ayes)), (ad 36, .inl (cy 0, 40, .inl ano)), (ad 37, .inl (cy 0, 40, .inl asp)), (ad 38, .inl (cy 0, 40, .inl aln)), (ad 39, .inl (cy 0, 320, .inl alw)), (ad 40, .inl (cy 0, 320, .inl alx))] U.heap ∧ va_K (dC, dI) vwCl (tyL cy) U ∧ va_D (fun _ => True) [(ad 30, .inr (0, [.ref (ad 31), .ref (ad 32), .ref (ad 33), .ref (ad 34), .ref (ad 35), .ref (ad 36), .ref (ad 37), .ref (ad 38), .ref (ad 39), .ref (ad 40), .int (nI an)])), (ad 31, .inl (cy 0, 40, .inl ap)), (ad 32, .inl (cy 0, 40, .inl as_)), (ad 33, .inl (cy 0, 40, .inl ay)), (ad 34, .inl (cy 0, 40, .inl ast)), (ad 35, .inl (cy 0, 40, .inl ayes)), (ad 36, .inl (cy 0, 40, .inl ano)), (ad 37, .inl (cy 0, 40, .inl asp)), (ad 38, .inl (cy 0, 40, .inl aln)), (ad 39, .inl (cy 0, 320, .inl alw)), (ad 40, .inl (cy 0, 320, .inl alx))])) (va_Qi (S := Unit) (fun r => fun _ => r = nI an) (fun _ => fun t => va_P (dC, dI) vwCl [(ad 30, .inr (0, [.ref (ad 31), .ref (ad 32), .ref (ad 33), .ref (ad 34), .ref (ad 35), .ref (ad 36), .ref (ad 37), .ref (ad 38), .ref (ad 39), .ref (ad 40), .int (nI (an + 1))])), (ad 31, .inl (cy 0, 40, .inl (upd ap an p1))), (ad 32, .inl (cy 0, 40, .inl (upd as_ an s1))), (ad 33, .inl (cy 0, 40, .inl (upd ay an y1))), (ad 34, .inl (cy 0, 40, .inl (upd ast an 0))), (ad 35, .inl (cy 0, 40, .inl ayes)), (ad 36, .inl (cy 0, 40, .inl ano)), (ad 37, .inl (cy 0, 40, .inl (upd asp an (-1)))), (ad 38, .inl (cy 0, 40, .inl (upd aln an (-1)))), (ad 39, .inl (cy 0, 320, .inl alw)), (ad 40, .inl (cy 0, 320, .inl alx))] t.heap ∧ va_K (dC, dI) vwCl (tyL cy) t ∧ va_D (va_A [(ad 30, .inr (0, [.ref (ad 31), .ref (ad 32), .ref (ad 33), .ref (ad 34), .ref (ad 35), .ref (ad 36), .ref (ad 37), .ref (ad 38), .ref (ad 39), .ref (ad 40), .int (nI an)])), (ad 31, .inl (cy 0, 40, .inl ap)), (ad 32, .inl (cy 0, 40, .inl as_)), (ad 33, .inl (cy 0, 40, .inl ay)), (ad 34, .inl (cy 0, 40, .inl ast)), (ad 35, .inl (cy 0, 40, .inl ayes)), (ad 36, .inl (cy 0, 40, .inl ano)), (ad 37, .inl (cy 0, 40, .inl asp)), (ad 38, .inl (cy 0, 40, .inl aln)), (ad 39, .inl (cy 0, 320, .inl alw)), (ad 40, .inl (cy 0, 320, .inl alx))] sz) [(ad 30, .inr (0, [.ref (ad 31), .ref (ad 32), .ref (ad 33), .ref (ad 34), .ref (ad 35), .ref (ad 36), .ref (ad 37), .ref (ad 38), .ref (ad 39), .ref (ad 40), .int (nI (an + 1))])), (ad 31, .inl (cy 0, 40, .inl (upd ap an p1))), (ad 32, .inl (cy 0, 40, .inl (upd as_ an s1))), (ad 33, .inl (cy 0, 40, .inl (upd ay an y1))), (ad 34, .inl (cy 0, 40, .inl (upd ast an 0))), (ad 35, .inl (cy 0, 40, .inl ayes)), (ad 36, .inl (cy 0, 40, .inl ano)), (ad 37, .inl (cy 0, 40, .inl (upd asp an (-1)))), (ad 38, .inl (cy 0, 40, .inl (upd aln an (-1)))), (ad 39, .inl (cy 0, 320, .inl alw)), (ad 40, .inl (cy 0, 320, .inl alx))]) (va_A [(ad 30, .inr (0, [.ref (ad 31), .ref (ad 32), .ref (ad 33), .ref (ad 34), .ref (ad 35), .ref (ad 36), .ref (ad 37), .ref (ad 38), .ref (ad 39), .ref (ad 40), .int (nI an)])), (ad 31, .inl (cy 0, 40, .inl ap)), (ad 32, .inl (cy 0, 40, .inl as_)), (ad 33, .inl (cy 0, 40, .inl ay)), (ad 34, .inl (cy 0, 40, .inl ast)), (ad 35, .inl (cy 0, 40, .inl ayes)), (ad 36, .inl (cy 0, 40, .inl ano)), (ad 37, .inl (cy 0, 40, .inl asp)), (ad 38, .inl (cy 0, 40, .inl aln)), (ad 39, .inl (cy 0, 320, .inl alw)), (ad 40, .inl (cy 0, 320, .inl alx))] sz)) 0 0 (va_A [(ad 30, .inr (0, [.ref (ad 31), .ref (ad 32), .ref (ad 33), .ref (ad 34), .ref (ad 35), .ref (ad 36), .ref (ad 37), .ref (ad 38), .ref (ad 39), .ref (ad 40), .int (nI an)])), (ad 31, .inl (cy 0, 40, .inl ap)), (ad 32, .inl (cy 0, 40, .inl as_)), (ad 33, .inl (cy 0, 40, .inl ay)), (ad 34, .inl (cy 0, 40, .inl ast)), (ad 35, .inl (cy 0, 40, .inl ayes)), (ad 36, .inl (cy 0, 40, .inl ano)), (ad 37, .inl (cy 0, 40, .inl asp)), (ad 38, .inl (cy 0, 40, .inl aln)), (ad 39, .inl (cy 0, 320, .inl alw)), (ad 40, .inl (cy 0, 320, .inl alx))] sz) := by
  refine Met.ofW (cc := cX0_add) (maxL := 5) (ret := (some .int)) (by decide) rfl ?_
  intro pp ee ss mm args below meth cc0 s₁ B hml hv
  obtain ⟨rfl, hsz, hP, hK, hD0⟩ := hv
  have hx := B.exec
  have hb := B.bytes
  have hr := B.returns
  have hts := atoms_spec (ws := wsX0_add) B.pre
  have hown : ss.vm.findClass RX0 = some mm.cls := findClass_of_methodNamed B.named
  have hlocks := B.notSynchronized
  have hL0 := hts (.fieldLink RX0 42 "HereLived$Askings" "size" "I") (by decide +kernel)
  have hL1 := hts (.fieldLink RX0 9 "HereLived$Askings" "ofPerson" "[I") (by decide +kernel)
  have hL2 := hts (.fieldLink RX0 15 "HereLived$Askings" "ofSite" "[I") (by decide +kernel)
  have hL3 := hts (.fieldLink RX0 18 "HereLived$Askings" "year" "[I") (by decide +kernel)
  have hL4 := hts (.fieldLink RX0 21 "HereLived$Askings" "state" "[I") (by decide +kernel)
  have hL5 := hts (.fieldLink RX0 30 "HereLived$Askings" "spokeAgainst" "[I") (by decide +kernel)
  have hL6 := hts (.fieldLink RX0 33 "HereLived$Askings" "lines" "[I") (by decide +kernel)
  have hiX0 : ∀ w ∈ wsX00, w ∈ wsX0_add := by decide +kernel
  subst hsz
  have hD := hD0.self (sz := ss.heap.size)
  generalize hAe : va_A [(ad 30, .inr (0, [.ref (ad 31), .ref (ad 32), .ref (ad 33), .ref (ad 34), .ref (ad 35), .ref (ad 36), .ref (ad 37), .ref (ad 38), .ref (ad 39), .ref (ad 40), .int (nI an)])), (ad 31, .inl (cy 0, 40, .inl ap)), (ad 32, .inl (cy 0, 40, .inl as_)), (ad 33, .inl (cy 0, 40, .inl ay)), (ad 34, .inl (cy 0, 40, .inl ast)), (ad 35, .inl (cy 0, 40, .inl ayes)), (ad 36, .inl (cy 0, 40, .inl ano)), (ad 37, .inl (cy 0, 40, .inl asp)), (ad 38, .inl (cy 0, 40, .inl aln)), (ad 39, .inl (cy 0, 320, .inl alw)), (ad 40, .inl (cy 0, 320, .inl alx))] ss.heap.size = A at hD ⊢
  have hA : ∀ q : Nat, ss.heap.size ≤ q → A q := fun q h => by rw [← hAe]; exact Or.inr h
  have hS : va_S A ss.heap ss.heap [] := va_S.rf
  have hP : va_P (dC, dI) vwCl [(ad 30, .inr (0, [.ref (ad 31), .ref (ad 32), .ref (ad 33), .ref (ad 34), .ref (ad 35), .ref (ad 36), .ref (ad 37), .ref (ad 38), .ref (ad 39), .ref (ad 40), .int (nI an)])), (ad 31, .inl (cy 0, 40, .inl ap)), (ad 32, .inl (cy 0, 40, .inl as_)), (ad 33, .inl (cy 0, 40, .inl ay)), (ad 34, .inl (cy 0, 40, .inl ast)), (ad 35, .inl (cy 0, 40, .inl ayes)), (ad 36, .inl (cy 0, 40, .inl ano)), (ad 37, .inl (cy 0, 40, .inl asp)), (ad 38, .inl (cy 0, 40, .inl aln)), (ad 39, .inl (cy 0, 320, .inl alw)), (ad 40, .inl (cy 0, 320, .inl alx))] ss.heap := hP
  have hl := lv_entry ([.ref (ad 30), .int p1, .int s1, .int y1]) (n := 5) (Nat.le_of_ble_eq_true rfl)
  rw [lg_entry_eq]
  generalize (lg_sl ([.ref (ad 30), .int p1, .int s1, .int y1]) ++ List.replicate (5 - (lg_sl ([.ref (ad 30), .int p1, .int s1, .int y1])).length) Slot.unset).toArray = ls at hl ⊢
  have hl : lv_has ls 5 [(0, .ref (ad 30)), (1, .int p1), (2, .int s1), (3, .int y1)] := hl
  refine bw_Q (fun Q hQ => ?_)
  refine bw_H0 (fun H locs eH eL => ?_)
  have hS : va_S A ss.heap H locs := by rw [eH, eL]; exact hS
  have hP : va_P (dC, dI) vwCl [(ad 30, .inr (0, [.ref (ad 31), .ref (ad 32), .ref (ad 33), .ref (ad 34), .ref (ad 35), .ref (ad 36), .ref (ad 37), .ref (ad 38), .ref (ad 39), .ref (ad 40), .int (nI an)])), (ad 31, .inl (cy 0, 40, .inl ap)), (ad 32, .inl (cy 0, 40, .inl as_)), (ad 33, .inl (cy 0, 40, .inl ay)), (ad 34, .inl (cy 0, 40, .inl ast)), (ad 35, .inl (cy 0, 40, .inl ayes)), (ad 36, .inl (cy 0, 40, .inl ano)), (ad 37, .inl (cy 0, 40, .inl asp)), (ad 38, .inl (cy 0, 40, .inl aln)), (ad 39, .inl (cy 0, 320, .inl alw)), (ad 40, .inl (cy 0, 320, .inl alx))] H := by rw [eH]; exact hP
  change W pp l ee { frames := 0, cells := 0, slots := 0, locals := 0 } ss mm _ below meth cc0 H locs 0 0 Q (F0 mm 0 ls [])
  refine lv_aload_n hx hb dX0_add_0 rfl (lv_at hl 0 rfl) ?_
  refine va_get (D := (dC, dI)) (ci := 0) (v := .int (nI an)) (C := RX0) (T := TX0) (N := 11) hx hb hts hiX0 hown hK hP 0 rfl rfl 10 (by decide) hL0 (fun _ h9 => h9) rfl dX0_add_1 ?_
  refine lv_istore (lv' := [(4, .int (nI an)), (0, .ref (ad 30)), (1, .int p1), (2, .int s1), (3, .int y1)]) hx hb dX0_add_4 hl (by decide) rfl (fun ls hl => ?_)
  refine lv_aload_n hx hb dX0_add_6 rfl (lv_at hl 1 rfl) ?_
  refine va_get (D := (dC, dI)) (ci := 0) (v := .ref (ad 31)) (C := RX0) (T := TX0) (N := 11) hx hb hts hiX0 hown hK hP 0 rfl rfl 0 (by decide) hL1 (fun _ h9 => h9) rfl dX0_add_7 ?_
  refine lv_iload hx hb dX0_add_10 (lv_at hl 0 rfl) ?_
  refine lv_iload_n hx hb dX0_add_12 rfl (lv_at hl 2 rfl) ?_
  refine bw_iast hx hb hK hP hD hS 1 0 rfl rfl (j := an) (nI_toInt (by omega)) (by omega) dX0_add_13 (fun H locs hP hD hS => ?_)
  have hP : va_P (dC, dI) vwCl [(ad 30, .inr (0, [.ref (ad 31), .ref (ad 32), .ref (ad 33), .ref (ad 34), .ref (ad 35), .ref (ad 36), .ref (ad 37), .ref (ad 38), .ref (ad 39), .ref (ad 40), .int (nI an)])), (ad 31, .inl (cy 0, 40, .inl (upd ap an p1))), (ad 32, .inl (cy 0, 40, .inl as_)), (ad 33, .inl (cy 0, 40, .inl ay)), (ad 34, .inl (cy 0, 40, .inl ast)), (ad 35, .inl (cy 0, 40, .inl ayes)), (ad 36, .inl (cy 0, 40, .inl ano)), (ad 37, .inl (cy 0, 40, .inl asp)), (ad 38, .inl (cy 0, 40, .inl aln)), (ad 39, .inl (cy 0, 320, .inl alw)), (ad 40, .inl (cy 0, 320, .inl alx))] H := hP
  have hD : va_D A [(ad 30, .inr (0, [.ref (ad 31), .ref (ad 32), .ref (ad 33), .ref (ad 34), .ref (ad 35), .ref (ad 36), .ref (ad 37), .ref (ad 38), .ref (ad 39), .ref (ad 40), .int (nI an)])), (ad 31, .inl (cy 0, 40, .inl (upd ap an p1))), (ad 32, .inl (cy 0, 40, .inl as_)), (ad 33, .inl (cy 0, 40, .inl ay)), (ad 34, .inl (cy 0, 40, .inl ast)), (ad 35, .inl (cy 0, 40, .inl ayes)), (ad 36, .inl (cy 0, 40, .inl ano)), (ad 37, .inl (cy 0, 40, .inl asp)), (ad 38, .inl (cy 0, 40, .inl aln)), (ad 39, .inl (cy 0, 320, .inl alw)), (ad 40, .inl (cy 0, 320, .inl alx))] := hD
  refine lv_aload_n hx hb dX0_add_14 rfl (lv_at hl 1 rfl) ?_
  refine va_get (D := (dC, dI)) (ci := 0) (v := .ref (ad 32)) (C := RX0) (T := TX0) (N := 11) hx hb hts hiX0 hown hK hP 0 rfl rfl 1 (by decide) hL2 (fun _ h9 => h9) rfl dX0_add_15 ?_
  refine lv_iload hx hb dX0_add_18 (lv_at hl 0 rfl) ?_
  refine lv_iload_n hx hb dX0_add_20 rfl (lv_at hl 3 rfl) ?_
  refine bw_iast hx hb hK hP hD hS 2 0 rfl rfl (j := an) (nI_toInt (by omega)) (by omega) dX0_add_21 (fun H locs hP hD hS => ?_)
  have hP : va_P (dC, dI) vwCl [(ad 30, .inr (0, [.ref (ad 31), .ref (ad 32), .ref (ad 33), .ref (ad 34), .ref (ad 35), .ref (ad 36), .ref (ad 37), .ref (ad 38), .ref (ad 39), .ref (ad 40), .int (nI an)])), (ad 31, .inl (cy 0, 40, .inl (upd ap an p1))), (ad 32, .inl (cy 0, 40, .inl (upd as_ an s1))), (ad 33, .inl (cy 0, 40, .inl ay)), (ad 34, .inl (cy 0, 40, .inl ast)), (ad 35, .inl (cy 0, 40, .inl ayes)), (ad 36, .inl (cy 0, 40, .inl ano)), (ad 37, .inl (cy 0, 40, .inl asp)), (ad 38, .inl (cy 0, 40, .inl aln)), (ad 39, .inl (cy 0, 320, .inl alw)), (ad 40, .inl (cy 0, 320, .inl alx))] H := hP
  have hD : va_D A [(ad 30, .inr (0, [.ref (ad 31), .ref (ad 32), .ref (ad 33), .ref (ad 34), .ref (ad 35), .ref (ad 36), .ref (ad 37), .ref (ad 38), .ref (ad 39), .ref (ad 40), .int (nI an)])), (ad 31, .inl (cy 0, 40, .inl (upd ap an p1))), (ad 32, .inl (cy 0, 40, .inl (upd as_ an s1))), (ad 33, .inl (cy 0, 40, .inl ay)), (ad 34, .inl (cy 0, 40, .inl ast)), (ad 35, .inl (cy 0, 40, .inl ayes)), (ad 36, .inl (cy 0, 40, .inl ano)), (ad 37, .inl (cy 0, 40, .inl asp)), (ad 38, .inl (cy 0, 40, .inl aln)), (ad 39, .inl (cy 0, 320, .inl alw)), (ad 40, .inl (cy 0, 320, .inl alx))] := hD
  refine lv_aload_n hx hb dX0_add_22 rfl (lv_at hl 1 rfl) ?_
  refine va_get (D := (dC, dI)) (ci := 0) (v := .ref (ad 33)) (C := RX0) (T := TX0) (N := 11) hx hb hts hiX0 hown hK hP 0 rfl rfl 2 (by decide) hL3 (fun _ h9 => h9) rfl dX0_add_23 ?_
  refine lv_iload hx hb dX0_add_26 (lv_at hl 0 rfl) ?_
  refine lv_iload_n hx hb dX0_add_28 rfl (lv_at hl 4 rfl) ?_
  refine bw_iast hx hb hK hP hD hS 3 0 rfl rfl (j := an) (nI_toInt (by omega)) (by omega) dX0_add_29 (fun H locs hP hD hS => ?_)
  have hP : va_P (dC, dI) vwCl [(ad 30, .inr (0, [.ref (ad 31), .ref (ad 32), .ref (ad 33), .ref (ad 34), .ref (ad 35), .ref (ad 36), .ref (ad 37), .ref (ad 38), .ref (ad 39), .ref (ad 40), .int (nI an)])), (ad 31, .inl (cy 0, 40, .inl (upd ap an p1))), (ad 32, .inl (cy 0, 40, .inl (upd as_ an s1))), (ad 33, .inl (cy 0, 40, .inl (upd ay an y1))), (ad 34, .inl (cy 0, 40, .inl ast)), (ad 35, .inl (cy 0, 40, .inl ayes)), (ad 36, .inl (cy 0, 40, .inl ano)), (ad 37, .inl (cy 0, 40, .inl asp)), (ad 38, .inl (cy 0, 40, .inl aln)), (ad 39, .inl (cy 0, 320, .inl alw)), (ad 40, .inl (cy 0, 320, .inl alx))] H := hP
  have hD : va_D A [(ad 30, .inr (0, [.ref (ad 31), .ref (ad 32), .ref (ad 33), .ref (ad 34), .ref (ad 35), .ref (ad 36), .ref (ad 37), .ref (ad 38), .ref (ad 39), .ref (ad 40), .int (nI an)])), (ad 31, .inl (cy 0, 40, .inl (upd ap an p1))), (ad 32, .inl (cy 0, 40, .inl (upd as_ an s1))), (ad 33, .inl (cy 0, 40, .inl (upd ay an y1))), (ad 34, .inl (cy 0, 40, .inl ast)), (ad 35, .inl (cy 0, 40, .inl ayes)), (ad 36, .inl (cy 0, 40, .inl ano)), (ad 37, .inl (cy 0, 40, .inl asp)), (ad 38, .inl (cy 0, 40, .inl aln)), (ad 39, .inl (cy 0, 320, .inl alw)), (ad 40, .inl (cy 0, 320, .inl alx))] := hD
  refine lv_aload_n hx hb dX0_add_30 rfl (lv_at hl 1 rfl) ?_
  refine va_get (D := (dC, dI)) (ci := 0) (v := .ref (ad 34)) (C := RX0) (T := TX0) (N := 11) hx hb hts hiX0 hown hK hP 0 rfl rfl 3 (by decide) hL4 (fun _ h9 => h9) rfl dX0_add_31 ?_
  refine lv_iload hx hb dX0_add_34 (lv_at hl 0 rfl) ?_
  refine lv_iconst (v := 0) hx hb dX0_add_36 (by decide) ?_
  refine bw_iast hx hb hK hP hD hS 4 0 rfl rfl (j := an) (nI_toInt (by omega)) (by omega) dX0_add_37 (fun H locs hP hD hS => ?_)
  have hP : va_P (dC, dI) vwCl [(ad 30, .inr (0, [.ref (ad 31), .ref (ad 32), .ref (ad 33), .ref (ad 34), .ref (ad 35), .ref (ad 36), .ref (ad 37), .ref (ad 38), .ref (ad 39), .ref (ad 40), .int (nI an)])), (ad 31, .inl (cy 0, 40, .inl (upd ap an p1))), (ad 32, .inl (cy 0, 40, .inl (upd as_ an s1))), (ad 33, .inl (cy 0, 40, .inl (upd ay an y1))), (ad 34, .inl (cy 0, 40, .inl (upd ast an 0))), (ad 35, .inl (cy 0, 40, .inl ayes)), (ad 36, .inl (cy 0, 40, .inl ano)), (ad 37, .inl (cy 0, 40, .inl asp)), (ad 38, .inl (cy 0, 40, .inl aln)), (ad 39, .inl (cy 0, 320, .inl alw)), (ad 40, .inl (cy 0, 320, .inl alx))] H := hP
  have hD : va_D A [(ad 30, .inr (0, [.ref (ad 31), .ref (ad 32), .ref (ad 33), .ref (ad 34), .ref (ad 35), .ref (ad 36), .ref (ad 37), .ref (ad 38), .ref (ad 39), .ref (ad 40), .int (nI an)])), (ad 31, .inl (cy 0, 40, .inl (upd ap an p1))), (ad 32, .inl (cy 0, 40, .inl (upd as_ an s1))), (ad 33, .inl (cy 0, 40, .inl (upd ay an y1))), (ad 34, .inl (cy 0, 40, .inl (upd ast an 0))), (ad 35, .inl (cy 0, 40, .inl ayes)), (ad 36, .inl (cy 0, 40, .inl ano)), (ad 37, .inl (cy 0, 40, .inl asp)), (ad 38, .inl (cy 0, 40, .inl aln)), (ad 39, .inl (cy 0, 320, .inl alw)), (ad 40, .inl (cy 0, 320, .inl alx))] := hD
  refine lv_aload_n hx hb dX0_add_38 rfl (lv_at hl 1 rfl) ?_
  refine va_get (D := (dC, dI)) (ci := 0) (v := .ref (ad 37)) (C := RX0) (T := TX0) (N := 11) hx hb hts hiX0 hown hK hP 0 rfl rfl 6 (by decide) hL5 (fun _ h9 => h9) rfl dX0_add_39 ?_
  refine lv_iload hx hb dX0_add_42 (lv_at hl 0 rfl) ?_
  refine lv_iconst (v := (-1)) hx hb dX0_add_44 (by decide) ?_
  refine bw_iast hx hb hK hP hD hS 7 0 rfl rfl (j := an) (nI_toInt (by omega)) (by omega) dX0_add_45 (fun H locs hP hD hS => ?_)
  have hP : va_P (dC, dI) vwCl [(ad 30, .inr (0, [.ref (ad 31), .ref (ad 32), .ref (ad 33), .ref (ad 34), .ref (ad 35), .ref (ad 36), .ref (ad 37), .ref (ad 38), .ref (ad 39), .ref (ad 40), .int (nI an)])), (ad 31, .inl (cy 0, 40, .inl (upd ap an p1))), (ad 32, .inl (cy 0, 40, .inl (upd as_ an s1))), (ad 33, .inl (cy 0, 40, .inl (upd ay an y1))), (ad 34, .inl (cy 0, 40, .inl (upd ast an 0))), (ad 35, .inl (cy 0, 40, .inl ayes)), (ad 36, .inl (cy 0, 40, .inl ano)), (ad 37, .inl (cy 0, 40, .inl (upd asp an (-1)))), (ad 38, .inl (cy 0, 40, .inl aln)), (ad 39, .inl (cy 0, 320, .inl alw)), (ad 40, .inl (cy 0, 320, .inl alx))] H := hP
  have hD : va_D A [(ad 30, .inr (0, [.ref (ad 31), .ref (ad 32), .ref (ad 33), .ref (ad 34), .ref (ad 35), .ref (ad 36), .ref (ad 37), .ref (ad 38), .ref (ad 39), .ref (ad 40), .int (nI an)])), (ad 31, .inl (cy 0, 40, .inl (upd ap an p1))), (ad 32, .inl (cy 0, 40, .inl (upd as_ an s1))), (ad 33, .inl (cy 0, 40, .inl (upd ay an y1))), (ad 34, .inl (cy 0, 40, .inl (upd ast an 0))), (ad 35, .inl (cy 0, 40, .inl ayes)), (ad 36, .inl (cy 0, 40, .inl ano)), (ad 37, .inl (cy 0, 40, .inl (upd asp an (-1)))), (ad 38, .inl (cy 0, 40, .inl aln)), (ad 39, .inl (cy 0, 320, .inl alw)), (ad 40, .inl (cy 0, 320, .inl alx))] := hD
  refine lv_aload_n hx hb dX0_add_46 rfl (lv_at hl 1 rfl) ?_
  refine va_get (D := (dC, dI)) (ci := 0) (v := .ref (ad 38)) (C := RX0) (T := TX0) (N := 11) hx hb hts hiX0 hown hK hP 0 rfl rfl 7 (by decide) hL6 (fun _ h9 => h9) rfl dX0_add_47 ?_
  refine lv_iload hx hb dX0_add_50 (lv_at hl 0 rfl) ?_
  refine lv_iconst (v := (-1)) hx hb dX0_add_52 (by decide) ?_
  refine bw_iast hx hb hK hP hD hS 8 0 rfl rfl (j := an) (nI_toInt (by omega)) (by omega) dX0_add_53 (fun H locs hP hD hS => ?_)
  have hP : va_P (dC, dI) vwCl [(ad 30, .inr (0, [.ref (ad 31), .ref (ad 32), .ref (ad 33), .ref (ad 34), .ref (ad 35), .ref (ad 36), .ref (ad 37), .ref (ad 38), .ref (ad 39), .ref (ad 40), .int (nI an)])), (ad 31, .inl (cy 0, 40, .inl (upd ap an p1))), (ad 32, .inl (cy 0, 40, .inl (upd as_ an s1))), (ad 33, .inl (cy 0, 40, .inl (upd ay an y1))), (ad 34, .inl (cy 0, 40, .inl (upd ast an 0))), (ad 35, .inl (cy 0, 40, .inl ayes)), (ad 36, .inl (cy 0, 40, .inl ano)), (ad 37, .inl (cy 0, 40, .inl (upd asp an (-1)))), (ad 38, .inl (cy 0, 40, .inl (upd aln an (-1)))), (ad 39, .inl (cy 0, 320, .inl alw)), (ad 40, .inl (cy 0, 320, .inl alx))] H := hP
  have hD : va_D A [(ad 30, .inr (0, [.ref (ad 31), .ref (ad 32), .ref (ad 33), .ref (ad 34), .ref (ad 35), .ref (ad 36), .ref (ad 37), .ref (ad 38), .ref (ad 39), .ref (ad 40), .int (nI an)])), (ad 31, .inl (cy 0, 40, .inl (upd ap an p1))), (ad 32, .inl (cy 0, 40, .inl (upd as_ an s1))), (ad 33, .inl (cy 0, 40, .inl (upd ay an y1))), (ad 34, .inl (cy 0, 40, .inl (upd ast an 0))), (ad 35, .inl (cy 0, 40, .inl ayes)), (ad 36, .inl (cy 0, 40, .inl ano)), (ad 37, .inl (cy 0, 40, .inl (upd asp an (-1)))), (ad 38, .inl (cy 0, 40, .inl (upd aln an (-1)))), (ad 39, .inl (cy 0, 320, .inl alw)), (ad 40, .inl (cy 0, 320, .inl alx))] := hD
  refine lv_aload_n hx hb dX0_add_54 rfl (lv_at hl 1 rfl) ?_
  refine lv_dup hx hb dX0_add_55 rfl ?_
  refine va_get (D := (dC, dI)) (ci := 0) (v := .int (nI an)) (C := RX0) (T := TX0) (N := 11) hx hb hts hiX0 hown hK hP 0 rfl rfl 10 (by decide) hL0 (fun _ h9 => h9) rfl dX0_add_56 ?_
  refine lv_iconst (v := 1) hx hb dX0_add_59 (by decide) ?_
  refine lv_iadd hx hb dX0_add_60 ?_
  refine bw_re (show (nI an) + 1 = nI (an + 1) from nI_add (an) (1)) ?_
  refine va_put (D := (dC, dI)) (ci := 0) (v := .int (nI (an + 1))) (ty := (tyX0 10)) (C := RX0) (T := TX0) (N := 11) hx hb hts hiX0 tyX0 tyX0_ok nmX0 hown hK hP hD hS 0 rfl rfl 10 (by decide) hL0 (fun _ h9 => h9) rfl (by decide +kernel) rfl rfl (Nat.le_of_ble_eq_true rfl) dX0_add_61 (fun H locs hP hD hS => ?_)
  have hP : va_P (dC, dI) vwCl [(ad 30, .inr (0, [.ref (ad 31), .ref (ad 32), .ref (ad 33), .ref (ad 34), .ref (ad 35), .ref (ad 36), .ref (ad 37), .ref (ad 38), .ref (ad 39), .ref (ad 40), .int (nI (an + 1))])), (ad 31, .inl (cy 0, 40, .inl (upd ap an p1))), (ad 32, .inl (cy 0, 40, .inl (upd as_ an s1))), (ad 33, .inl (cy 0, 40, .inl (upd ay an y1))), (ad 34, .inl (cy 0, 40, .inl (upd ast an 0))), (ad 35, .inl (cy 0, 40, .inl ayes)), (ad 36, .inl (cy 0, 40, .inl ano)), (ad 37, .inl (cy 0, 40, .inl (upd asp an (-1)))), (ad 38, .inl (cy 0, 40, .inl (upd aln an (-1)))), (ad 39, .inl (cy 0, 320, .inl alw)), (ad 40, .inl (cy 0, 320, .inl alx))] H := hP
  have hD : va_D A [(ad 30, .inr (0, [.ref (ad 31), .ref (ad 32), .ref (ad 33), .ref (ad 34), .ref (ad 35), .ref (ad 36), .ref (ad 37), .ref (ad 38), .ref (ad 39), .ref (ad 40), .int (nI (an + 1))])), (ad 31, .inl (cy 0, 40, .inl (upd ap an p1))), (ad 32, .inl (cy 0, 40, .inl (upd as_ an s1))), (ad 33, .inl (cy 0, 40, .inl (upd ay an y1))), (ad 34, .inl (cy 0, 40, .inl (upd ast an 0))), (ad 35, .inl (cy 0, 40, .inl ayes)), (ad 36, .inl (cy 0, 40, .inl ano)), (ad 37, .inl (cy 0, 40, .inl (upd asp an (-1)))), (ad 38, .inl (cy 0, 40, .inl (upd aln an (-1)))), (ad 39, .inl (cy 0, 320, .inl alw)), (ad 40, .inl (cy 0, 320, .inl alx))] := hD
  refine lv_iload hx hb dX0_add_64 (lv_at hl 0 rfl) ?_
  subst hQ
  have hP9 : va_P (dC, dI) vwCl [(ad 30, .inr (0, [.ref (ad 31), .ref (ad 32), .ref (ad 33), .ref (ad 34), .ref (ad 35), .ref (ad 36), .ref (ad 37), .ref (ad 38), .ref (ad 39), .ref (ad 40), .int (nI (an + 1))])), (ad 31, .inl (cy 0, 40, .inl (upd ap an p1))), (ad 32, .inl (cy 0, 40, .inl (upd as_ an s1))), (ad 33, .inl (cy 0, 40, .inl (upd ay an y1))), (ad 34, .inl (cy 0, 40, .inl (upd ast an 0))), (ad 35, .inl (cy 0, 40, .inl ayes)), (ad 36, .inl (cy 0, 40, .inl ano)), (ad 37, .inl (cy 0, 40, .inl (upd asp an (-1)))), (ad 38, .inl (cy 0, 40, .inl (upd aln an (-1)))), (ad 39, .inl (cy 0, 320, .inl alw)), (ad 40, .inl (cy 0, 320, .inl alx))] H := hP.sub [0, 1, 2, 3, 4, 5, 6, 7, 8, 9, 10] rfl
  have hD9 : va_D A [(ad 30, .inr (0, [.ref (ad 31), .ref (ad 32), .ref (ad 33), .ref (ad 34), .ref (ad 35), .ref (ad 36), .ref (ad 37), .ref (ad 38), .ref (ad 39), .ref (ad 40), .int (nI (an + 1))])), (ad 31, .inl (cy 0, 40, .inl (upd ap an p1))), (ad 32, .inl (cy 0, 40, .inl (upd as_ an s1))), (ad 33, .inl (cy 0, 40, .inl (upd ay an y1))), (ad 34, .inl (cy 0, 40, .inl (upd ast an 0))), (ad 35, .inl (cy 0, 40, .inl ayes)), (ad 36, .inl (cy 0, 40, .inl ano)), (ad 37, .inl (cy 0, 40, .inl (upd asp an (-1)))), (ad 38, .inl (cy 0, 40, .inl (upd aln an (-1)))), (ad 39, .inl (cy 0, 320, .inl alw)), (ad 40, .inl (cy 0, 320, .inl alx))] := hD.sub [0, 1, 2, 3, 4, 5, 6, 7, 8, 9, 10] (by decide) rfl
  have hpost : (nI an : Int32) = nI an := by
    exact rfl
  exact W.iret (v := nI an) hx hb hr (fun t9 ht hW => ⟨⟨nI an, (), rfl, hpost, by rw [ht]; exact hP9, va_K.moved hW.alike hK, hD9⟩, hS.F ht⟩) hS.2.2 dX0_add_66

set_option maxHeartbeats 4000000 in
set_option maxRecDepth 100000 in
theorem c_X0_latestYear (l : Launch) (dC : Nat → ClassId) (dI : Nat → Nat → Nat) (cy : Nat → ClassId) (ad : Nat → Nat) (an : Nat) (ay : Nat → Int32) (han : an ≤ 40) : Met l yX0_latestYear wsX0_latestYear ({ frames := 0, cells := 0, slots := 0, locals := 0 }) (va_Pc [.ref (ad 30)] (fun U => va_P (dC, dI) vwCl [(ad 30, .inr (0, [.ref (ad 31), .ref (ad 32), .ref (ad 33), .ref (ad 34), .ref (ad 35), .ref (ad 36), .ref (ad 37), .ref (ad 38), .ref (ad 39), .ref (ad 40), .int (nI an)])), (ad 33, .inl (cy 0, 40, .inl ay))] U.heap ∧ va_K (dC, dI) vwCl (tyL cy) U)) (vp_Si (fun r => r = if an = 0 then 1500 else ay (an - 1))) 0 0 (fun _ => False) := by
  refine Met.ofW (cc := cX0_latestYear) (maxL := 1) (ret := (some .int)) (by decide) rfl ?_
  intro pp ee ss mm args below meth cc0 s₁ B hml hv
  obtain ⟨rfl, hP, hK⟩ := hv
  have hx := B.exec
  have hb := B.bytes
  have hr := B.returns
  have hts := atoms_spec (ws := wsX0_latestYear) B.pre
  have hown : ss.vm.findClass RX0 = some mm.cls := findClass_of_methodNamed B.named
  have hlocks := B.notSynchronized
  have hL0 := hts (.fieldLink RX0 42 "HereLived$Askings" "size" "I") (by decide +kernel)
  have hL1 := hts (.fieldLink RX0 18 "HereLived$Askings" "year" "[I") (by decide +kernel)
  have hiX0 : ∀ w ∈ wsX00, w ∈ wsX0_latestYear := by decide +kernel
  have hl := lv_entry ([.ref (ad 30)]) (n := 1) (Nat.le_of_ble_eq_true rfl)
  rw [lg_entry_eq]
  generalize (lg_sl ([.ref (ad 30)]) ++ List.replicate (1 - (lg_sl ([.ref (ad 30)])).length) Slot.unset).toArray = ls at hl ⊢
  have hl : lv_has ls 1 [(0, .ref (ad 30))] := hl
  refine bw_Q (fun Q hQ => ?_)
  change W pp l ee { frames := 0, cells := 0, slots := 0, locals := 0 } ss mm _ below meth cc0 ss.heap [] 0 0 Q (F0 mm 0 ls [])
  refine lv_aload_n hx hb dX0_latestYear_0 rfl (lv_at hl 0 rfl) ?_
  refine va_get (D := (dC, dI)) (ci := 0) (v := .int (nI an)) (C := RX0) (T := TX0) (N := 11) hx hb hts hiX0 hown hK hP 0 rfl rfl 10 (by decide) hL0 (fun _ h9 => h9) rfl dX0_latestYear_1 ?_
  refine bw_if_le (tgt := 21) (a := ((an : Nat) : Int)) hx hb dX0_latestYear_4 (by decide) (nI_toInt (by omega)) (fun c_1 => ?_) (fun c_1 => ?_)
  · skip
    refine lv_sipush (v := 1500) hx hb dX0_latestYear_21 (by decide) ?_
    subst hQ
    have hpost : (1500 : Int32) = if an = 0 then 1500 else ay (an - 1) := by
      first | rw [if_pos (by omega)] | rw [if_neg (by omega)]
    exact W.iret (v := 1500) hx hb hr (fun t9 ht hW => ⟨_, rfl, hpost, by rw [ht]⟩) (fun q h => by cases h) dX0_latestYear_24
  · skip
    refine lv_aload_n hx hb dX0_latestYear_7 rfl (lv_at hl 0 rfl) ?_
    refine va_get (D := (dC, dI)) (ci := 0) (v := .ref (ad 33)) (C := RX0) (T := TX0) (N := 11) hx hb hts hiX0 hown hK hP 0 rfl rfl 2 (by decide) hL1 (fun _ h9 => h9) rfl dX0_latestYear_8 ?_
    refine lv_aload_n hx hb dX0_latestYear_11 rfl (lv_at hl 0 rfl) ?_
    refine va_get (D := (dC, dI)) (ci := 0) (v := .int (nI an)) (C := RX0) (T := TX0) (N := 11) hx hb hts hiX0 hown hK hP 0 rfl rfl 10 (by decide) hL0 (fun _ h9 => h9) rfl dX0_latestYear_12 ?_
    refine lv_iconst (v := 1) hx hb dX0_latestYear_15 (by decide) ?_
    refine lv_isub hx hb dX0_latestYear_16 ?_
    refine bw_re (show (nI an) - 1 = nI (an - 1) from pk_sub (a := an) (b := 1) (by omega)) ?_
    refine bw_iald hx hb hK hP 1 0 rfl rfl (j := (an - 1)) (nI_toInt (by omega)) (by omega) dX0_latestYear_17 ?_
    refine lv_goto (tgt := 24) hx hb dX0_latestYear_18 (by decide) ?_
    subst hQ
    have hpost : (ay (an - 1)) = if an = 0 then 1500 else ay (an - 1) := by
      first | rw [if_pos (by omega)] | rw [if_neg (by omega)]
    exact W.iret (v := ay (an - 1)) hx hb hr (fun t9 ht hW => ⟨_, rfl, hpost, by rw [ht]⟩) (fun q h => by cases h) dX0_latestYear_24

set_option maxHeartbeats 4000000 in
set_option maxRecDepth 100000 in
theorem c_X0_hanging (l : Launch) (dC : Nat → ClassId) (dI : Nat → Nat → Nat) (cy : Nat → ClassId) (ad : Nat → Nat) (an : Nat) (ast : Nat → Int32) (han : an ≤ 40) : Met l yX0_hanging wsX0_hanging ({ frames := 0, cells := 0, slots := 0, locals := 0 }) (va_Pc [.ref (ad 30)] (fun U => va_P (dC, dI) vwCl [(ad 30, .inr (0, [.ref (ad 31), .ref (ad 32), .ref (ad 33), .ref (ad 34), .ref (ad 35), .ref (ad 36), .ref (ad 37), .ref (ad 38), .ref (ad 39), .ref (ad 40), .int (nI an)])), (ad 34, .inl (cy 0, 40, .inl ast))] U.heap ∧ va_K (dC, dI) vwCl (tyL cy) U)) (vp_Si (fun r => r = ctI (fun a => decide ((ast a).toInt = 3)) an)) 0 0 (fun _ => False) := by
  refine Met.ofW (cc := cX0_hanging) (maxL := 3) (ret := (some .int)) (by decide) rfl ?_
  intro pp ee ss mm args below meth cc0 s₁ B hml hv
  obtain ⟨rfl, hP, hK⟩ := hv
  have hx := B.exec
  have hb := B.bytes
  have hr := B.returns
  have hts := atoms_spec (ws := wsX0_hanging) B.pre
  have hown : ss.vm.findClass RX0 = some mm.cls := findClass_of_methodNamed B.named
  have hlocks := B.notSynchronized
  have hL0 := hts (.fieldLink RX0 42 "HereLived$Askings" "size" "I") (by decide +kernel)
  have hL1 := hts (.fieldLink RX0 21 "HereLived$Askings" "state" "[I") (by decide +kernel)
  have hiX0 : ∀ w ∈ wsX00, w ∈ wsX0_hanging := by decide +kernel
  have hl := lv_entry ([.ref (ad 30)]) (n := 3) (Nat.le_of_ble_eq_true rfl)
  rw [lg_entry_eq]
  generalize (lg_sl ([.ref (ad 30)]) ++ List.replicate (3 - (lg_sl ([.ref (ad 30)])).length) Slot.unset).toArray = ls at hl ⊢
  have hl : lv_has ls 3 [(0, .ref (ad 30))] := hl
  refine bw_Q (fun Q hQ => ?_)
  change W pp l ee { frames := 0, cells := 0, slots := 0, locals := 0 } ss mm _ below meth cc0 ss.heap [] 0 0 Q (F0 mm 0 ls [])
  refine lv_iconst (v := 0) hx hb dX0_hanging_0 (by decide) ?_
  refine lv_istore_n (lv' := [(1, .int 0), (0, .ref (ad 30))]) hx hb dX0_hanging_1 rfl hl (by decide) rfl (fun ls hl => ?_)
  refine lv_iconst (v := 0) hx hb dX0_hanging_2 (by decide) ?_
  refine lv_istore_n (lv' := [(2, .int 0), (1, .int 0), (0, .ref (ad 30))]) hx hb dX0_hanging_3 rfl hl (by decide) rfl (fun ls hl => ?_)
  have L_4 : ∀ (n9 : Nat), ∀ (i : Nat) (n : Nat), (an - i) < n9 → (i ≤ an) → (n = fb_ct (fun a => decide ((ast a).toInt = 3)) i) → ∀ (ls : Array Slot), lv_has ls 3 [(0, .ref (ad 30)), (1, .int (nI n)), (2, .int (nI i))] → W pp l ee { frames := 0, cells := 0, slots := 0, locals := 0 } ss mm (List.toArray [Value.ref (ad 30)]) below meth cc0 ss.heap [] 0 0 Q (F0 mm 4 ls []) := by
    intro n9
    induction n9 with
    | zero => intro i n hm9; exact absurd hm9 (Nat.not_lt_zero _)
    | succ n9 ih4 =>
      intro i n hm4 hi hn
      intro ls hl
      have hn2 := fb_ct_le (fun a => decide ((ast a).toInt = 3)) i
      refine lv_iload_n hx hb dX0_hanging_4 rfl (lv_at hl 2 rfl) ?_
      refine lv_aload_n hx hb dX0_hanging_5 rfl (lv_at hl 0 rfl) ?_
      refine va_get (D := (dC, dI)) (ci := 0) (v := .int (nI an)) (C := RX0) (T := TX0) (N := 11) hx hb hts hiX0 hown hK hP 0 rfl rfl 10 (by decide) hL0 (fun _ h9 => h9) rfl dX0_hanging_6 ?_
      refine bw_icmp_ge (tgt := 31) (a := ((i : Nat) : Int)) (b := ((an : Nat) : Int)) hx hb dX0_hanging_9 (by decide) (nI_toInt (by omega)) (nI_toInt (by omega)) (fun c_1 => ?_) (fun c_1 => ?_)
      · skip
        refine lv_iload_n hx hb dX0_hanging_31 rfl (lv_at hl 1 rfl) ?_
        subst hQ
        have hpost : (nI n) = ctI (fun a => decide ((ast a).toInt = 3)) an := by
          have e9 : i = an := by omega
          rw [hn, e9]; rfl
        exact W.iret (v := nI n) hx hb hr (fun t9 ht hW => ⟨_, rfl, hpost, by rw [ht]⟩) (fun q h => by cases h) dX0_hanging_32
      · skip
        refine lv_aload_n hx hb dX0_hanging_12 rfl (lv_at hl 0 rfl) ?_
        refine va_get (D := (dC, dI)) (ci := 0) (v := .ref (ad 34)) (C := RX0) (T := TX0) (N := 11) hx hb hts hiX0 hown hK hP 0 rfl rfl 3 (by decide) hL1 (fun _ h9 => h9) rfl dX0_hanging_13 ?_
        refine lv_iload_n hx hb dX0_hanging_16 rfl (lv_at hl 2 rfl) ?_
        refine bw_iald hx hb hK hP 1 0 rfl rfl (j := i) (nI_toInt (by omega)) (by omega) dX0_hanging_17 ?_
        refine lv_iconst (v := 3) hx hb dX0_hanging_18 (by decide) ?_
        refine bw_icmp_ne (tgt := 25) (a := (ast i).toInt) (b := 3) hx hb dX0_hanging_19 (by decide) rfl rfl (fun c_2 => ?_) (fun c_2 => ?_)
        · skip
          refine lv_iinc (v := nI (i + 1)) (lv' := [(2, .int (nI (i + 1))), (0, .ref (ad 30)), (1, .int (nI n))]) hx hb dX0_hanging_25 hl (k := 2) rfl (show nI i + Int32.ofInt 1 = nI (i + 1) from nI_add i 1) (by decide) rfl (fun ls hl => ?_)
          refine lv_goto (tgt := 4) hx hb dX0_hanging_28 (by decide) ?_
          have hI_hn : n = fb_ct (fun a => decide ((ast a).toInt = 3)) (i + 1) := by
            rw [fb_ct_succ]
            first
              | (rw [if_pos (by rw [decide_eq_true_iff]; omega)]; omega)
              | (rw [if_neg (by rw [decide_eq_true_iff]; omega)]; omega)
          exact ih4 (i + 1) n (by omega) (by first | assumption | omega) hI_hn ls (lv_sub hl [1, 2, 0] rfl)
        · skip
          refine lv_iinc (v := nI (n + 1)) (lv' := [(1, .int (nI (n + 1))), (0, .ref (ad 30)), (2, .int (nI i))]) hx hb dX0_hanging_22 hl (k := 1) rfl (show nI n + Int32.ofInt 1 = nI (n + 1) from nI_add n 1) (by decide) rfl (fun ls hl => ?_)
          refine lv_iinc (v := nI (i + 1)) (lv' := [(2, .int (nI (i + 1))), (1, .int (nI (n + 1))), (0, .ref (ad 30))]) hx hb dX0_hanging_25 hl (k := 2) rfl (show nI i + Int32.ofInt 1 = nI (i + 1) from nI_add i 1) (by decide) rfl (fun ls hl => ?_)
          refine lv_goto (tgt := 4) hx hb dX0_hanging_28 (by decide) ?_
          have hI_hn : (n + 1) = fb_ct (fun a => decide ((ast a).toInt = 3)) (i + 1) := by
            rw [fb_ct_succ]
            first
              | (rw [if_pos (by rw [decide_eq_true_iff]; omega)]; omega)
              | (rw [if_neg (by rw [decide_eq_true_iff]; omega)]; omega)
          exact ih4 (i + 1) (n + 1) (by omega) (by first | assumption | omega) hI_hn ls (lv_sub hl [2, 1, 0] rfl)
  have hI_hn : 0 = fb_ct (fun a => decide ((ast a).toInt = 3)) 0 := by
    rfl
  exact L_4 ((an - 0) + 1) 0 0 (by omega) (by first | assumption | omega) hI_hn ls (lv_sub hl [2, 1, 0] rfl)

set_option maxHeartbeats 4000000 in
set_option maxRecDepth 100000 in
theorem c_X0_hasLine (l : Launch) (dC : Nat → ClassId) (dI : Nat → Nat → Nat) (cy : Nat → ClassId) (ad : Nat → Nat) (an : Nat) (aln : Nat → Int32) (x : Nat) (i : Int32) (hx40 : x < 40) : Met l yX0_hasLine wsX0_hasLine ({ frames := 0, cells := 0, slots := 0, locals := 0 }) (va_Pc [.ref (ad 30), .int (nI x), .int i] (fun U => va_P (dC, dI) vwCl [(ad 30, .inr (0, [.ref (ad 31), .ref (ad 32), .ref (ad 33), .ref (ad 34), .ref (ad 35), .ref (ad 36), .ref (ad 37), .ref (ad 38), .ref (ad 39), .ref (ad 40), .int (nI an)])), (ad 38, .inl (cy 0, 40, .inl aln))] U.heap ∧ va_K (dC, dI) vwCl (tyL cy) U)) (vp_Si (fun r => r = if 0 ≤ i.toInt ∧ i.toInt < (aln x).toInt then 1 else 0)) 0 0 (fun _ => False) := by
  refine Met.ofW (cc := cX0_hasLine) (maxL := 3) (ret := (some .boolean)) (by decide) rfl ?_
  intro pp ee ss mm args below meth cc0 s₁ B hml hv
  obtain ⟨rfl, hP, hK⟩ := hv
  have hx := B.exec
  have hb := B.bytes
  have hr := B.returns
  have hts := atoms_spec (ws := wsX0_hasLine) B.pre
  have hown : ss.vm.findClass RX0 = some mm.cls := findClass_of_methodNamed B.named
  have hlocks := B.notSynchronized
  have hL0 := hts (.fieldLink RX0 33 "HereLived$Askings" "lines" "[I") (by decide +kernel)
  have hiX0 : ∀ w ∈ wsX00, w ∈ wsX0_hasLine := by decide +kernel
  have hl := lv_entry ([.ref (ad 30), .int (nI x), .int i]) (n := 3) (Nat.le_of_ble_eq_true rfl)
  rw [lg_entry_eq]
  generalize (lg_sl ([.ref (ad 30), .int (nI x), .int i]) ++ List.replicate (3 - (lg_sl ([.ref (ad 30), .int (nI x), .int i])).length) Slot.unset).toArray = ls at hl ⊢
  have hl : lv_has ls 3 [(0, .ref (ad 30)), (1, .int (nI x)), (2, .int i)] := hl
  refine bw_Q (fun Q hQ => ?_)
  change W pp l ee { frames := 0, cells := 0, slots := 0, locals := 0 } ss mm _ below meth cc0 ss.heap [] 0 0 Q (F0 mm 0 ls [])
  refine lv_iload_n hx hb dX0_hasLine_0 rfl (lv_at hl 2 rfl) ?_
  refine bw_if_lt (tgt := 18) (a := i.toInt) hx hb dX0_hasLine_1 (by decide) rfl (fun c_1 => ?_) (fun c_1 => ?_)
  · skip
    refine lv_iconst (v := 0) hx hb dX0_hasLine_18 (by decide) ?_
    subst hQ
    have hpost : (0 : Int32) = if 0 ≤ i.toInt ∧ i.toInt < (aln x).toInt then 1 else 0 := by
      first | rw [if_pos (by omega)] | rw [if_neg (by omega)]
    exact W.zret (v := 0) hx hb hr (by rfl) (fun t9 ht hW => ⟨_, rfl, hpost, by rw [ht]⟩) (fun q h => by cases h) dX0_hasLine_19
  · skip
    refine lv_iload_n hx hb dX0_hasLine_4 rfl (lv_at hl 2 rfl) ?_
    refine lv_aload_n hx hb dX0_hasLine_5 rfl (lv_at hl 0 rfl) ?_
    refine va_get (D := (dC, dI)) (ci := 0) (v := .ref (ad 38)) (C := RX0) (T := TX0) (N := 11) hx hb hts hiX0 hown hK hP 0 rfl rfl 7 (by decide) hL0 (fun _ h9 => h9) rfl dX0_hasLine_6 ?_
    refine lv_iload_n hx hb dX0_hasLine_9 rfl (lv_at hl 1 rfl) ?_
    refine bw_iald hx hb hK hP 1 0 rfl rfl (j := x) (nI_toInt (by omega)) (by omega) dX0_hasLine_10 ?_
    refine bw_icmp_ge (tgt := 18) (a := i.toInt) (b := (aln x).toInt) hx hb dX0_hasLine_11 (by decide) rfl rfl (fun c_2 => ?_) (fun c_2 => ?_)
    · skip
      refine lv_iconst (v := 0) hx hb dX0_hasLine_18 (by decide) ?_
      subst hQ
      have hpost : (0 : Int32) = if 0 ≤ i.toInt ∧ i.toInt < (aln x).toInt then 1 else 0 := by
        first | rw [if_pos (by omega)] | rw [if_neg (by omega)]
      exact W.zret (v := 0) hx hb hr (by rfl) (fun t9 ht hW => ⟨_, rfl, hpost, by rw [ht]⟩) (fun q h => by cases h) dX0_hasLine_19
    · skip
      refine lv_iconst (v := 1) hx hb dX0_hasLine_14 (by decide) ?_
      refine lv_goto (tgt := 19) hx hb dX0_hasLine_15 (by decide) ?_
      subst hQ
      have hpost : (1 : Int32) = if 0 ≤ i.toInt ∧ i.toInt < (aln x).toInt then 1 else 0 := by
        first | rw [if_pos (by omega)] | rw [if_neg (by omega)]
      exact W.zret (v := 1) hx hb hr (by rfl) (fun t9 ht hW => ⟨_, rfl, hpost, by rw [ht]⟩) (fun q h => by cases h) dX0_hasLine_19

set_option maxHeartbeats 4000000 in
set_option maxRecDepth 100000 in
theorem c_X8_append (l : Launch) (dC : Nat → ClassId) (dI : Nat → Nat → Nat) (cy : Nat → ClassId) (ad : Nat → Nat) (tn : Nat) (tb : Nat → Int32) (v : Int32) (sz : Nat) (htn : tn + 4 ≤ 600) : Met l yX8_append wsX8_append ({ frames := 0, cells := 0, slots := 0, locals := 0 }) (va_Pc [.ref (ad 1), .int v] (fun U => U.heap.size = sz ∧ va_P (dC, dI) vwCl [(ad 1, .inr (8, [.ref (ad 2), .int (nI tn)])), (ad 2, .inl (cy 0, 600, .inl tb))] U.heap ∧ va_K (dC, dI) vwCl (tyL cy) U ∧ va_D (fun _ => True) [(ad 1, .inr (8, [.ref (ad 2), .int (nI tn)])), (ad 2, .inl (cy 0, 600, .inl tb))])) (va_Qv (S := (Nat → Int32)) (fun tb2 => tb2 = tApp tb tn v) (fun tb2 => fun t => va_P (dC, dI) vwCl [(ad 1, .inr (8, [.ref (ad 2), .int (nI (tn + 4))])), (ad 2, .inl (cy 0, 600, .inl tb2))] t.heap ∧ va_K (dC, dI) vwCl (tyL cy) t ∧ va_D (va_A [(ad 1, .inr (8, [.ref (ad 2), .int (nI tn)])), (ad 2, .inl (cy 0, 600, .inl tb))] sz) [(ad 1, .inr (8, [.ref (ad 2), .int (nI (tn + 4))])), (ad 2, .inl (cy 0, 600, .inl tb2))]) (va_A [(ad 1, .inr (8, [.ref (ad 2), .int (nI tn)])), (ad 2, .inl (cy 0, 600, .inl tb))] sz)) 0 0 (va_A [(ad 1, .inr (8, [.ref (ad 2), .int (nI tn)])), (ad 2, .inl (cy 0, 600, .inl tb))] sz) := by
  refine Met.ofW (cc := cX8_append) (maxL := 3) (ret := none) (by decide) rfl ?_
  intro pp ee ss mm args below meth cc0 s₁ B hml hv
  obtain ⟨rfl, hsz, hP, hK, hD0⟩ := hv
  have hx := B.exec
  have hb := B.bytes
  have hr := B.returns
  have hts := atoms_spec (ws := wsX8_append) B.pre
  have hown : ss.vm.findClass RX8 = some mm.cls := findClass_of_methodNamed B.named
  have hlocks := B.notSynchronized
  have hL0 := hts (.fieldLink RX8 15 "HereLived$Tape" "length" "I") (by decide +kernel)
  have hL1 := hts (.fieldLink RX8 9 "HereLived$Tape" "bytes" "[I") (by decide +kernel)
  have hiX8 : ∀ w ∈ wsX80, w ∈ wsX8_append := by decide +kernel
  subst hsz
  have hD := hD0.self (sz := ss.heap.size)
  generalize hAe : va_A [(ad 1, .inr (8, [.ref (ad 2), .int (nI tn)])), (ad 2, .inl (cy 0, 600, .inl tb))] ss.heap.size = A at hD ⊢
  have hA : ∀ q : Nat, ss.heap.size ≤ q → A q := fun q h => by rw [← hAe]; exact Or.inr h
  have hS : va_S A ss.heap ss.heap [] := va_S.rf
  have hP : va_P (dC, dI) vwCl [(ad 1, .inr (8, [.ref (ad 2), .int (nI tn)])), (ad 2, .inl (cy 0, 600, .inl tb))] ss.heap := hP
  have hl := lv_entry ([.ref (ad 1), .int v]) (n := 3) (Nat.le_of_ble_eq_true rfl)
  rw [lg_entry_eq]
  generalize (lg_sl ([.ref (ad 1), .int v]) ++ List.replicate (3 - (lg_sl ([.ref (ad 1), .int v])).length) Slot.unset).toArray = ls at hl ⊢
  have hl : lv_has ls 3 [(0, .ref (ad 1)), (1, .int v)] := hl
  refine bw_Q (fun Q hQ => ?_)
  refine bw_H0 (fun H locs eH eL => ?_)
  have hS : va_S A ss.heap H locs := by rw [eH, eL]; exact hS
  have hP : va_P (dC, dI) vwCl [(ad 1, .inr (8, [.ref (ad 2), .int (nI tn)])), (ad 2, .inl (cy 0, 600, .inl tb))] H := by rw [eH]; exact hP
  change W pp l ee { frames := 0, cells := 0, slots := 0, locals := 0 } ss mm _ below meth cc0 H locs 0 0 Q (F0 mm 0 ls [])
  refine lv_bipush (v := 24) hx hb dX8_append_0 (by decide) ?_
  refine lv_istore_n (lv' := [(2, .int 24), (0, .ref (ad 1)), (1, .int v)]) hx hb dX8_append_2 rfl hl (by decide) rfl (fun ls hl => ?_)
  refine lv_iload_n hx hb dX8_append_3 rfl (lv_at hl 0 rfl) ?_
  refine bw_if_lt (tgt := 49) (a := 24) hx hb dX8_append_4 (by decide) rfl (fun c_1 => ?_) (fun c_1 => ?_)
  · exact absurd c_1 (by decide)
  · skip
    refine lv_aload_n hx hb dX8_append_7 rfl (lv_at hl 1 rfl) ?_
    refine va_get (D := (dC, dI)) (ci := 8) (v := .int (nI tn)) (C := RX8) (T := TX8) (N := 2) hx hb hts hiX8 hown hK hP 0 rfl rfl 1 (by decide) hL0 (fun _ h9 => h9) rfl dX8_append_8 ?_
    refine lv_sipush (v := 600) hx hb dX8_append_11 (by decide) ?_
    refine bw_icmp_ge (tgt := 49) (a := ((tn : Nat) : Int)) (b := 600) hx hb dX8_append_14 (by decide) (nI_toInt (by omega)) rfl (fun c_2 => ?_) (fun c_2 => ?_)
    · skip
      exfalso; omega
    · skip
      refine lv_aload_n hx hb dX8_append_17 rfl (lv_at hl 1 rfl) ?_
      refine va_get (D := (dC, dI)) (ci := 8) (v := .ref (ad 2)) (C := RX8) (T := TX8) (N := 2) hx hb hts hiX8 hown hK hP 0 rfl rfl 0 (by decide) hL1 (fun _ h9 => h9) rfl dX8_append_18 ?_
      refine lv_aload_n hx hb dX8_append_21 rfl (lv_at hl 1 rfl) ?_
      refine va_get (D := (dC, dI)) (ci := 8) (v := .int (nI tn)) (C := RX8) (T := TX8) (N := 2) hx hb hts hiX8 hown hK hP 0 rfl rfl 1 (by decide) hL0 (fun _ h9 => h9) rfl dX8_append_22 ?_
      refine lv_iload_n hx hb dX8_append_25 rfl (lv_at hl 2 rfl) ?_
      refine lv_iload_n hx hb dX8_append_26 rfl (lv_at hl 0 rfl) ?_
      refine lv_iushr hx hb dX8_append_27 rfl ?_
      refine lv_topi (fun z_3 ez_3 => ?_)
      refine lv_sipush (v := 255) hx hb dX8_append_28 (by decide) ?_
      refine lv_iand hx hb dX8_append_31 ?_
      refine lv_topi (fun z_4 ez_4 => ?_)
      refine bw_iast hx hb hK hP hD hS 1 0 rfl rfl (j := tn) (nI_toInt (by omega)) (by omega) dX8_append_32 (fun H locs hP hD hS => ?_)
      have hP : va_P (dC, dI) vwCl [(ad 1, .inr (8, [.ref (ad 2), .int (nI tn)])), (ad 2, .inl (cy 0, 600, .inl (upd tb tn z_4)))] H := hP
      have hD : va_D A [(ad 1, .inr (8, [.ref (ad 2), .int (nI tn)])), (ad 2, .inl (cy 0, 600, .inl (upd tb tn z_4)))] := hD
      refine lv_aload_n hx hb dX8_append_33 rfl (lv_at hl 1 rfl) ?_
      refine lv_dup hx hb dX8_append_34 rfl ?_
      refine va_get (D := (dC, dI)) (ci := 8) (v := .int (nI tn)) (C := RX8) (T := TX8) (N := 2) hx hb hts hiX8 hown hK hP 0 rfl rfl 1 (by decide) hL0 (fun _ h9 => h9) rfl dX8_append_35 ?_
      refine lv_iconst (v := 1) hx hb dX8_append_38 (by decide) ?_
      refine lv_iadd hx hb dX8_append_39 ?_
      refine bw_re (show (nI tn) + 1 = nI (tn + 1) from nI_add (tn) (1)) ?_
      refine va_put (D := (dC, dI)) (ci := 8) (v := .int (nI (tn + 1))) (ty := (tyX8 1)) (C := RX8) (T := TX8) (N := 2) hx hb hts hiX8 tyX8 tyX8_ok nmX8 hown hK hP hD hS 0 rfl rfl 1 (by decide) hL0 (fun _ h9 => h9) rfl (by decide +kernel) rfl rfl (Nat.le_of_ble_eq_true rfl) dX8_append_40 (fun H locs hP hD hS => ?_)
      have hP : va_P (dC, dI) vwCl [(ad 1, .inr (8, [.ref (ad 2), .int (nI (tn + 1))])), (ad 2, .inl (cy 0, 600, .inl (upd tb tn z_4)))] H := hP
      have hD : va_D A [(ad 1, .inr (8, [.ref (ad 2), .int (nI (tn + 1))])), (ad 2, .inl (cy 0, 600, .inl (upd tb tn z_4)))] := hD
      refine lv_iinc (v := 16) (lv' := [(2, .int 16), (0, .ref (ad 1)), (1, .int v)]) hx hb dX8_append_43 hl (k := 0) rfl (by decide) (by decide) rfl (fun ls hl => ?_)
      refine lv_goto (tgt := 3) hx hb dX8_append_46 (by decide) ?_
      refine lv_iload_n hx hb dX8_append_3 rfl (lv_at hl 0 rfl) ?_
      refine bw_if_lt (tgt := 49) (a := 16) hx hb dX8_append_4 (by decide) rfl (fun c_5 => ?_) (fun c_5 => ?_)
      · exact absurd c_5 (by decide)
      · skip
        refine lv_aload_n hx hb dX8_append_7 rfl (lv_at hl 1 rfl) ?_
        refine va_get (D := (dC, dI)) (ci := 8) (v := .int (nI (tn + 1))) (C := RX8) (T := TX8) (N := 2) hx hb hts hiX8 hown hK hP 0 rfl rfl 1 (by decide) hL0 (fun _ h9 => h9) rfl dX8_append_8 ?_
        refine lv_sipush (v := 600) hx hb dX8_append_11 (by decide) ?_
        refine bw_icmp_ge (tgt := 49) (a := ((tn + 1 : Nat) : Int)) (b := 600) hx hb dX8_append_14 (by decide) (nI_toInt (by omega)) rfl (fun c_6 => ?_) (fun c_6 => ?_)
        · skip
          exfalso; omega
        · skip
          refine lv_aload_n hx hb dX8_append_17 rfl (lv_at hl 1 rfl) ?_
          refine va_get (D := (dC, dI)) (ci := 8) (v := .ref (ad 2)) (C := RX8) (T := TX8) (N := 2) hx hb hts hiX8 hown hK hP 0 rfl rfl 0 (by decide) hL1 (fun _ h9 => h9) rfl dX8_append_18 ?_
          refine lv_aload_n hx hb dX8_append_21 rfl (lv_at hl 1 rfl) ?_
          refine va_get (D := (dC, dI)) (ci := 8) (v := .int (nI (tn + 1))) (C := RX8) (T := TX8) (N := 2) hx hb hts hiX8 hown hK hP 0 rfl rfl 1 (by decide) hL0 (fun _ h9 => h9) rfl dX8_append_22 ?_
          refine lv_iload_n hx hb dX8_append_25 rfl (lv_at hl 2 rfl) ?_
          refine lv_iload_n hx hb dX8_append_26 rfl (lv_at hl 0 rfl) ?_
          refine lv_iushr hx hb dX8_append_27 rfl ?_
          refine lv_topi (fun z_7 ez_7 => ?_)
          refine lv_sipush (v := 255) hx hb dX8_append_28 (by decide) ?_
          refine lv_iand hx hb dX8_append_31 ?_
          refine lv_topi (fun z_8 ez_8 => ?_)
          refine bw_iast hx hb hK hP hD hS 1 0 rfl rfl (j := (tn + 1)) (nI_toInt (by omega)) (by omega) dX8_append_32 (fun H locs hP hD hS => ?_)
          have hP : va_P (dC, dI) vwCl [(ad 1, .inr (8, [.ref (ad 2), .int (nI (tn + 1))])), (ad 2, .inl (cy 0, 600, .inl (upd (upd tb tn z_4) (tn + 1) z_8)))] H := hP
          have hD : va_D A [(ad 1, .inr (8, [.ref (ad 2), .int (nI (tn + 1))])), (ad 2, .inl (cy 0, 600, .inl (upd (upd tb tn z_4) (tn + 1) z_8)))] := hD
          refine lv_aload_n hx hb dX8_append_33 rfl (lv_at hl 1 rfl) ?_
          refine lv_dup hx hb dX8_append_34 rfl ?_
          refine va_get (D := (dC, dI)) (ci := 8) (v := .int (nI (tn + 1))) (C := RX8) (T := TX8) (N := 2) hx hb hts hiX8 hown hK hP 0 rfl rfl 1 (by decide) hL0 (fun _ h9 => h9) rfl dX8_append_35 ?_
          refine lv_iconst (v := 1) hx hb dX8_append_38 (by decide) ?_
          refine lv_iadd hx hb dX8_append_39 ?_
          refine bw_re (show (nI (tn + 1)) + 1 = nI (tn + 1 + 1) from nI_add (tn + 1) (1)) ?_
          refine va_put (D := (dC, dI)) (ci := 8) (v := .int (nI (tn + 1 + 1))) (ty := (tyX8 1)) (C := RX8) (T := TX8) (N := 2) hx hb hts hiX8 tyX8 tyX8_ok nmX8 hown hK hP hD hS 0 rfl rfl 1 (by decide) hL0 (fun _ h9 => h9) rfl (by decide +kernel) rfl rfl (Nat.le_of_ble_eq_true rfl) dX8_append_40 (fun H locs hP hD hS => ?_)
          have hP : va_P (dC, dI) vwCl [(ad 1, .inr (8, [.ref (ad 2), .int (nI (tn + 1 + 1))])), (ad 2, .inl (cy 0, 600, .inl (upd (upd tb tn z_4) (tn + 1) z_8)))] H := hP
          have hD : va_D A [(ad 1, .inr (8, [.ref (ad 2), .int (nI (tn + 1 + 1))])), (ad 2, .inl (cy 0, 600, .inl (upd (upd tb tn z_4) (tn + 1) z_8)))] := hD
          refine lv_iinc (v := 8) (lv' := [(2, .int 8), (0, .ref (ad 1)), (1, .int v)]) hx hb dX8_append_43 hl (k := 0) rfl (by decide) (by decide) rfl (fun ls hl => ?_)
          refine lv_goto (tgt := 3) hx hb dX8_append_46 (by decide) ?_
          refine lv_iload_n hx hb dX8_append_3 rfl (lv_at hl 0 rfl) ?_
          refine bw_if_lt (tgt := 49) (a := 8) hx hb dX8_append_4 (by decide) rfl (fun c_9 => ?_) (fun c_9 => ?_)
          · exact absurd c_9 (by decide)
          · skip
            refine lv_aload_n hx hb dX8_append_7 rfl (lv_at hl 1 rfl) ?_
            refine va_get (D := (dC, dI)) (ci := 8) (v := .int (nI (tn + 1 + 1))) (C := RX8) (T := TX8) (N := 2) hx hb hts hiX8 hown hK hP 0 rfl rfl 1 (by decide) hL0 (fun _ h9 => h9) rfl dX8_append_8 ?_
            refine lv_sipush (v := 600) hx hb dX8_append_11 (by decide) ?_
            refine bw_icmp_ge (tgt := 49) (a := ((tn + 1 + 1 : Nat) : Int)) (b := 600) hx hb dX8_append_14 (by decide) (nI_toInt (by omega)) rfl (fun c_10 => ?_) (fun c_10 => ?_)
            · skip
              exfalso; omega
            · skip
              refine lv_aload_n hx hb dX8_append_17 rfl (lv_at hl 1 rfl) ?_
              refine va_get (D := (dC, dI)) (ci := 8) (v := .ref (ad 2)) (C := RX8) (T := TX8) (N := 2) hx hb hts hiX8 hown hK hP 0 rfl rfl 0 (by decide) hL1 (fun _ h9 => h9) rfl dX8_append_18 ?_
              refine lv_aload_n hx hb dX8_append_21 rfl (lv_at hl 1 rfl) ?_
              refine va_get (D := (dC, dI)) (ci := 8) (v := .int (nI (tn + 1 + 1))) (C := RX8) (T := TX8) (N := 2) hx hb hts hiX8 hown hK hP 0 rfl rfl 1 (by decide) hL0 (fun _ h9 => h9) rfl dX8_append_22 ?_
              refine lv_iload_n hx hb dX8_append_25 rfl (lv_at hl 2 rfl) ?_
              refine lv_iload_n hx hb dX8_append_26 rfl (lv_at hl 0 rfl) ?_
              refine lv_iushr hx hb dX8_append_27 rfl ?_
              refine lv_topi (fun z_11 ez_11 => ?_)
              refine lv_sipush (v := 255) hx hb dX8_append_28 (by decide) ?_
              refine lv_iand hx hb dX8_append_31 ?_
              refine lv_topi (fun z_12 ez_12 => ?_)
              refine bw_iast hx hb hK hP hD hS 1 0 rfl rfl (j := (tn + 1 + 1)) (nI_toInt (by omega)) (by omega) dX8_append_32 (fun H locs hP hD hS => ?_)
              have hP : va_P (dC, dI) vwCl [(ad 1, .inr (8, [.ref (ad 2), .int (nI (tn + 1 + 1))])), (ad 2, .inl (cy 0, 600, .inl (upd (upd (upd tb tn z_4) (tn + 1) z_8) (tn + 1 + 1) z_12)))] H := hP
              have hD : va_D A [(ad 1, .inr (8, [.ref (ad 2), .int (nI (tn + 1 + 1))])), (ad 2, .inl (cy 0, 600, .inl (upd (upd (upd tb tn z_4) (tn + 1) z_8) (tn + 1 + 1) z_12)))] := hD
              refine lv_aload_n hx hb dX8_append_33 rfl (lv_at hl 1 rfl) ?_
              refine lv_dup hx hb dX8_append_34 rfl ?_
              refine va_get (D := (dC, dI)) (ci := 8) (v := .int (nI (tn + 1 + 1))) (C := RX8) (T := TX8) (N := 2) hx hb hts hiX8 hown hK hP 0 rfl rfl 1 (by decide) hL0 (fun _ h9 => h9) rfl dX8_append_35 ?_
              refine lv_iconst (v := 1) hx hb dX8_append_38 (by decide) ?_
              refine lv_iadd hx hb dX8_append_39 ?_
              refine bw_re (show (nI (tn + 1 + 1)) + 1 = nI (tn + 1 + 1 + 1) from nI_add (tn + 1 + 1) (1)) ?_
              refine va_put (D := (dC, dI)) (ci := 8) (v := .int (nI (tn + 1 + 1 + 1))) (ty := (tyX8 1)) (C := RX8) (T := TX8) (N := 2) hx hb hts hiX8 tyX8 tyX8_ok nmX8 hown hK hP hD hS 0 rfl rfl 1 (by decide) hL0 (fun _ h9 => h9) rfl (by decide +kernel) rfl rfl (Nat.le_of_ble_eq_true rfl) dX8_append_40 (fun H locs hP hD hS => ?_)
              have hP : va_P (dC, dI) vwCl [(ad 1, .inr (8, [.ref (ad 2), .int (nI (tn + 1 + 1 + 1))])), (ad 2, .inl (cy 0, 600, .inl (upd (upd (upd tb tn z_4) (tn + 1) z_8) (tn + 1 + 1) z_12)))] H := hP
              have hD : va_D A [(ad 1, .inr (8, [.ref (ad 2), .int (nI (tn + 1 + 1 + 1))])), (ad 2, .inl (cy 0, 600, .inl (upd (upd (upd tb tn z_4) (tn + 1) z_8) (tn + 1 + 1) z_12)))] := hD
              refine lv_iinc (v := 0) (lv' := [(2, .int 0), (0, .ref (ad 1)), (1, .int v)]) hx hb dX8_append_43 hl (k := 0) rfl (by decide) (by decide) rfl (fun ls hl => ?_)
              refine lv_goto (tgt := 3) hx hb dX8_append_46 (by decide) ?_
              refine lv_iload_n hx hb dX8_append_3 rfl (lv_at hl 0 rfl) ?_
              refine bw_if_lt (tgt := 49) (a := 0) hx hb dX8_append_4 (by decide) rfl (fun c_13 => ?_) (fun c_13 => ?_)
              · exact absurd c_13 (by decide)
              · skip
                refine lv_aload_n hx hb dX8_append_7 rfl (lv_at hl 1 rfl) ?_
                refine va_get (D := (dC, dI)) (ci := 8) (v := .int (nI (tn + 1 + 1 + 1))) (C := RX8) (T := TX8) (N := 2) hx hb hts hiX8 hown hK hP 0 rfl rfl 1 (by decide) hL0 (fun _ h9 => h9) rfl dX8_append_8 ?_
                refine lv_sipush (v := 600) hx hb dX8_append_11 (by decide) ?_
                refine bw_icmp_ge (tgt := 49) (a := ((tn + 1 + 1 + 1 : Nat) : Int)) (b := 600) hx hb dX8_append_14 (by decide) (nI_toInt (by omega)) rfl (fun c_14 => ?_) (fun c_14 => ?_)
                · skip
                  exfalso; omega
                · skip
                  refine lv_aload_n hx hb dX8_append_17 rfl (lv_at hl 1 rfl) ?_
                  refine va_get (D := (dC, dI)) (ci := 8) (v := .ref (ad 2)) (C := RX8) (T := TX8) (N := 2) hx hb hts hiX8 hown hK hP 0 rfl rfl 0 (by decide) hL1 (fun _ h9 => h9) rfl dX8_append_18 ?_
                  refine lv_aload_n hx hb dX8_append_21 rfl (lv_at hl 1 rfl) ?_
                  refine va_get (D := (dC, dI)) (ci := 8) (v := .int (nI (tn + 1 + 1 + 1))) (C := RX8) (T := TX8) (N := 2) hx hb hts hiX8 hown hK hP 0 rfl rfl 1 (by decide) hL0 (fun _ h9 => h9) rfl dX8_append_22 ?_
                  refine lv_iload_n hx hb dX8_append_25 rfl (lv_at hl 2 rfl) ?_
                  refine lv_iload_n hx hb dX8_append_26 rfl (lv_at hl 0 rfl) ?_
                  refine lv_iushr hx hb dX8_append_27 rfl ?_
                  refine lv_topi (fun z_15 ez_15 => ?_)
                  refine lv_sipush (v := 255) hx hb dX8_append_28 (by decide) ?_
                  refine lv_iand hx hb dX8_append_31 ?_
                  refine lv_topi (fun z_16 ez_16 => ?_)
                  refine bw_iast hx hb hK hP hD hS 1 0 rfl rfl (j := (tn + 1 + 1 + 1)) (nI_toInt (by omega)) (by omega) dX8_append_32 (fun H locs hP hD hS => ?_)
                  have hP : va_P (dC, dI) vwCl [(ad 1, .inr (8, [.ref (ad 2), .int (nI (tn + 1 + 1 + 1))])), (ad 2, .inl (cy 0, 600, .inl (upd (upd (upd (upd tb tn z_4) (tn + 1) z_8) (tn + 1 + 1) z_12) (tn + 1 + 1 + 1) z_16)))] H := hP
                  have hD : va_D A [(ad 1, .inr (8, [.ref (ad 2), .int (nI (tn + 1 + 1 + 1))])), (ad 2, .inl (cy 0, 600, .inl (upd (upd (upd (upd tb tn z_4) (tn + 1) z_8) (tn + 1 + 1) z_12) (tn + 1 + 1 + 1) z_16)))] := hD
                  refine lv_aload_n hx hb dX8_append_33 rfl (lv_at hl 1 rfl) ?_
                  refine lv_dup hx hb dX8_append_34 rfl ?_
                  refine va_get (D := (dC, dI)) (ci := 8) (v := .int (nI (tn + 1 + 1 + 1))) (C := RX8) (T := TX8) (N := 2) hx hb hts hiX8 hown hK hP 0 rfl rfl 1 (by decide) hL0 (fun _ h9 => h9) rfl dX8_append_35 ?_
                  refine lv_iconst (v := 1) hx hb dX8_append_38 (by decide) ?_
                  refine lv_iadd hx hb dX8_append_39 ?_
                  refine bw_re (show (nI (tn + 1 + 1 + 1)) + 1 = nI (tn + 1 + 1 + 1 + 1) from nI_add (tn + 1 + 1 + 1) (1)) ?_
                  refine va_put (D := (dC, dI)) (ci := 8) (v := .int (nI (tn + 1 + 1 + 1 + 1))) (ty := (tyX8 1)) (C := RX8) (T := TX8) (N := 2) hx hb hts hiX8 tyX8 tyX8_ok nmX8 hown hK hP hD hS 0 rfl rfl 1 (by decide) hL0 (fun _ h9 => h9) rfl (by decide +kernel) rfl rfl (Nat.le_of_ble_eq_true rfl) dX8_append_40 (fun H locs hP hD hS => ?_)
                  have hP : va_P (dC, dI) vwCl [(ad 1, .inr (8, [.ref (ad 2), .int (nI (tn + 1 + 1 + 1 + 1))])), (ad 2, .inl (cy 0, 600, .inl (upd (upd (upd (upd tb tn z_4) (tn + 1) z_8) (tn + 1 + 1) z_12) (tn + 1 + 1 + 1) z_16)))] H := hP
                  have hD : va_D A [(ad 1, .inr (8, [.ref (ad 2), .int (nI (tn + 1 + 1 + 1 + 1))])), (ad 2, .inl (cy 0, 600, .inl (upd (upd (upd (upd tb tn z_4) (tn + 1) z_8) (tn + 1 + 1) z_12) (tn + 1 + 1 + 1) z_16)))] := hD
                  refine lv_iinc (v := (-8)) (lv' := [(2, .int (-8)), (0, .ref (ad 1)), (1, .int v)]) hx hb dX8_append_43 hl (k := 0) rfl (by decide) (by decide) rfl (fun ls hl => ?_)
                  refine lv_goto (tgt := 3) hx hb dX8_append_46 (by decide) ?_
                  refine lv_iload_n hx hb dX8_append_3 rfl (lv_at hl 0 rfl) ?_
                  refine bw_if_lt (tgt := 49) (a := (-8)) hx hb dX8_append_4 (by decide) rfl (fun c_17 => ?_) (fun c_17 => ?_)
                  · skip
                    subst hQ
                    have hP9 : va_P (dC, dI) vwCl [(ad 1, .inr (8, [.ref (ad 2), .int (nI (tn + 4))])), (ad 2, .inl (cy 0, 600, .inl (upd (upd (upd (upd tb tn z_4) (tn + 1) z_8) (tn + 1 + 1) z_12) (tn + 1 + 1 + 1) z_16)))] H := hP.sub [0, 1] rfl
                    have hD9 : va_D A [(ad 1, .inr (8, [.ref (ad 2), .int (nI (tn + 4))])), (ad 2, .inl (cy 0, 600, .inl (upd (upd (upd (upd tb tn z_4) (tn + 1) z_8) (tn + 1 + 1) z_12) (tn + 1 + 1 + 1) z_16)))] := hD.sub [0, 1] (by decide) rfl
                    have hpost : (upd (upd (upd (upd tb tn z_4) (tn + 1) z_8) (tn + 1 + 1) z_12) (tn + 1 + 1 + 1) z_16) = tApp tb tn v := by
                      subst_vars
                      rfl
                    exact W.vret hx hb hr (fun t9 ht hW => ⟨⟨(upd (upd (upd (upd tb tn z_4) (tn + 1) z_8) (tn + 1 + 1) z_12) (tn + 1 + 1 + 1) z_16), rfl, hpost, by rw [ht]; exact hP9, va_K.moved hW.alike hK, hD9⟩, hS.F ht⟩) hS.2.2 dX8_append_49
                  · exact absurd c_17 (by decide)

set_option maxHeartbeats 4000000 in
set_option maxRecDepth 100000 in
theorem c_X12_live (l : Launch) (dC : Nat → ClassId) (dI : Nat → Nat → Nat) (cy : Nat → ClassId) (am : Nat → Nat) (tn : Nat) (zsz : Nat) (zfr : Nat) (zbe : Nat) (zha : Int32) (zva : Int32) (fk : Int32) (fp : Int32) (sn : Nat) (pn : Nat) (qn : Nat) (zss : Int32) (zsy : Int32) (zpy : Int32) (zfs : Int32) (zls : Int32) (an : Nat) (zw : Nat) (nb : Nat → Int32) (fr : Nat → Int32) (tt : Nat → Int32) (st : Nat → Int32) (nu : Nat → Int32) (mk : Nat → Int32) (qp : Nat → Int32) (qs : Nat → Int32) (qt : Nat → Int32) (qm : Nat → Int32) (qf : Nat → Int32) (ql : Nat → Int32) (qx : Nat → Int32) (zsi : Nat → Int32) (zpi : Nat → Int32) (p : Nat) (s : Nat) (sz : Nat) (hall : sOK nb fr tt sn) (hq : qOK qp qs qf ql qx qn pn) (hp9 : p < pn) (hs9 : s < sn) : Met l yX12_live wsX12_live ({ frames := 4, cells := 0, slots := 0, locals := 100 }) (va_Pc [.ref (am 0), .int (nI p), .int (nI s)] (fun U => U.heap.size = sz ∧ va_P (dC, dI) vwCl [(am 0, .inr (12, [.ref (am 1), .ref (am 2), .ref (am 3), .ref (am 4), .int (nI tn), .int (nI zsz), .int (nI zfr), .int (nI zbe), .int zha, .int zva, .int fk, .int fp, .ref (am 13), .int (nI sn), .ref (am 15), .ref (am 16), .ref (am 17), .ref (am 18), .ref (am 19), .int (nI pn), .int (nI qn), .ref (am 22), .ref (am 23), .ref (am 24), .ref (am 25), .ref (am 26), .ref (am 27), .ref (am 28), .ref (am 29), .ref (am 30), .ref (am 31), .ref (am 32), .ref (am 33), .ref (am 34), .int zss, .int zsy, .int zpy, .int zfs, .int zls, .int (nI an), .ref (am 41), .ref (am 42), .ref (am 43), .ref (am 44), .ref (am 45), .ref (am 46), .ref (am 47), .ref (am 48), .ref (am 49), .ref (am 50), .int (nI zw), .ref (am 52), .ref (am 53)])), (am 15, .inl (cy 0, 40, .inl nb)), (am 16, .inl (cy 0, 320, .inl fr)), (am 17, .inl (cy 0, 320, .inl tt)), (am 18, .inl (cy 0, 320, .inl st)), (am 19, .inl (cy 0, 320, .inl nu)), (am 25, .inl (cy 0, 30, .inl mk)), (am 26, .inl (cy 0, 100, .inl qp)), (am 27, .inl (cy 0, 100, .inl qs)), (am 28, .inl (cy 0, 100, .inl qt)), (am 29, .inl (cy 0, 100, .inl qm)), (am 30, .inl (cy 0, 100, .inl qf)), (am 31, .inl (cy 0, 100, .inl ql)), (am 32, .inl (cy 2, 100, .inl qx)), (am 33, .inl (cy 2, 601, .inl zsi)), (am 34, .inl (cy 2, 601, .inl zpi))] U.heap ∧ va_K (dC, dI) vwCl (tyL cy) U ∧ va_D (fun _ => True) [(am 0, .inr (12, [.ref (am 1), .ref (am 2), .ref (am 3), .ref (am 4), .int (nI tn), .int (nI zsz), .int (nI zfr), .int (nI zbe), .int zha, .int zva, .int fk, .int fp, .ref (am 13), .int (nI sn), .ref (am 15), .ref (am 16), .ref (am 17), .ref (am 18), .ref (am 19), .int (nI pn), .int (nI qn), .ref (am 22), .ref (am 23), .ref (am 24), .ref (am 25), .ref (am 26), .ref (am 27), .ref (am 28), .ref (am 29), .ref (am 30), .ref (am 31), .ref (am 32), .ref (am 33), .ref (am 34), .int zss, .int zsy, .int zpy, .int zfs, .int zls, .int (nI an), .ref (am 41), .ref (am 42), .ref (am 43), .ref (am 44), .ref (am 45), .ref (am 46), .ref (am 47), .ref (am 48), .ref (am 49), .ref (am 50), .int (nI zw), .ref (am 52), .ref (am 53)])), (am 15, .inl (cy 0, 40, .inl nb)), (am 16, .inl (cy 0, 320, .inl fr)), (am 17, .inl (cy 0, 320, .inl tt)), (am 18, .inl (cy 0, 320, .inl st)), (am 19, .inl (cy 0, 320, .inl nu)), (am 25, .inl (cy 0, 30, .inl mk)), (am 26, .inl (cy 0, 100, .inl qp)), (am 27, .inl (cy 0, 100, .inl qs)), (am 28, .inl (cy 0, 100, .inl qt)), (am 29, .inl (cy 0, 100, .inl qm)), (am 30, .inl (cy 0, 100, .inl qf)), (am 31, .inl (cy 0, 100, .inl ql)), (am 32, .inl (cy 2, 100, .inl qx)), (am 33, .inl (cy 2, 601, .inl zsi)), (am 34, .inl (cy 2, 601, .inl zpi))])) (va_Qv (S := Int32 × Int32 × Int32 × Int32 × Int32 × (Nat → Int32) × (Nat → Int32)) (fun u => match u with | (zss2, zsy2, zpy2, zfs2, zls2, zsi2, zpi2) => lvPost (lvB (liv qp qt qm qf ql qx mk (fun t9 m9 y9 => sOnly nb fr tt st nu sn s t9 m9 y9) qn p)) (lvB (liv qp qt qm qf ql qx mk (fun t9 m9 y9 => sPos nb fr tt st nu s t9 m9 y9) qn p)) (fun j9 => pB (src qp qs qt qm qf ql qx mk (fun t9 m9 y9 => sOnly nb fr tt st nu sn s t9 m9 y9) qn p j9)) zss2 zsy2 zpy2 zfs2 zls2 zsi2) (fun u => match u with | (zss2, zsy2, zpy2, zfs2, zls2, zsi2, zpi2) => fun t => va_P (dC, dI) vwCl [(am 0, .inr (12, [.ref (am 1), .ref (am 2), .ref (am 3), .ref (am 4), .int (nI tn), .int (nI zsz), .int (nI zfr), .int (nI zbe), .int zha, .int zva, .int fk, .int fp, .ref (am 13), .int (nI sn), .ref (am 15), .ref (am 16), .ref (am 17), .ref (am 18), .ref (am 19), .int (nI pn), .int (nI qn), .ref (am 22), .ref (am 23), .ref (am 24), .ref (am 25), .ref (am 26), .ref (am 27), .ref (am 28), .ref (am 29), .ref (am 30), .ref (am 31), .ref (am 32), .ref (am 33), .ref (am 34), .int zss2, .int zsy2, .int zpy2, .int zfs2, .int zls2, .int (nI an), .ref (am 41), .ref (am 42), .ref (am 43), .ref (am 44), .ref (am 45), .ref (am 46), .ref (am 47), .ref (am 48), .ref (am 49), .ref (am 50), .int (nI zw), .ref (am 52), .ref (am 53)])), (am 15, .inl (cy 0, 40, .inl nb)), (am 16, .inl (cy 0, 320, .inl fr)), (am 17, .inl (cy 0, 320, .inl tt)), (am 18, .inl (cy 0, 320, .inl st)), (am 19, .inl (cy 0, 320, .inl nu)), (am 25, .inl (cy 0, 30, .inl mk)), (am 26, .inl (cy 0, 100, .inl qp)), (am 27, .inl (cy 0, 100, .inl qs)), (am 28, .inl (cy 0, 100, .inl qt)), (am 29, .inl (cy 0, 100, .inl qm)), (am 30, .inl (cy 0, 100, .inl qf)), (am 31, .inl (cy 0, 100, .inl ql)), (am 32, .inl (cy 2, 100, .inl qx)), (am 33, .inl (cy 2, 601, .inl zsi2)), (am 34, .inl (cy 2, 601, .inl zpi2))] t.heap ∧ va_K (dC, dI) vwCl (tyL cy) t ∧ va_D (va_A [(am 0, .inr (12, [.ref (am 1), .ref (am 2), .ref (am 3), .ref (am 4), .int (nI tn), .int (nI zsz), .int (nI zfr), .int (nI zbe), .int zha, .int zva, .int fk, .int fp, .ref (am 13), .int (nI sn), .ref (am 15), .ref (am 16), .ref (am 17), .ref (am 18), .ref (am 19), .int (nI pn), .int (nI qn), .ref (am 22), .ref (am 23), .ref (am 24), .ref (am 25), .ref (am 26), .ref (am 27), .ref (am 28), .ref (am 29), .ref (am 30), .ref (am 31), .ref (am 32), .ref (am 33), .ref (am 34), .int zss, .int zsy, .int zpy, .int zfs, .int zls, .int (nI an), .ref (am 41), .ref (am 42), .ref (am 43), .ref (am 44), .ref (am 45), .ref (am 46), .ref (am 47), .ref (am 48), .ref (am 49), .ref (am 50), .int (nI zw), .ref (am 52), .ref (am 53)])), (am 15, .inl (cy 0, 40, .inl nb)), (am 16, .inl (cy 0, 320, .inl fr)), (am 17, .inl (cy 0, 320, .inl tt)), (am 18, .inl (cy 0, 320, .inl st)), (am 19, .inl (cy 0, 320, .inl nu)), (am 25, .inl (cy 0, 30, .inl mk)), (am 26, .inl (cy 0, 100, .inl qp)), (am 27, .inl (cy 0, 100, .inl qs)), (am 28, .inl (cy 0, 100, .inl qt)), (am 29, .inl (cy 0, 100, .inl qm)), (am 30, .inl (cy 0, 100, .inl qf)), (am 31, .inl (cy 0, 100, .inl ql)), (am 32, .inl (cy 2, 100, .inl qx)), (am 33, .inl (cy 2, 601, .inl zsi)), (am 34, .inl (cy 2, 601, .inl zpi))] sz) [(am 0, .inr (12, [.ref (am 1), .ref (am 2), .ref (am 3), .ref (am 4), .int (nI tn), .int (nI zsz), .int (nI zfr), .int (nI zbe), .int zha, .int zva, .int fk, .int fp, .ref (am 13), .int (nI sn), .ref (am 15), .ref (am 16), .ref (am 17), .ref (am 18), .ref (am 19), .int (nI pn), .int (nI qn), .ref (am 22), .ref (am 23), .ref (am 24), .ref (am 25), .ref (am 26), .ref (am 27), .ref (am 28), .ref (am 29), .ref (am 30), .ref (am 31), .ref (am 32), .ref (am 33), .ref (am 34), .int zss2, .int zsy2, .int zpy2, .int zfs2, .int zls2, .int (nI an), .ref (am 41), .ref (am 42), .ref (am 43), .ref (am 44), .ref (am 45), .ref (am 46), .ref (am 47), .ref (am 48), .ref (am 49), .ref (am 50), .int (nI zw), .ref (am 52), .ref (am 53)])), (am 15, .inl (cy 0, 40, .inl nb)), (am 16, .inl (cy 0, 320, .inl fr)), (am 17, .inl (cy 0, 320, .inl tt)), (am 18, .inl (cy 0, 320, .inl st)), (am 19, .inl (cy 0, 320, .inl nu)), (am 25, .inl (cy 0, 30, .inl mk)), (am 26, .inl (cy 0, 100, .inl qp)), (am 27, .inl (cy 0, 100, .inl qs)), (am 28, .inl (cy 0, 100, .inl qt)), (am 29, .inl (cy 0, 100, .inl qm)), (am 30, .inl (cy 0, 100, .inl qf)), (am 31, .inl (cy 0, 100, .inl ql)), (am 32, .inl (cy 2, 100, .inl qx)), (am 33, .inl (cy 2, 601, .inl zsi2)), (am 34, .inl (cy 2, 601, .inl zpi2))]) (va_A [(am 0, .inr (12, [.ref (am 1), .ref (am 2), .ref (am 3), .ref (am 4), .int (nI tn), .int (nI zsz), .int (nI zfr), .int (nI zbe), .int zha, .int zva, .int fk, .int fp, .ref (am 13), .int (nI sn), .ref (am 15), .ref (am 16), .ref (am 17), .ref (am 18), .ref (am 19), .int (nI pn), .int (nI qn), .ref (am 22), .ref (am 23), .ref (am 24), .ref (am 25), .ref (am 26), .ref (am 27), .ref (am 28), .ref (am 29), .ref (am 30), .ref (am 31), .ref (am 32), .ref (am 33), .ref (am 34), .int zss, .int zsy, .int zpy, .int zfs, .int zls, .int (nI an), .ref (am 41), .ref (am 42), .ref (am 43), .ref (am 44), .ref (am 45), .ref (am 46), .ref (am 47), .ref (am 48), .ref (am 49), .ref (am 50), .int (nI zw), .ref (am 52), .ref (am 53)])), (am 15, .inl (cy 0, 40, .inl nb)), (am 16, .inl (cy 0, 320, .inl fr)), (am 17, .inl (cy 0, 320, .inl tt)), (am 18, .inl (cy 0, 320, .inl st)), (am 19, .inl (cy 0, 320, .inl nu)), (am 25, .inl (cy 0, 30, .inl mk)), (am 26, .inl (cy 0, 100, .inl qp)), (am 27, .inl (cy 0, 100, .inl qs)), (am 28, .inl (cy 0, 100, .inl qt)), (am 29, .inl (cy 0, 100, .inl qm)), (am 30, .inl (cy 0, 100, .inl qf)), (am 31, .inl (cy 0, 100, .inl ql)), (am 32, .inl (cy 2, 100, .inl qx)), (am 33, .inl (cy 2, 601, .inl zsi)), (am 34, .inl (cy 2, 601, .inl zpi))] sz)) 0 0 (va_A [(am 0, .inr (12, [.ref (am 1), .ref (am 2), .ref (am 3), .ref (am 4), .int (nI tn), .int (nI zsz), .int (nI zfr), .int (nI zbe), .int zha, .int zva, .int fk, .int fp, .ref (am 13), .int (nI sn), .ref (am 15), .ref (am 16), .ref (am 17), .ref (am 18), .ref (am 19), .int (nI pn), .int (nI qn), .ref (am 22), .ref (am 23), .ref (am 24), .ref (am 25), .ref (am 26), .ref (am 27), .ref (am 28), .ref (am 29), .ref (am 30), .ref (am 31), .ref (am 32), .ref (am 33), .ref (am 34), .int zss, .int zsy, .int zpy, .int zfs, .int zls, .int (nI an), .ref (am 41), .ref (am 42), .ref (am 43), .ref (am 44), .ref (am 45), .ref (am 46), .ref (am 47), .ref (am 48), .ref (am 49), .ref (am 50), .int (nI zw), .ref (am 52), .ref (am 53)])), (am 15, .inl (cy 0, 40, .inl nb)), (am 16, .inl (cy 0, 320, .inl fr)), (am 17, .inl (cy 0, 320, .inl tt)), (am 18, .inl (cy 0, 320, .inl st)), (am 19, .inl (cy 0, 320, .inl nu)), (am 25, .inl (cy 0, 30, .inl mk)), (am 26, .inl (cy 0, 100, .inl qp)), (am 27, .inl (cy 0, 100, .inl qs)), (am 28, .inl (cy 0, 100, .inl qt)), (am 29, .inl (cy 0, 100, .inl qm)), (am 30, .inl (cy 0, 100, .inl qf)), (am 31, .inl (cy 0, 100, .inl ql)), (am 32, .inl (cy 2, 100, .inl qx)), (am 33, .inl (cy 2, 601, .inl zsi)), (am 34, .inl (cy 2, 601, .inl zpi))] sz) := by
  refine Met.ofW (cc := cX12_live) (maxL := 5) (ret := none) (by decide) rfl ?_
  intro pp ee ss mm args below meth cc0 s₁ B hml hv
  obtain ⟨rfl, hsz, hP, hK, hD0⟩ := hv
  have hx := B.exec
  have hb := B.bytes
  have hr := B.returns
  have hts := atoms_spec (ws := wsX12_live) B.pre
  have hown : ss.vm.findClass RX12 = some mm.cls := findClass_of_methodNamed B.named
  have hlocks := B.notSynchronized
  have hL0 := hts (.fieldLink RX12 285 "HereLivedModel" "sourceSet" "I") (by decide +kernel)
  have hL1 := hts (.fieldLink RX12 282 "HereLivedModel" "papers" "I") (by decide +kernel)
  have hL2 := hts (.fieldLink RX12 291 "HereLivedModel" "sureYears" "I") (by decide +kernel)
  have hL3 := hts (.fieldLink RX12 294 "HereLivedModel" "possibleYears" "I") (by decide +kernel)
  have hL4 := hts (.fieldLink RX12 297 "HereLivedModel" "firstSure" "I") (by decide +kernel)
  have hL5 := hts (.fieldLink RX12 300 "HereLivedModel" "lastSure" "I") (by decide +kernel)
  have hL6 := hts (.fieldLink RX12 178 "HereLivedModel" "possiblyIn" "[Z") (by decide +kernel)
  have hL7 := hts (.fieldLink RX12 175 "HereLivedModel" "surelyIn" "[Z") (by decide +kernel)
  have hL8 := hts (.fieldLink RX12 166 "HereLivedModel" "paperFrom" "[I") (by decide +kernel)
  have hL9 := hts (.fieldLink RX12 169 "HereLivedModel" "paperTo" "[I") (by decide +kernel)
  have hL10 := hts (.fieldLink RX12 160 "HereLivedModel" "paperStreet" "[I") (by decide +kernel)
  have hL11 := hts (.fieldLink RX12 163 "HereLivedModel" "paperNumber" "[I") (by decide +kernel)
  have hL12 := hts (.fieldLink RX12 157 "HereLivedModel" "source" "[I") (by decide +kernel)
  have hiX12 : ∀ w ∈ wsX120, w ∈ wsX12_live := by decide +kernel
  subst hsz
  have hD := hD0.self (sz := ss.heap.size)
  generalize hAe : va_A [(am 0, .inr (12, [.ref (am 1), .ref (am 2), .ref (am 3), .ref (am 4), .int (nI tn), .int (nI zsz), .int (nI zfr), .int (nI zbe), .int zha, .int zva, .int fk, .int fp, .ref (am 13), .int (nI sn), .ref (am 15), .ref (am 16), .ref (am 17), .ref (am 18), .ref (am 19), .int (nI pn), .int (nI qn), .ref (am 22), .ref (am 23), .ref (am 24), .ref (am 25), .ref (am 26), .ref (am 27), .ref (am 28), .ref (am 29), .ref (am 30), .ref (am 31), .ref (am 32), .ref (am 33), .ref (am 34), .int zss, .int zsy, .int zpy, .int zfs, .int zls, .int (nI an), .ref (am 41), .ref (am 42), .ref (am 43), .ref (am 44), .ref (am 45), .ref (am 46), .ref (am 47), .ref (am 48), .ref (am 49), .ref (am 50), .int (nI zw), .ref (am 52), .ref (am 53)])), (am 15, .inl (cy 0, 40, .inl nb)), (am 16, .inl (cy 0, 320, .inl fr)), (am 17, .inl (cy 0, 320, .inl tt)), (am 18, .inl (cy 0, 320, .inl st)), (am 19, .inl (cy 0, 320, .inl nu)), (am 25, .inl (cy 0, 30, .inl mk)), (am 26, .inl (cy 0, 100, .inl qp)), (am 27, .inl (cy 0, 100, .inl qs)), (am 28, .inl (cy 0, 100, .inl qt)), (am 29, .inl (cy 0, 100, .inl qm)), (am 30, .inl (cy 0, 100, .inl qf)), (am 31, .inl (cy 0, 100, .inl ql)), (am 32, .inl (cy 2, 100, .inl qx)), (am 33, .inl (cy 2, 601, .inl zsi)), (am 34, .inl (cy 2, 601, .inl zpi))] ss.heap.size = A at hD ⊢
  have hA : ∀ q : Nat, ss.heap.size ≤ q → A q := fun q h => by rw [← hAe]; exact Or.inr h
  have hS : va_S A ss.heap ss.heap [] := va_S.rf
  have hP : va_P (dC, dI) vwCl [(am 0, .inr (12, [.ref (am 1), .ref (am 2), .ref (am 3), .ref (am 4), .int (nI tn), .int (nI zsz), .int (nI zfr), .int (nI zbe), .int zha, .int zva, .int fk, .int fp, .ref (am 13), .int (nI sn), .ref (am 15), .ref (am 16), .ref (am 17), .ref (am 18), .ref (am 19), .int (nI pn), .int (nI qn), .ref (am 22), .ref (am 23), .ref (am 24), .ref (am 25), .ref (am 26), .ref (am 27), .ref (am 28), .ref (am 29), .ref (am 30), .ref (am 31), .ref (am 32), .ref (am 33), .ref (am 34), .int zss, .int zsy, .int zpy, .int zfs, .int zls, .int (nI an), .ref (am 41), .ref (am 42), .ref (am 43), .ref (am 44), .ref (am 45), .ref (am 46), .ref (am 47), .ref (am 48), .ref (am 49), .ref (am 50), .int (nI zw), .ref (am 52), .ref (am 53)])), (am 15, .inl (cy 0, 40, .inl nb)), (am 16, .inl (cy 0, 320, .inl fr)), (am 17, .inl (cy 0, 320, .inl tt)), (am 18, .inl (cy 0, 320, .inl st)), (am 19, .inl (cy 0, 320, .inl nu)), (am 25, .inl (cy 0, 30, .inl mk)), (am 26, .inl (cy 0, 100, .inl qp)), (am 27, .inl (cy 0, 100, .inl qs)), (am 28, .inl (cy 0, 100, .inl qt)), (am 29, .inl (cy 0, 100, .inl qm)), (am 30, .inl (cy 0, 100, .inl qf)), (am 31, .inl (cy 0, 100, .inl ql)), (am 32, .inl (cy 2, 100, .inl qx)), (am 33, .inl (cy 2, 601, .inl zsi)), (am 34, .inl (cy 2, 601, .inl zpi))] ss.heap := hP
  have hl := lv_entry ([.ref (am 0), .int (nI p), .int (nI s)]) (n := 5) (Nat.le_of_ble_eq_true rfl)
  rw [lg_entry_eq]
  generalize (lg_sl ([.ref (am 0), .int (nI p), .int (nI s)]) ++ List.replicate (5 - (lg_sl ([.ref (am 0), .int (nI p), .int (nI s)])).length) Slot.unset).toArray = ls at hl ⊢
  have hl : lv_has ls 5 [(0, .ref (am 0)), (1, .int (nI p)), (2, .int (nI s))] := hl
  refine bw_Q (fun Q hQ => ?_)
  refine bw_H0 (fun H locs eH eL => ?_)
  have hS : va_S A ss.heap H locs := by rw [eH, eL]; exact hS
  have hP : va_P (dC, dI) vwCl [(am 0, .inr (12, [.ref (am 1), .ref (am 2), .ref (am 3), .ref (am 4), .int (nI tn), .int (nI zsz), .int (nI zfr), .int (nI zbe), .int zha, .int zva, .int fk, .int fp, .ref (am 13), .int (nI sn), .ref (am 15), .ref (am 16), .ref (am 17), .ref (am 18), .ref (am 19), .int (nI pn), .int (nI qn), .ref (am 22), .ref (am 23), .ref (am 24), .ref (am 25), .ref (am 26), .ref (am 27), .ref (am 28), .ref (am 29), .ref (am 30), .ref (am 31), .ref (am 32), .ref (am 33), .ref (am 34), .int zss, .int zsy, .int zpy, .int zfs, .int zls, .int (nI an), .ref (am 41), .ref (am 42), .ref (am 43), .ref (am 44), .ref (am 45), .ref (am 46), .ref (am 47), .ref (am 48), .ref (am 49), .ref (am 50), .int (nI zw), .ref (am 52), .ref (am 53)])), (am 15, .inl (cy 0, 40, .inl nb)), (am 16, .inl (cy 0, 320, .inl fr)), (am 17, .inl (cy 0, 320, .inl tt)), (am 18, .inl (cy 0, 320, .inl st)), (am 19, .inl (cy 0, 320, .inl nu)), (am 25, .inl (cy 0, 30, .inl mk)), (am 26, .inl (cy 0, 100, .inl qp)), (am 27, .inl (cy 0, 100, .inl qs)), (am 28, .inl (cy 0, 100, .inl qt)), (am 29, .inl (cy 0, 100, .inl qm)), (am 30, .inl (cy 0, 100, .inl qf)), (am 31, .inl (cy 0, 100, .inl ql)), (am 32, .inl (cy 2, 100, .inl qx)), (am 33, .inl (cy 2, 601, .inl zsi)), (am 34, .inl (cy 2, 601, .inl zpi))] H := by rw [eH]; exact hP
  change W pp l ee { frames := 4, cells := 0, slots := 0, locals := 100 } ss mm _ below meth cc0 H locs 0 0 Q (F0 mm 0 ls [])
  have hqn := hq.1
  have hpn := hq.2.1
  have hs40 := hall.1
  refine lv_sipush (v := 1500) hx hb dX12_live_0 (by decide) ?_
  refine lv_istore_n (lv' := [(3, .int 1500), (0, .ref (am 0)), (1, .int (nI p)), (2, .int (nI s))]) hx hb dX12_live_3 rfl hl (by decide) rfl (fun ls hl => ?_)
  have L_4 : ∀ (n9 : Nat), ∀ (y : Nat) (f : Nat → Int32) (g : Nat → Int32), (2101 - y) < n9 → (1500 ≤ y) → (y ≤ 2101) → (∀ i9, i9 < y - 1500 → f i9 = 0 ∧ g i9 = 0) → ∀ (H : Heap) (locs : List Loc), va_P (dC, dI) vwCl [(am 0, .inr (12, [.ref (am 1), .ref (am 2), .ref (am 3), .ref (am 4), .int (nI tn), .int (nI zsz), .int (nI zfr), .int (nI zbe), .int zha, .int zva, .int fk, .int fp, .ref (am 13), .int (nI sn), .ref (am 15), .ref (am 16), .ref (am 17), .ref (am 18), .ref (am 19), .int (nI pn), .int (nI qn), .ref (am 22), .ref (am 23), .ref (am 24), .ref (am 25), .ref (am 26), .ref (am 27), .ref (am 28), .ref (am 29), .ref (am 30), .ref (am 31), .ref (am 32), .ref (am 33), .ref (am 34), .int zss, .int zsy, .int zpy, .int zfs, .int zls, .int (nI an), .ref (am 41), .ref (am 42), .ref (am 43), .ref (am 44), .ref (am 45), .ref (am 46), .ref (am 47), .ref (am 48), .ref (am 49), .ref (am 50), .int (nI zw), .ref (am 52), .ref (am 53)])), (am 15, .inl (cy 0, 40, .inl nb)), (am 16, .inl (cy 0, 320, .inl fr)), (am 17, .inl (cy 0, 320, .inl tt)), (am 18, .inl (cy 0, 320, .inl st)), (am 19, .inl (cy 0, 320, .inl nu)), (am 25, .inl (cy 0, 30, .inl mk)), (am 26, .inl (cy 0, 100, .inl qp)), (am 27, .inl (cy 0, 100, .inl qs)), (am 28, .inl (cy 0, 100, .inl qt)), (am 29, .inl (cy 0, 100, .inl qm)), (am 30, .inl (cy 0, 100, .inl qf)), (am 31, .inl (cy 0, 100, .inl ql)), (am 32, .inl (cy 2, 100, .inl qx)), (am 33, .inl (cy 2, 601, .inl f)), (am 34, .inl (cy 2, 601, .inl g))] H → va_D A [(am 0, .inr (12, [.ref (am 1), .ref (am 2), .ref (am 3), .ref (am 4), .int (nI tn), .int (nI zsz), .int (nI zfr), .int (nI zbe), .int zha, .int zva, .int fk, .int fp, .ref (am 13), .int (nI sn), .ref (am 15), .ref (am 16), .ref (am 17), .ref (am 18), .ref (am 19), .int (nI pn), .int (nI qn), .ref (am 22), .ref (am 23), .ref (am 24), .ref (am 25), .ref (am 26), .ref (am 27), .ref (am 28), .ref (am 29), .ref (am 30), .ref (am 31), .ref (am 32), .ref (am 33), .ref (am 34), .int zss, .int zsy, .int zpy, .int zfs, .int zls, .int (nI an), .ref (am 41), .ref (am 42), .ref (am 43), .ref (am 44), .ref (am 45), .ref (am 46), .ref (am 47), .ref (am 48), .ref (am 49), .ref (am 50), .int (nI zw), .ref (am 52), .ref (am 53)])), (am 15, .inl (cy 0, 40, .inl nb)), (am 16, .inl (cy 0, 320, .inl fr)), (am 17, .inl (cy 0, 320, .inl tt)), (am 18, .inl (cy 0, 320, .inl st)), (am 19, .inl (cy 0, 320, .inl nu)), (am 25, .inl (cy 0, 30, .inl mk)), (am 26, .inl (cy 0, 100, .inl qp)), (am 27, .inl (cy 0, 100, .inl qs)), (am 28, .inl (cy 0, 100, .inl qt)), (am 29, .inl (cy 0, 100, .inl qm)), (am 30, .inl (cy 0, 100, .inl qf)), (am 31, .inl (cy 0, 100, .inl ql)), (am 32, .inl (cy 2, 100, .inl qx)), (am 33, .inl (cy 2, 601, .inl f)), (am 34, .inl (cy 2, 601, .inl g))] → va_S A ss.heap H locs → ∀ (ls : Array Slot), lv_has ls 5 [(0, .ref (am 0)), (1, .int (nI p)), (2, .int (nI s)), (3, .int (nI y))] → W pp l ee { frames := 4, cells := 0, slots := 0, locals := 100 } ss mm (List.toArray [Value.ref (am 0), Value.int (nI p), Value.int (nI s)]) below meth cc0 H locs 0 0 Q (F0 mm 4 ls []) := by
    intro n9
    induction n9 with
    | zero => intro y f g hm9; exact absurd hm9 (Nat.not_lt_zero _)
    | succ n9 ih4 =>
      intro y f g hm4 hy1 hy2 hf
      intro H locs hP hD hS
      intro ls hl
      refine lv_iload_n hx hb dX12_live_4 rfl (lv_at hl 3 rfl) ?_
      refine lv_sipush (v := 2100) hx hb dX12_live_5 (by decide) ?_
      refine bw_icmp_gt (tgt := 39) (a := ((y : Nat) : Int)) (b := 2100) hx hb dX12_live_8 (by decide) (nI_toInt (by omega)) rfl (fun c_1 => ?_) (fun c_1 => ?_)
      · skip
        refine lv_aload_n hx hb dX12_live_39 rfl (lv_at hl 0 rfl) ?_
        refine lv_iconst (v := 0) hx hb dX12_live_40 (by decide) ?_
        refine va_put (D := (dC, dI)) (ci := 12) (v := .int 0) (ty := (tyX12 34)) (C := RX12) (T := TX12) (N := 53) hx hb hts hiX12 tyX12 tyX12_ok nmX12 hown hK hP hD hS 0 rfl rfl 34 (by decide) hL0 (fun _ h9 => h9) rfl (by decide +kernel) rfl rfl (Nat.le_of_ble_eq_true rfl) dX12_live_41 (fun H locs hP hD hS => ?_)
        have hP : va_P (dC, dI) vwCl [(am 0, .inr (12, [.ref (am 1), .ref (am 2), .ref (am 3), .ref (am 4), .int (nI tn), .int (nI zsz), .int (nI zfr), .int (nI zbe), .int zha, .int zva, .int fk, .int fp, .ref (am 13), .int (nI sn), .ref (am 15), .ref (am 16), .ref (am 17), .ref (am 18), .ref (am 19), .int (nI pn), .int (nI qn), .ref (am 22), .ref (am 23), .ref (am 24), .ref (am 25), .ref (am 26), .ref (am 27), .ref (am 28), .ref (am 29), .ref (am 30), .ref (am 31), .ref (am 32), .ref (am 33), .ref (am 34), .int 0, .int zsy, .int zpy, .int zfs, .int zls, .int (nI an), .ref (am 41), .ref (am 42), .ref (am 43), .ref (am 44), .ref (am 45), .ref (am 46), .ref (am 47), .ref (am 48), .ref (am 49), .ref (am 50), .int (nI zw), .ref (am 52), .ref (am 53)])), (am 15, .inl (cy 0, 40, .inl nb)), (am 16, .inl (cy 0, 320, .inl fr)), (am 17, .inl (cy 0, 320, .inl tt)), (am 18, .inl (cy 0, 320, .inl st)), (am 19, .inl (cy 0, 320, .inl nu)), (am 25, .inl (cy 0, 30, .inl mk)), (am 26, .inl (cy 0, 100, .inl qp)), (am 27, .inl (cy 0, 100, .inl qs)), (am 28, .inl (cy 0, 100, .inl qt)), (am 29, .inl (cy 0, 100, .inl qm)), (am 30, .inl (cy 0, 100, .inl qf)), (am 31, .inl (cy 0, 100, .inl ql)), (am 32, .inl (cy 2, 100, .inl qx)), (am 33, .inl (cy 2, 601, .inl f)), (am 34, .inl (cy 2, 601, .inl g))] H := hP
        have hD : va_D A [(am 0, .inr (12, [.ref (am 1), .ref (am 2), .ref (am 3), .ref (am 4), .int (nI tn), .int (nI zsz), .int (nI zfr), .int (nI zbe), .int zha, .int zva, .int fk, .int fp, .ref (am 13), .int (nI sn), .ref (am 15), .ref (am 16), .ref (am 17), .ref (am 18), .ref (am 19), .int (nI pn), .int (nI qn), .ref (am 22), .ref (am 23), .ref (am 24), .ref (am 25), .ref (am 26), .ref (am 27), .ref (am 28), .ref (am 29), .ref (am 30), .ref (am 31), .ref (am 32), .ref (am 33), .ref (am 34), .int 0, .int zsy, .int zpy, .int zfs, .int zls, .int (nI an), .ref (am 41), .ref (am 42), .ref (am 43), .ref (am 44), .ref (am 45), .ref (am 46), .ref (am 47), .ref (am 48), .ref (am 49), .ref (am 50), .int (nI zw), .ref (am 52), .ref (am 53)])), (am 15, .inl (cy 0, 40, .inl nb)), (am 16, .inl (cy 0, 320, .inl fr)), (am 17, .inl (cy 0, 320, .inl tt)), (am 18, .inl (cy 0, 320, .inl st)), (am 19, .inl (cy 0, 320, .inl nu)), (am 25, .inl (cy 0, 30, .inl mk)), (am 26, .inl (cy 0, 100, .inl qp)), (am 27, .inl (cy 0, 100, .inl qs)), (am 28, .inl (cy 0, 100, .inl qt)), (am 29, .inl (cy 0, 100, .inl qm)), (am 30, .inl (cy 0, 100, .inl qf)), (am 31, .inl (cy 0, 100, .inl ql)), (am 32, .inl (cy 2, 100, .inl qx)), (am 33, .inl (cy 2, 601, .inl f)), (am 34, .inl (cy 2, 601, .inl g))] := hD
        refine lv_iconst (v := 0) hx hb dX12_live_44 (by decide) ?_
        refine lv_istore_n (lv' := [(3, .int 0), (0, .ref (am 0)), (1, .int (nI p)), (2, .int (nI s))]) hx hb dX12_live_45 rfl hl (by decide) rfl (fun ls hl => ?_)
        have L_46 : ∀ (n9 : Nat), ∀ (k : Nat) (f : Nat → Int32) (g : Nat → Int32) (b : Int32), (qn - k) < n9 → (k ≤ qn) → (∀ i9, i9 < 601 → f i9 = pI (liv qp qt qm qf ql qx mk (fun t9 m9 y9 => sOnly nb fr tt st nu sn s t9 m9 y9) k p (1500 + ((i9 : Nat) : Int)))) → (∀ i9, i9 < 601 → g i9 = pI (liv qp qt qm qf ql qx mk (fun t9 m9 y9 => sPos nb fr tt st nu s t9 m9 y9) k p (1500 + ((i9 : Nat) : Int)))) → (sbIs b (fun j9 => pB (src qp qs qt qm qf ql qx mk (fun t9 m9 y9 => sOnly nb fr tt st nu sn s t9 m9 y9) k p j9))) → ∀ (H : Heap) (locs : List Loc), va_P (dC, dI) vwCl [(am 0, .inr (12, [.ref (am 1), .ref (am 2), .ref (am 3), .ref (am 4), .int (nI tn), .int (nI zsz), .int (nI zfr), .int (nI zbe), .int zha, .int zva, .int fk, .int fp, .ref (am 13), .int (nI sn), .ref (am 15), .ref (am 16), .ref (am 17), .ref (am 18), .ref (am 19), .int (nI pn), .int (nI qn), .ref (am 22), .ref (am 23), .ref (am 24), .ref (am 25), .ref (am 26), .ref (am 27), .ref (am 28), .ref (am 29), .ref (am 30), .ref (am 31), .ref (am 32), .ref (am 33), .ref (am 34), .int b, .int zsy, .int zpy, .int zfs, .int zls, .int (nI an), .ref (am 41), .ref (am 42), .ref (am 43), .ref (am 44), .ref (am 45), .ref (am 46), .ref (am 47), .ref (am 48), .ref (am 49), .ref (am 50), .int (nI zw), .ref (am 52), .ref (am 53)])), (am 15, .inl (cy 0, 40, .inl nb)), (am 16, .inl (cy 0, 320, .inl fr)), (am 17, .inl (cy 0, 320, .inl tt)), (am 18, .inl (cy 0, 320, .inl st)), (am 19, .inl (cy 0, 320, .inl nu)), (am 25, .inl (cy 0, 30, .inl mk)), (am 26, .inl (cy 0, 100, .inl qp)), (am 27, .inl (cy 0, 100, .inl qs)), (am 28, .inl (cy 0, 100, .inl qt)), (am 29, .inl (cy 0, 100, .inl qm)), (am 30, .inl (cy 0, 100, .inl qf)), (am 31, .inl (cy 0, 100, .inl ql)), (am 32, .inl (cy 2, 100, .inl qx)), (am 33, .inl (cy 2, 601, .inl f)), (am 34, .inl (cy 2, 601, .inl g))] H → va_D A [(am 0, .inr (12, [.ref (am 1), .ref (am 2), .ref (am 3), .ref (am 4), .int (nI tn), .int (nI zsz), .int (nI zfr), .int (nI zbe), .int zha, .int zva, .int fk, .int fp, .ref (am 13), .int (nI sn), .ref (am 15), .ref (am 16), .ref (am 17), .ref (am 18), .ref (am 19), .int (nI pn), .int (nI qn), .ref (am 22), .ref (am 23), .ref (am 24), .ref (am 25), .ref (am 26), .ref (am 27), .ref (am 28), .ref (am 29), .ref (am 30), .ref (am 31), .ref (am 32), .ref (am 33), .ref (am 34), .int b, .int zsy, .int zpy, .int zfs, .int zls, .int (nI an), .ref (am 41), .ref (am 42), .ref (am 43), .ref (am 44), .ref (am 45), .ref (am 46), .ref (am 47), .ref (am 48), .ref (am 49), .ref (am 50), .int (nI zw), .ref (am 52), .ref (am 53)])), (am 15, .inl (cy 0, 40, .inl nb)), (am 16, .inl (cy 0, 320, .inl fr)), (am 17, .inl (cy 0, 320, .inl tt)), (am 18, .inl (cy 0, 320, .inl st)), (am 19, .inl (cy 0, 320, .inl nu)), (am 25, .inl (cy 0, 30, .inl mk)), (am 26, .inl (cy 0, 100, .inl qp)), (am 27, .inl (cy 0, 100, .inl qs)), (am 28, .inl (cy 0, 100, .inl qt)), (am 29, .inl (cy 0, 100, .inl qm)), (am 30, .inl (cy 0, 100, .inl qf)), (am 31, .inl (cy 0, 100, .inl ql)), (am 32, .inl (cy 2, 100, .inl qx)), (am 33, .inl (cy 2, 601, .inl f)), (am 34, .inl (cy 2, 601, .inl g))] → va_S A ss.heap H locs → ∀ (ls : Array Slot), lv_has ls 5 [(0, .ref (am 0)), (1, .int (nI p)), (2, .int (nI s)), (3, .int (nI k))] → W pp l ee { frames := 4, cells := 0, slots := 0, locals := 100 } ss mm (List.toArray [Value.ref (am 0), Value.int (nI p), Value.int (nI s)]) below meth cc0 H locs 0 0 Q (F0 mm 46 ls []) := by
          intro n9
          induction n9 with
          | zero => intro k f g b hm9; exact absurd hm9 (Nat.not_lt_zero _)
          | succ n9 ih46 =>
            intro k f g b hm46 hk9 hf1 hf2 hf3
            intro H locs hP hD hS
            intro ls hl
            have hqn := hq.1
            have hpn := hq.2.1
            have hs40 := hall.1
            refine lv_iload_n hx hb dX12_live_46 rfl (lv_at hl 3 rfl) ?_
            refine lv_aload_n hx hb dX12_live_47 rfl (lv_at hl 0 rfl) ?_
            refine va_get (D := (dC, dI)) (ci := 12) (v := .int (nI qn)) (C := RX12) (T := TX12) (N := 53) hx hb hts hiX12 hown hK hP 0 rfl rfl 20 (by decide) hL1 (fun _ h9 => h9) rfl dX12_live_48 ?_
            refine bw_icmp_ge (tgt := 193) (a := ((k : Nat) : Int)) (b := ((qn : Nat) : Int)) hx hb dX12_live_51 (by decide) (nI_toInt (by omega)) (nI_toInt (by omega)) (fun c_2 => ?_) (fun c_2 => ?_)
            · skip
              have e8 : k = qn := by omega
              have hu1 := hf1
              have hu2 := hf2
              have hu3 := hf3
              rw [e8] at hu1 hu2 hu3
              refine lv_aload_n hx hb dX12_live_193 rfl (lv_at hl 0 rfl) ?_
              refine lv_iconst (v := 0) hx hb dX12_live_194 (by decide) ?_
              refine va_put (D := (dC, dI)) (ci := 12) (v := .int 0) (ty := (tyX12 35)) (C := RX12) (T := TX12) (N := 53) hx hb hts hiX12 tyX12 tyX12_ok nmX12 hown hK hP hD hS 0 rfl rfl 35 (by decide) hL2 (fun _ h9 => h9) rfl (by decide +kernel) rfl rfl (Nat.le_of_ble_eq_true rfl) dX12_live_195 (fun H locs hP hD hS => ?_)
              have hP : va_P (dC, dI) vwCl [(am 0, .inr (12, [.ref (am 1), .ref (am 2), .ref (am 3), .ref (am 4), .int (nI tn), .int (nI zsz), .int (nI zfr), .int (nI zbe), .int zha, .int zva, .int fk, .int fp, .ref (am 13), .int (nI sn), .ref (am 15), .ref (am 16), .ref (am 17), .ref (am 18), .ref (am 19), .int (nI pn), .int (nI qn), .ref (am 22), .ref (am 23), .ref (am 24), .ref (am 25), .ref (am 26), .ref (am 27), .ref (am 28), .ref (am 29), .ref (am 30), .ref (am 31), .ref (am 32), .ref (am 33), .ref (am 34), .int b, .int 0, .int zpy, .int zfs, .int zls, .int (nI an), .ref (am 41), .ref (am 42), .ref (am 43), .ref (am 44), .ref (am 45), .ref (am 46), .ref (am 47), .ref (am 48), .ref (am 49), .ref (am 50), .int (nI zw), .ref (am 52), .ref (am 53)])), (am 15, .inl (cy 0, 40, .inl nb)), (am 16, .inl (cy 0, 320, .inl fr)), (am 17, .inl (cy 0, 320, .inl tt)), (am 18, .inl (cy 0, 320, .inl st)), (am 19, .inl (cy 0, 320, .inl nu)), (am 25, .inl (cy 0, 30, .inl mk)), (am 26, .inl (cy 0, 100, .inl qp)), (am 27, .inl (cy 0, 100, .inl qs)), (am 28, .inl (cy 0, 100, .inl qt)), (am 29, .inl (cy 0, 100, .inl qm)), (am 30, .inl (cy 0, 100, .inl qf)), (am 31, .inl (cy 0, 100, .inl ql)), (am 32, .inl (cy 2, 100, .inl qx)), (am 33, .inl (cy 2, 601, .inl f)), (am 34, .inl (cy 2, 601, .inl g))] H := hP
              have hD : va_D A [(am 0, .inr (12, [.ref (am 1), .ref (am 2), .ref (am 3), .ref (am 4), .int (nI tn), .int (nI zsz), .int (nI zfr), .int (nI zbe), .int zha, .int zva, .int fk, .int fp, .ref (am 13), .int (nI sn), .ref (am 15), .ref (am 16), .ref (am 17), .ref (am 18), .ref (am 19), .int (nI pn), .int (nI qn), .ref (am 22), .ref (am 23), .ref (am 24), .ref (am 25), .ref (am 26), .ref (am 27), .ref (am 28), .ref (am 29), .ref (am 30), .ref (am 31), .ref (am 32), .ref (am 33), .ref (am 34), .int b, .int 0, .int zpy, .int zfs, .int zls, .int (nI an), .ref (am 41), .ref (am 42), .ref (am 43), .ref (am 44), .ref (am 45), .ref (am 46), .ref (am 47), .ref (am 48), .ref (am 49), .ref (am 50), .int (nI zw), .ref (am 52), .ref (am 53)])), (am 15, .inl (cy 0, 40, .inl nb)), (am 16, .inl (cy 0, 320, .inl fr)), (am 17, .inl (cy 0, 320, .inl tt)), (am 18, .inl (cy 0, 320, .inl st)), (am 19, .inl (cy 0, 320, .inl nu)), (am 25, .inl (cy 0, 30, .inl mk)), (am 26, .inl (cy 0, 100, .inl qp)), (am 27, .inl (cy 0, 100, .inl qs)), (am 28, .inl (cy 0, 100, .inl qt)), (am 29, .inl (cy 0, 100, .inl qm)), (am 30, .inl (cy 0, 100, .inl qf)), (am 31, .inl (cy 0, 100, .inl ql)), (am 32, .inl (cy 2, 100, .inl qx)), (am 33, .inl (cy 2, 601, .inl f)), (am 34, .inl (cy 2, 601, .inl g))] := hD
              refine lv_aload_n hx hb dX12_live_198 rfl (lv_at hl 0 rfl) ?_
              refine lv_iconst (v := 0) hx hb dX12_live_199 (by decide) ?_
              refine va_put (D := (dC, dI)) (ci := 12) (v := .int 0) (ty := (tyX12 36)) (C := RX12) (T := TX12) (N := 53) hx hb hts hiX12 tyX12 tyX12_ok nmX12 hown hK hP hD hS 0 rfl rfl 36 (by decide) hL3 (fun _ h9 => h9) rfl (by decide +kernel) rfl rfl (Nat.le_of_ble_eq_true rfl) dX12_live_200 (fun H locs hP hD hS => ?_)
              have hP : va_P (dC, dI) vwCl [(am 0, .inr (12, [.ref (am 1), .ref (am 2), .ref (am 3), .ref (am 4), .int (nI tn), .int (nI zsz), .int (nI zfr), .int (nI zbe), .int zha, .int zva, .int fk, .int fp, .ref (am 13), .int (nI sn), .ref (am 15), .ref (am 16), .ref (am 17), .ref (am 18), .ref (am 19), .int (nI pn), .int (nI qn), .ref (am 22), .ref (am 23), .ref (am 24), .ref (am 25), .ref (am 26), .ref (am 27), .ref (am 28), .ref (am 29), .ref (am 30), .ref (am 31), .ref (am 32), .ref (am 33), .ref (am 34), .int b, .int 0, .int 0, .int zfs, .int zls, .int (nI an), .ref (am 41), .ref (am 42), .ref (am 43), .ref (am 44), .ref (am 45), .ref (am 46), .ref (am 47), .ref (am 48), .ref (am 49), .ref (am 50), .int (nI zw), .ref (am 52), .ref (am 53)])), (am 15, .inl (cy 0, 40, .inl nb)), (am 16, .inl (cy 0, 320, .inl fr)), (am 17, .inl (cy 0, 320, .inl tt)), (am 18, .inl (cy 0, 320, .inl st)), (am 19, .inl (cy 0, 320, .inl nu)), (am 25, .inl (cy 0, 30, .inl mk)), (am 26, .inl (cy 0, 100, .inl qp)), (am 27, .inl (cy 0, 100, .inl qs)), (am 28, .inl (cy 0, 100, .inl qt)), (am 29, .inl (cy 0, 100, .inl qm)), (am 30, .inl (cy 0, 100, .inl qf)), (am 31, .inl (cy 0, 100, .inl ql)), (am 32, .inl (cy 2, 100, .inl qx)), (am 33, .inl (cy 2, 601, .inl f)), (am 34, .inl (cy 2, 601, .inl g))] H := hP
              have hD : va_D A [(am 0, .inr (12, [.ref (am 1), .ref (am 2), .ref (am 3), .ref (am 4), .int (nI tn), .int (nI zsz), .int (nI zfr), .int (nI zbe), .int zha, .int zva, .int fk, .int fp, .ref (am 13), .int (nI sn), .ref (am 15), .ref (am 16), .ref (am 17), .ref (am 18), .ref (am 19), .int (nI pn), .int (nI qn), .ref (am 22), .ref (am 23), .ref (am 24), .ref (am 25), .ref (am 26), .ref (am 27), .ref (am 28), .ref (am 29), .ref (am 30), .ref (am 31), .ref (am 32), .ref (am 33), .ref (am 34), .int b, .int 0, .int 0, .int zfs, .int zls, .int (nI an), .ref (am 41), .ref (am 42), .ref (am 43), .ref (am 44), .ref (am 45), .ref (am 46), .ref (am 47), .ref (am 48), .ref (am 49), .ref (am 50), .int (nI zw), .ref (am 52), .ref (am 53)])), (am 15, .inl (cy 0, 40, .inl nb)), (am 16, .inl (cy 0, 320, .inl fr)), (am 17, .inl (cy 0, 320, .inl tt)), (am 18, .inl (cy 0, 320, .inl st)), (am 19, .inl (cy 0, 320, .inl nu)), (am 25, .inl (cy 0, 30, .inl mk)), (am 26, .inl (cy 0, 100, .inl qp)), (am 27, .inl (cy 0, 100, .inl qs)), (am 28, .inl (cy 0, 100, .inl qt)), (am 29, .inl (cy 0, 100, .inl qm)), (am 30, .inl (cy 0, 100, .inl qf)), (am 31, .inl (cy 0, 100, .inl ql)), (am 32, .inl (cy 2, 100, .inl qx)), (am 33, .inl (cy 2, 601, .inl f)), (am 34, .inl (cy 2, 601, .inl g))] := hD
              refine lv_aload_n hx hb dX12_live_203 rfl (lv_at hl 0 rfl) ?_
              refine lv_iconst (v := (-1)) hx hb dX12_live_204 (by decide) ?_
              refine va_put (D := (dC, dI)) (ci := 12) (v := .int (-1)) (ty := (tyX12 37)) (C := RX12) (T := TX12) (N := 53) hx hb hts hiX12 tyX12 tyX12_ok nmX12 hown hK hP hD hS 0 rfl rfl 37 (by decide) hL4 (fun _ h9 => h9) rfl (by decide +kernel) rfl rfl (Nat.le_of_ble_eq_true rfl) dX12_live_205 (fun H locs hP hD hS => ?_)
              have hP : va_P (dC, dI) vwCl [(am 0, .inr (12, [.ref (am 1), .ref (am 2), .ref (am 3), .ref (am 4), .int (nI tn), .int (nI zsz), .int (nI zfr), .int (nI zbe), .int zha, .int zva, .int fk, .int fp, .ref (am 13), .int (nI sn), .ref (am 15), .ref (am 16), .ref (am 17), .ref (am 18), .ref (am 19), .int (nI pn), .int (nI qn), .ref (am 22), .ref (am 23), .ref (am 24), .ref (am 25), .ref (am 26), .ref (am 27), .ref (am 28), .ref (am 29), .ref (am 30), .ref (am 31), .ref (am 32), .ref (am 33), .ref (am 34), .int b, .int 0, .int 0, .int (-1), .int zls, .int (nI an), .ref (am 41), .ref (am 42), .ref (am 43), .ref (am 44), .ref (am 45), .ref (am 46), .ref (am 47), .ref (am 48), .ref (am 49), .ref (am 50), .int (nI zw), .ref (am 52), .ref (am 53)])), (am 15, .inl (cy 0, 40, .inl nb)), (am 16, .inl (cy 0, 320, .inl fr)), (am 17, .inl (cy 0, 320, .inl tt)), (am 18, .inl (cy 0, 320, .inl st)), (am 19, .inl (cy 0, 320, .inl nu)), (am 25, .inl (cy 0, 30, .inl mk)), (am 26, .inl (cy 0, 100, .inl qp)), (am 27, .inl (cy 0, 100, .inl qs)), (am 28, .inl (cy 0, 100, .inl qt)), (am 29, .inl (cy 0, 100, .inl qm)), (am 30, .inl (cy 0, 100, .inl qf)), (am 31, .inl (cy 0, 100, .inl ql)), (am 32, .inl (cy 2, 100, .inl qx)), (am 33, .inl (cy 2, 601, .inl f)), (am 34, .inl (cy 2, 601, .inl g))] H := hP
              have hD : va_D A [(am 0, .inr (12, [.ref (am 1), .ref (am 2), .ref (am 3), .ref (am 4), .int (nI tn), .int (nI zsz), .int (nI zfr), .int (nI zbe), .int zha, .int zva, .int fk, .int fp, .ref (am 13), .int (nI sn), .ref (am 15), .ref (am 16), .ref (am 17), .ref (am 18), .ref (am 19), .int (nI pn), .int (nI qn), .ref (am 22), .ref (am 23), .ref (am 24), .ref (am 25), .ref (am 26), .ref (am 27), .ref (am 28), .ref (am 29), .ref (am 30), .ref (am 31), .ref (am 32), .ref (am 33), .ref (am 34), .int b, .int 0, .int 0, .int (-1), .int zls, .int (nI an), .ref (am 41), .ref (am 42), .ref (am 43), .ref (am 44), .ref (am 45), .ref (am 46), .ref (am 47), .ref (am 48), .ref (am 49), .ref (am 50), .int (nI zw), .ref (am 52), .ref (am 53)])), (am 15, .inl (cy 0, 40, .inl nb)), (am 16, .inl (cy 0, 320, .inl fr)), (am 17, .inl (cy 0, 320, .inl tt)), (am 18, .inl (cy 0, 320, .inl st)), (am 19, .inl (cy 0, 320, .inl nu)), (am 25, .inl (cy 0, 30, .inl mk)), (am 26, .inl (cy 0, 100, .inl qp)), (am 27, .inl (cy 0, 100, .inl qs)), (am 28, .inl (cy 0, 100, .inl qt)), (am 29, .inl (cy 0, 100, .inl qm)), (am 30, .inl (cy 0, 100, .inl qf)), (am 31, .inl (cy 0, 100, .inl ql)), (am 32, .inl (cy 2, 100, .inl qx)), (am 33, .inl (cy 2, 601, .inl f)), (am 34, .inl (cy 2, 601, .inl g))] := hD
              refine lv_aload_n hx hb dX12_live_208 rfl (lv_at hl 0 rfl) ?_
              refine lv_iconst (v := (-1)) hx hb dX12_live_209 (by decide) ?_
              refine va_put (D := (dC, dI)) (ci := 12) (v := .int (-1)) (ty := (tyX12 38)) (C := RX12) (T := TX12) (N := 53) hx hb hts hiX12 tyX12 tyX12_ok nmX12 hown hK hP hD hS 0 rfl rfl 38 (by decide) hL5 (fun _ h9 => h9) rfl (by decide +kernel) rfl rfl (Nat.le_of_ble_eq_true rfl) dX12_live_210 (fun H locs hP hD hS => ?_)
              have hP : va_P (dC, dI) vwCl [(am 0, .inr (12, [.ref (am 1), .ref (am 2), .ref (am 3), .ref (am 4), .int (nI tn), .int (nI zsz), .int (nI zfr), .int (nI zbe), .int zha, .int zva, .int fk, .int fp, .ref (am 13), .int (nI sn), .ref (am 15), .ref (am 16), .ref (am 17), .ref (am 18), .ref (am 19), .int (nI pn), .int (nI qn), .ref (am 22), .ref (am 23), .ref (am 24), .ref (am 25), .ref (am 26), .ref (am 27), .ref (am 28), .ref (am 29), .ref (am 30), .ref (am 31), .ref (am 32), .ref (am 33), .ref (am 34), .int b, .int 0, .int 0, .int (-1), .int (-1), .int (nI an), .ref (am 41), .ref (am 42), .ref (am 43), .ref (am 44), .ref (am 45), .ref (am 46), .ref (am 47), .ref (am 48), .ref (am 49), .ref (am 50), .int (nI zw), .ref (am 52), .ref (am 53)])), (am 15, .inl (cy 0, 40, .inl nb)), (am 16, .inl (cy 0, 320, .inl fr)), (am 17, .inl (cy 0, 320, .inl tt)), (am 18, .inl (cy 0, 320, .inl st)), (am 19, .inl (cy 0, 320, .inl nu)), (am 25, .inl (cy 0, 30, .inl mk)), (am 26, .inl (cy 0, 100, .inl qp)), (am 27, .inl (cy 0, 100, .inl qs)), (am 28, .inl (cy 0, 100, .inl qt)), (am 29, .inl (cy 0, 100, .inl qm)), (am 30, .inl (cy 0, 100, .inl qf)), (am 31, .inl (cy 0, 100, .inl ql)), (am 32, .inl (cy 2, 100, .inl qx)), (am 33, .inl (cy 2, 601, .inl f)), (am 34, .inl (cy 2, 601, .inl g))] H := hP
              have hD : va_D A [(am 0, .inr (12, [.ref (am 1), .ref (am 2), .ref (am 3), .ref (am 4), .int (nI tn), .int (nI zsz), .int (nI zfr), .int (nI zbe), .int zha, .int zva, .int fk, .int fp, .ref (am 13), .int (nI sn), .ref (am 15), .ref (am 16), .ref (am 17), .ref (am 18), .ref (am 19), .int (nI pn), .int (nI qn), .ref (am 22), .ref (am 23), .ref (am 24), .ref (am 25), .ref (am 26), .ref (am 27), .ref (am 28), .ref (am 29), .ref (am 30), .ref (am 31), .ref (am 32), .ref (am 33), .ref (am 34), .int b, .int 0, .int 0, .int (-1), .int (-1), .int (nI an), .ref (am 41), .ref (am 42), .ref (am 43), .ref (am 44), .ref (am 45), .ref (am 46), .ref (am 47), .ref (am 48), .ref (am 49), .ref (am 50), .int (nI zw), .ref (am 52), .ref (am 53)])), (am 15, .inl (cy 0, 40, .inl nb)), (am 16, .inl (cy 0, 320, .inl fr)), (am 17, .inl (cy 0, 320, .inl tt)), (am 18, .inl (cy 0, 320, .inl st)), (am 19, .inl (cy 0, 320, .inl nu)), (am 25, .inl (cy 0, 30, .inl mk)), (am 26, .inl (cy 0, 100, .inl qp)), (am 27, .inl (cy 0, 100, .inl qs)), (am 28, .inl (cy 0, 100, .inl qt)), (am 29, .inl (cy 0, 100, .inl qm)), (am 30, .inl (cy 0, 100, .inl qf)), (am 31, .inl (cy 0, 100, .inl ql)), (am 32, .inl (cy 2, 100, .inl qx)), (am 33, .inl (cy 2, 601, .inl f)), (am 34, .inl (cy 2, 601, .inl g))] := hD
              refine lv_sipush (v := 1500) hx hb dX12_live_213 (by decide) ?_
              refine lv_istore_n (lv' := [(3, .int 1500), (0, .ref (am 0)), (1, .int (nI p)), (2, .int (nI s))]) hx hb dX12_live_216 rfl hl (by decide) rfl (fun ls hl => ?_)
              have L_217 : ∀ (n9 : Nat), ∀ (y : Nat) (n1 : Nat) (n2 : Nat) (a1 : Int32) (a2 : Int32), (2101 - y) < n9 → (1500 ≤ y) → (y ≤ 2101) → (n1 = fb_ct (lvB (liv qp qt qm qf ql qx mk (fun t9 m9 y9 => sOnly nb fr tt st nu sn s t9 m9 y9) qn p)) (y - 1500)) → (n2 = fb_ct (lvB (liv qp qt qm qf ql qx mk (fun t9 m9 y9 => sPos nb fr tt st nu s t9 m9 y9) qn p)) (y - 1500)) → (fstTo (lvB (liv qp qt qm qf ql qx mk (fun t9 m9 y9 => sOnly nb fr tt st nu sn s t9 m9 y9) qn p)) (y - 1500) a1) → (lstTo (lvB (liv qp qt qm qf ql qx mk (fun t9 m9 y9 => sOnly nb fr tt st nu sn s t9 m9 y9) qn p)) (y - 1500) a2) → ∀ (H : Heap) (locs : List Loc), va_P (dC, dI) vwCl [(am 0, .inr (12, [.ref (am 1), .ref (am 2), .ref (am 3), .ref (am 4), .int (nI tn), .int (nI zsz), .int (nI zfr), .int (nI zbe), .int zha, .int zva, .int fk, .int fp, .ref (am 13), .int (nI sn), .ref (am 15), .ref (am 16), .ref (am 17), .ref (am 18), .ref (am 19), .int (nI pn), .int (nI qn), .ref (am 22), .ref (am 23), .ref (am 24), .ref (am 25), .ref (am 26), .ref (am 27), .ref (am 28), .ref (am 29), .ref (am 30), .ref (am 31), .ref (am 32), .ref (am 33), .ref (am 34), .int b, .int (nI n1), .int (nI n2), .int a1, .int a2, .int (nI an), .ref (am 41), .ref (am 42), .ref (am 43), .ref (am 44), .ref (am 45), .ref (am 46), .ref (am 47), .ref (am 48), .ref (am 49), .ref (am 50), .int (nI zw), .ref (am 52), .ref (am 53)])), (am 15, .inl (cy 0, 40, .inl nb)), (am 16, .inl (cy 0, 320, .inl fr)), (am 17, .inl (cy 0, 320, .inl tt)), (am 18, .inl (cy 0, 320, .inl st)), (am 19, .inl (cy 0, 320, .inl nu)), (am 25, .inl (cy 0, 30, .inl mk)), (am 26, .inl (cy 0, 100, .inl qp)), (am 27, .inl (cy 0, 100, .inl qs)), (am 28, .inl (cy 0, 100, .inl qt)), (am 29, .inl (cy 0, 100, .inl qm)), (am 30, .inl (cy 0, 100, .inl qf)), (am 31, .inl (cy 0, 100, .inl ql)), (am 32, .inl (cy 2, 100, .inl qx)), (am 33, .inl (cy 2, 601, .inl f)), (am 34, .inl (cy 2, 601, .inl g))] H → va_D A [(am 0, .inr (12, [.ref (am 1), .ref (am 2), .ref (am 3), .ref (am 4), .int (nI tn), .int (nI zsz), .int (nI zfr), .int (nI zbe), .int zha, .int zva, .int fk, .int fp, .ref (am 13), .int (nI sn), .ref (am 15), .ref (am 16), .ref (am 17), .ref (am 18), .ref (am 19), .int (nI pn), .int (nI qn), .ref (am 22), .ref (am 23), .ref (am 24), .ref (am 25), .ref (am 26), .ref (am 27), .ref (am 28), .ref (am 29), .ref (am 30), .ref (am 31), .ref (am 32), .ref (am 33), .ref (am 34), .int b, .int (nI n1), .int (nI n2), .int a1, .int a2, .int (nI an), .ref (am 41), .ref (am 42), .ref (am 43), .ref (am 44), .ref (am 45), .ref (am 46), .ref (am 47), .ref (am 48), .ref (am 49), .ref (am 50), .int (nI zw), .ref (am 52), .ref (am 53)])), (am 15, .inl (cy 0, 40, .inl nb)), (am 16, .inl (cy 0, 320, .inl fr)), (am 17, .inl (cy 0, 320, .inl tt)), (am 18, .inl (cy 0, 320, .inl st)), (am 19, .inl (cy 0, 320, .inl nu)), (am 25, .inl (cy 0, 30, .inl mk)), (am 26, .inl (cy 0, 100, .inl qp)), (am 27, .inl (cy 0, 100, .inl qs)), (am 28, .inl (cy 0, 100, .inl qt)), (am 29, .inl (cy 0, 100, .inl qm)), (am 30, .inl (cy 0, 100, .inl qf)), (am 31, .inl (cy 0, 100, .inl ql)), (am 32, .inl (cy 2, 100, .inl qx)), (am 33, .inl (cy 2, 601, .inl f)), (am 34, .inl (cy 2, 601, .inl g))] → va_S A ss.heap H locs → ∀ (ls : Array Slot), lv_has ls 5 [(0, .ref (am 0)), (1, .int (nI p)), (2, .int (nI s)), (3, .int (nI y))] → W pp l ee { frames := 4, cells := 0, slots := 0, locals := 100 } ss mm (List.toArray [Value.ref (am 0), Value.int (nI p), Value.int (nI s)]) below meth cc0 H locs 0 0 Q (F0 mm 217 ls []) := by
                intro n9
                induction n9 with
                | zero => intro y n1 n2 a1 a2 hm9; exact absurd hm9 (Nat.not_lt_zero _)
                | succ n9 ih217 =>
                  intro y n1 n2 a1 a2 hm217 hy1 hy2 hn1 hn2 ha1 ha2
                  intro H locs hP hD hS
                  intro ls hl
                  have hle1 := fb_ct_le (lvB (liv qp qt qm qf ql qx mk (fun t9 m9 y9 => sOnly nb fr tt st nu sn s t9 m9 y9) qn p)) (y - 1500)
                  have hle2 := fb_ct_le (lvB (liv qp qt qm qf ql qx mk (fun t9 m9 y9 => sPos nb fr tt st nu s t9 m9 y9) qn p)) (y - 1500)
                  have hys : y + 1 - 1500 = (y - 1500) + 1 := by omega
                  refine lv_iload_n hx hb dX12_live_217 rfl (lv_at hl 3 rfl) ?_
                  refine lv_sipush (v := 2100) hx hb dX12_live_218 (by decide) ?_
                  refine bw_icmp_gt (tgt := 301) (a := ((y : Nat) : Int)) (b := 2100) hx hb dX12_live_221 (by decide) (nI_toInt (by omega)) rfl (fun c_3 => ?_) (fun c_3 => ?_)
                  · skip
                    refine bw_Qe hQ ?_
                    have hP9 : va_P (dC, dI) vwCl [(am 0, .inr (12, [.ref (am 1), .ref (am 2), .ref (am 3), .ref (am 4), .int (nI tn), .int (nI zsz), .int (nI zfr), .int (nI zbe), .int zha, .int zva, .int fk, .int fp, .ref (am 13), .int (nI sn), .ref (am 15), .ref (am 16), .ref (am 17), .ref (am 18), .ref (am 19), .int (nI pn), .int (nI qn), .ref (am 22), .ref (am 23), .ref (am 24), .ref (am 25), .ref (am 26), .ref (am 27), .ref (am 28), .ref (am 29), .ref (am 30), .ref (am 31), .ref (am 32), .ref (am 33), .ref (am 34), .int b, .int (nI n1), .int (nI n2), .int a1, .int a2, .int (nI an), .ref (am 41), .ref (am 42), .ref (am 43), .ref (am 44), .ref (am 45), .ref (am 46), .ref (am 47), .ref (am 48), .ref (am 49), .ref (am 50), .int (nI zw), .ref (am 52), .ref (am 53)])), (am 15, .inl (cy 0, 40, .inl nb)), (am 16, .inl (cy 0, 320, .inl fr)), (am 17, .inl (cy 0, 320, .inl tt)), (am 18, .inl (cy 0, 320, .inl st)), (am 19, .inl (cy 0, 320, .inl nu)), (am 25, .inl (cy 0, 30, .inl mk)), (am 26, .inl (cy 0, 100, .inl qp)), (am 27, .inl (cy 0, 100, .inl qs)), (am 28, .inl (cy 0, 100, .inl qt)), (am 29, .inl (cy 0, 100, .inl qm)), (am 30, .inl (cy 0, 100, .inl qf)), (am 31, .inl (cy 0, 100, .inl ql)), (am 32, .inl (cy 2, 100, .inl qx)), (am 33, .inl (cy 2, 601, .inl f)), (am 34, .inl (cy 2, 601, .inl g))] H := hP.sub [0, 1, 2, 3, 4, 5, 6, 7, 8, 9, 10, 11, 12, 13, 14, 15] rfl
                    have hD9 : va_D A [(am 0, .inr (12, [.ref (am 1), .ref (am 2), .ref (am 3), .ref (am 4), .int (nI tn), .int (nI zsz), .int (nI zfr), .int (nI zbe), .int zha, .int zva, .int fk, .int fp, .ref (am 13), .int (nI sn), .ref (am 15), .ref (am 16), .ref (am 17), .ref (am 18), .ref (am 19), .int (nI pn), .int (nI qn), .ref (am 22), .ref (am 23), .ref (am 24), .ref (am 25), .ref (am 26), .ref (am 27), .ref (am 28), .ref (am 29), .ref (am 30), .ref (am 31), .ref (am 32), .ref (am 33), .ref (am 34), .int b, .int (nI n1), .int (nI n2), .int a1, .int a2, .int (nI an), .ref (am 41), .ref (am 42), .ref (am 43), .ref (am 44), .ref (am 45), .ref (am 46), .ref (am 47), .ref (am 48), .ref (am 49), .ref (am 50), .int (nI zw), .ref (am 52), .ref (am 53)])), (am 15, .inl (cy 0, 40, .inl nb)), (am 16, .inl (cy 0, 320, .inl fr)), (am 17, .inl (cy 0, 320, .inl tt)), (am 18, .inl (cy 0, 320, .inl st)), (am 19, .inl (cy 0, 320, .inl nu)), (am 25, .inl (cy 0, 30, .inl mk)), (am 26, .inl (cy 0, 100, .inl qp)), (am 27, .inl (cy 0, 100, .inl qs)), (am 28, .inl (cy 0, 100, .inl qt)), (am 29, .inl (cy 0, 100, .inl qm)), (am 30, .inl (cy 0, 100, .inl qf)), (am 31, .inl (cy 0, 100, .inl ql)), (am 32, .inl (cy 2, 100, .inl qx)), (am 33, .inl (cy 2, 601, .inl f)), (am 34, .inl (cy 2, 601, .inl g))] := hD.sub [0, 1, 2, 3, 4, 5, 6, 7, 8, 9, 10, 11, 12, 13, 14, 15] (by decide) rfl
                    have hpost : lvPost (lvB (liv qp qt qm qf ql qx mk (fun t9 m9 y9 => sOnly nb fr tt st nu sn s t9 m9 y9) qn p)) (lvB (liv qp qt qm qf ql qx mk (fun t9 m9 y9 => sPos nb fr tt st nu s t9 m9 y9) qn p)) (fun j9 => pB (src qp qs qt qm qf ql qx mk (fun t9 m9 y9 => sOnly nb fr tt st nu sn s t9 m9 y9) qn p j9)) b (nI n1) (nI n2) a1 a2 f := by
                      exact lvPost_of (by omega) hn1 hn2 ha1 ha2 hu3 hu1
                    exact W.vret hx hb hr (fun t9 ht hW => ⟨⟨(b, nI n1, nI n2, a1, a2, f, g), rfl, hpost, by rw [ht]; exact hP9, va_K.moved hW.alike hK, hD9⟩, hS.F ht⟩) hS.2.2 dX12_live_301
                  · skip
                    refine lv_aload_n hx hb dX12_live_224 rfl (lv_at hl 0 rfl) ?_
                    refine lv_dup hx hb dX12_live_225 rfl ?_
                    refine va_get (D := (dC, dI)) (ci := 12) (v := .int (nI n2)) (C := RX12) (T := TX12) (N := 53) hx hb hts hiX12 hown hK hP 0 rfl rfl 36 (by decide) hL3 (fun _ h9 => h9) rfl dX12_live_226 ?_
                    refine lv_aload_n hx hb dX12_live_229 rfl (lv_at hl 0 rfl) ?_
                    refine va_get (D := (dC, dI)) (ci := 12) (v := .ref (am 34)) (C := RX12) (T := TX12) (N := 53) hx hb hts hiX12 hown hK hP 0 rfl rfl 33 (by decide) hL6 (fun _ h9 => h9) rfl dX12_live_230 ?_
                    refine lv_iload_n hx hb dX12_live_233 rfl (lv_at hl 3 rfl) ?_
                    refine lv_sipush (v := 1500) hx hb dX12_live_234 (by decide) ?_
                    refine lv_isub hx hb dX12_live_237 ?_
                    refine bw_re (show (nI y) - 1500 = nI (y - 1500) from pk_sub (a := y) (b := 1500) (by omega)) ?_
                    refine bw_zald hx hb hK hP 15 2 rfl rfl (j := (y - 1500)) (nI_toInt (by omega)) (by omega) dX12_live_238 ?_
                    refine bw_if_eq (tgt := 246) (a := (g (y - 1500)).toInt) hx hb dX12_live_239 (by decide) rfl (fun c_m => ?_) (fun c_m => ?_)
                    · skip
                      refine lv_iconst (v := 0) hx hb dX12_live_246 (by decide) ?_
                      refine lv_iadd hx hb dX12_live_247 ?_
                      refine bw_re (show (nI n2) + 0 = nI (n2 + 0) from nI_add (n2) (0)) ?_
                      refine va_put (D := (dC, dI)) (ci := 12) (v := .int (nI (n2 + 0))) (ty := (tyX12 36)) (C := RX12) (T := TX12) (N := 53) hx hb hts hiX12 tyX12 tyX12_ok nmX12 hown hK hP hD hS 0 rfl rfl 36 (by decide) hL3 (fun _ h9 => h9) rfl (by decide +kernel) rfl rfl (Nat.le_of_ble_eq_true rfl) dX12_live_248 (fun H locs hP hD hS => ?_)
                      have hP : va_P (dC, dI) vwCl [(am 0, .inr (12, [.ref (am 1), .ref (am 2), .ref (am 3), .ref (am 4), .int (nI tn), .int (nI zsz), .int (nI zfr), .int (nI zbe), .int zha, .int zva, .int fk, .int fp, .ref (am 13), .int (nI sn), .ref (am 15), .ref (am 16), .ref (am 17), .ref (am 18), .ref (am 19), .int (nI pn), .int (nI qn), .ref (am 22), .ref (am 23), .ref (am 24), .ref (am 25), .ref (am 26), .ref (am 27), .ref (am 28), .ref (am 29), .ref (am 30), .ref (am 31), .ref (am 32), .ref (am 33), .ref (am 34), .int b, .int (nI n1), .int (nI (n2 + 0)), .int a1, .int a2, .int (nI an), .ref (am 41), .ref (am 42), .ref (am 43), .ref (am 44), .ref (am 45), .ref (am 46), .ref (am 47), .ref (am 48), .ref (am 49), .ref (am 50), .int (nI zw), .ref (am 52), .ref (am 53)])), (am 15, .inl (cy 0, 40, .inl nb)), (am 16, .inl (cy 0, 320, .inl fr)), (am 17, .inl (cy 0, 320, .inl tt)), (am 18, .inl (cy 0, 320, .inl st)), (am 19, .inl (cy 0, 320, .inl nu)), (am 25, .inl (cy 0, 30, .inl mk)), (am 26, .inl (cy 0, 100, .inl qp)), (am 27, .inl (cy 0, 100, .inl qs)), (am 28, .inl (cy 0, 100, .inl qt)), (am 29, .inl (cy 0, 100, .inl qm)), (am 30, .inl (cy 0, 100, .inl qf)), (am 31, .inl (cy 0, 100, .inl ql)), (am 32, .inl (cy 2, 100, .inl qx)), (am 33, .inl (cy 2, 601, .inl f)), (am 34, .inl (cy 2, 601, .inl g))] H := hP
                      have hD : va_D A [(am 0, .inr (12, [.ref (am 1), .ref (am 2), .ref (am 3), .ref (am 4), .int (nI tn), .int (nI zsz), .int (nI zfr), .int (nI zbe), .int zha, .int zva, .int fk, .int fp, .ref (am 13), .int (nI sn), .ref (am 15), .ref (am 16), .ref (am 17), .ref (am 18), .ref (am 19), .int (nI pn), .int (nI qn), .ref (am 22), .ref (am 23), .ref (am 24), .ref (am 25), .ref (am 26), .ref (am 27), .ref (am 28), .ref (am 29), .ref (am 30), .ref (am 31), .ref (am 32), .ref (am 33), .ref (am 34), .int b, .int (nI n1), .int (nI (n2 + 0)), .int a1, .int a2, .int (nI an), .ref (am 41), .ref (am 42), .ref (am 43), .ref (am 44), .ref (am 45), .ref (am 46), .ref (am 47), .ref (am 48), .ref (am 49), .ref (am 50), .int (nI zw), .ref (am 52), .ref (am 53)])), (am 15, .inl (cy 0, 40, .inl nb)), (am 16, .inl (cy 0, 320, .inl fr)), (am 17, .inl (cy 0, 320, .inl tt)), (am 18, .inl (cy 0, 320, .inl st)), (am 19, .inl (cy 0, 320, .inl nu)), (am 25, .inl (cy 0, 30, .inl mk)), (am 26, .inl (cy 0, 100, .inl qp)), (am 27, .inl (cy 0, 100, .inl qs)), (am 28, .inl (cy 0, 100, .inl qt)), (am 29, .inl (cy 0, 100, .inl qm)), (am 30, .inl (cy 0, 100, .inl qf)), (am 31, .inl (cy 0, 100, .inl ql)), (am 32, .inl (cy 2, 100, .inl qx)), (am 33, .inl (cy 2, 601, .inl f)), (am 34, .inl (cy 2, 601, .inl g))] := hD
                      refine lv_aload_n hx hb dX12_live_251 rfl (lv_at hl 0 rfl) ?_
                      refine va_get (D := (dC, dI)) (ci := 12) (v := .ref (am 33)) (C := RX12) (T := TX12) (N := 53) hx hb hts hiX12 hown hK hP 0 rfl rfl 32 (by decide) hL7 (fun _ h9 => h9) rfl dX12_live_252 ?_
                      refine lv_iload_n hx hb dX12_live_255 rfl (lv_at hl 3 rfl) ?_
                      refine lv_sipush (v := 1500) hx hb dX12_live_256 (by decide) ?_
                      refine lv_isub hx hb dX12_live_259 ?_
                      refine bw_re (show (nI y) - 1500 = nI (y - 1500) from pk_sub (a := y) (b := 1500) (by omega)) ?_
                      refine bw_zald hx hb hK hP 14 2 rfl rfl (j := (y - 1500)) (nI_toInt (by omega)) (by omega) dX12_live_260 ?_
                      refine bw_if_ne (tgt := 267) (a := (f (y - 1500)).toInt) hx hb dX12_live_261 (by decide) rfl (fun c_y => ?_) (fun c_y => ?_)
                      · skip
                        refine lv_aload_n hx hb dX12_live_267 rfl (lv_at hl 0 rfl) ?_
                        refine lv_dup hx hb dX12_live_268 rfl ?_
                        refine va_get (D := (dC, dI)) (ci := 12) (v := .int (nI n1)) (C := RX12) (T := TX12) (N := 53) hx hb hts hiX12 hown hK hP 0 rfl rfl 35 (by decide) hL2 (fun _ h9 => h9) rfl dX12_live_269 ?_
                        refine lv_iconst (v := 1) hx hb dX12_live_272 (by decide) ?_
                        refine lv_iadd hx hb dX12_live_273 ?_
                        refine bw_re (show (nI n1) + 1 = nI (n1 + 1) from nI_add (n1) (1)) ?_
                        refine va_put (D := (dC, dI)) (ci := 12) (v := .int (nI (n1 + 1))) (ty := (tyX12 35)) (C := RX12) (T := TX12) (N := 53) hx hb hts hiX12 tyX12 tyX12_ok nmX12 hown hK hP hD hS 0 rfl rfl 35 (by decide) hL2 (fun _ h9 => h9) rfl (by decide +kernel) rfl rfl (Nat.le_of_ble_eq_true rfl) dX12_live_274 (fun H locs hP hD hS => ?_)
                        have hP : va_P (dC, dI) vwCl [(am 0, .inr (12, [.ref (am 1), .ref (am 2), .ref (am 3), .ref (am 4), .int (nI tn), .int (nI zsz), .int (nI zfr), .int (nI zbe), .int zha, .int zva, .int fk, .int fp, .ref (am 13), .int (nI sn), .ref (am 15), .ref (am 16), .ref (am 17), .ref (am 18), .ref (am 19), .int (nI pn), .int (nI qn), .ref (am 22), .ref (am 23), .ref (am 24), .ref (am 25), .ref (am 26), .ref (am 27), .ref (am 28), .ref (am 29), .ref (am 30), .ref (am 31), .ref (am 32), .ref (am 33), .ref (am 34), .int b, .int (nI (n1 + 1)), .int (nI (n2 + 0)), .int a1, .int a2, .int (nI an), .ref (am 41), .ref (am 42), .ref (am 43), .ref (am 44), .ref (am 45), .ref (am 46), .ref (am 47), .ref (am 48), .ref (am 49), .ref (am 50), .int (nI zw), .ref (am 52), .ref (am 53)])), (am 15, .inl (cy 0, 40, .inl nb)), (am 16, .inl (cy 0, 320, .inl fr)), (am 17, .inl (cy 0, 320, .inl tt)), (am 18, .inl (cy 0, 320, .inl st)), (am 19, .inl (cy 0, 320, .inl nu)), (am 25, .inl (cy 0, 30, .inl mk)), (am 26, .inl (cy 0, 100, .inl qp)), (am 27, .inl (cy 0, 100, .inl qs)), (am 28, .inl (cy 0, 100, .inl qt)), (am 29, .inl (cy 0, 100, .inl qm)), (am 30, .inl (cy 0, 100, .inl qf)), (am 31, .inl (cy 0, 100, .inl ql)), (am 32, .inl (cy 2, 100, .inl qx)), (am 33, .inl (cy 2, 601, .inl f)), (am 34, .inl (cy 2, 601, .inl g))] H := hP
                        have hD : va_D A [(am 0, .inr (12, [.ref (am 1), .ref (am 2), .ref (am 3), .ref (am 4), .int (nI tn), .int (nI zsz), .int (nI zfr), .int (nI zbe), .int zha, .int zva, .int fk, .int fp, .ref (am 13), .int (nI sn), .ref (am 15), .ref (am 16), .ref (am 17), .ref (am 18), .ref (am 19), .int (nI pn), .int (nI qn), .ref (am 22), .ref (am 23), .ref (am 24), .ref (am 25), .ref (am 26), .ref (am 27), .ref (am 28), .ref (am 29), .ref (am 30), .ref (am 31), .ref (am 32), .ref (am 33), .ref (am 34), .int b, .int (nI (n1 + 1)), .int (nI (n2 + 0)), .int a1, .int a2, .int (nI an), .ref (am 41), .ref (am 42), .ref (am 43), .ref (am 44), .ref (am 45), .ref (am 46), .ref (am 47), .ref (am 48), .ref (am 49), .ref (am 50), .int (nI zw), .ref (am 52), .ref (am 53)])), (am 15, .inl (cy 0, 40, .inl nb)), (am 16, .inl (cy 0, 320, .inl fr)), (am 17, .inl (cy 0, 320, .inl tt)), (am 18, .inl (cy 0, 320, .inl st)), (am 19, .inl (cy 0, 320, .inl nu)), (am 25, .inl (cy 0, 30, .inl mk)), (am 26, .inl (cy 0, 100, .inl qp)), (am 27, .inl (cy 0, 100, .inl qs)), (am 28, .inl (cy 0, 100, .inl qt)), (am 29, .inl (cy 0, 100, .inl qm)), (am 30, .inl (cy 0, 100, .inl qf)), (am 31, .inl (cy 0, 100, .inl ql)), (am 32, .inl (cy 2, 100, .inl qx)), (am 33, .inl (cy 2, 601, .inl f)), (am 34, .inl (cy 2, 601, .inl g))] := hD
                        refine lv_aload_n hx hb dX12_live_277 rfl (lv_at hl 0 rfl) ?_
                        refine lv_iload_n hx hb dX12_live_278 rfl (lv_at hl 3 rfl) ?_
                        refine va_put (D := (dC, dI)) (ci := 12) (v := .int (nI y)) (ty := (tyX12 38)) (C := RX12) (T := TX12) (N := 53) hx hb hts hiX12 tyX12 tyX12_ok nmX12 hown hK hP hD hS 0 rfl rfl 38 (by decide) hL5 (fun _ h9 => h9) rfl (by decide +kernel) rfl rfl (Nat.le_of_ble_eq_true rfl) dX12_live_279 (fun H locs hP hD hS => ?_)
                        have hP : va_P (dC, dI) vwCl [(am 0, .inr (12, [.ref (am 1), .ref (am 2), .ref (am 3), .ref (am 4), .int (nI tn), .int (nI zsz), .int (nI zfr), .int (nI zbe), .int zha, .int zva, .int fk, .int fp, .ref (am 13), .int (nI sn), .ref (am 15), .ref (am 16), .ref (am 17), .ref (am 18), .ref (am 19), .int (nI pn), .int (nI qn), .ref (am 22), .ref (am 23), .ref (am 24), .ref (am 25), .ref (am 26), .ref (am 27), .ref (am 28), .ref (am 29), .ref (am 30), .ref (am 31), .ref (am 32), .ref (am 33), .ref (am 34), .int b, .int (nI (n1 + 1)), .int (nI (n2 + 0)), .int a1, .int (nI y), .int (nI an), .ref (am 41), .ref (am 42), .ref (am 43), .ref (am 44), .ref (am 45), .ref (am 46), .ref (am 47), .ref (am 48), .ref (am 49), .ref (am 50), .int (nI zw), .ref (am 52), .ref (am 53)])), (am 15, .inl (cy 0, 40, .inl nb)), (am 16, .inl (cy 0, 320, .inl fr)), (am 17, .inl (cy 0, 320, .inl tt)), (am 18, .inl (cy 0, 320, .inl st)), (am 19, .inl (cy 0, 320, .inl nu)), (am 25, .inl (cy 0, 30, .inl mk)), (am 26, .inl (cy 0, 100, .inl qp)), (am 27, .inl (cy 0, 100, .inl qs)), (am 28, .inl (cy 0, 100, .inl qt)), (am 29, .inl (cy 0, 100, .inl qm)), (am 30, .inl (cy 0, 100, .inl qf)), (am 31, .inl (cy 0, 100, .inl ql)), (am 32, .inl (cy 2, 100, .inl qx)), (am 33, .inl (cy 2, 601, .inl f)), (am 34, .inl (cy 2, 601, .inl g))] H := hP
                        have hD : va_D A [(am 0, .inr (12, [.ref (am 1), .ref (am 2), .ref (am 3), .ref (am 4), .int (nI tn), .int (nI zsz), .int (nI zfr), .int (nI zbe), .int zha, .int zva, .int fk, .int fp, .ref (am 13), .int (nI sn), .ref (am 15), .ref (am 16), .ref (am 17), .ref (am 18), .ref (am 19), .int (nI pn), .int (nI qn), .ref (am 22), .ref (am 23), .ref (am 24), .ref (am 25), .ref (am 26), .ref (am 27), .ref (am 28), .ref (am 29), .ref (am 30), .ref (am 31), .ref (am 32), .ref (am 33), .ref (am 34), .int b, .int (nI (n1 + 1)), .int (nI (n2 + 0)), .int a1, .int (nI y), .int (nI an), .ref (am 41), .ref (am 42), .ref (am 43), .ref (am 44), .ref (am 45), .ref (am 46), .ref (am 47), .ref (am 48), .ref (am 49), .ref (am 50), .int (nI zw), .ref (am 52), .ref (am 53)])), (am 15, .inl (cy 0, 40, .inl nb)), (am 16, .inl (cy 0, 320, .inl fr)), (am 17, .inl (cy 0, 320, .inl tt)), (am 18, .inl (cy 0, 320, .inl st)), (am 19, .inl (cy 0, 320, .inl nu)), (am 25, .inl (cy 0, 30, .inl mk)), (am 26, .inl (cy 0, 100, .inl qp)), (am 27, .inl (cy 0, 100, .inl qs)), (am 28, .inl (cy 0, 100, .inl qt)), (am 29, .inl (cy 0, 100, .inl qm)), (am 30, .inl (cy 0, 100, .inl qf)), (am 31, .inl (cy 0, 100, .inl ql)), (am 32, .inl (cy 2, 100, .inl qx)), (am 33, .inl (cy 2, 601, .inl f)), (am 34, .inl (cy 2, 601, .inl g))] := hD
                        refine lv_aload_n hx hb dX12_live_282 rfl (lv_at hl 0 rfl) ?_
                        refine va_get (D := (dC, dI)) (ci := 12) (v := .int a1) (C := RX12) (T := TX12) (N := 53) hx hb hts hiX12 hown hK hP 0 rfl rfl 37 (by decide) hL4 (fun _ h9 => h9) rfl dX12_live_283 ?_
                        refine lv_iconst (v := (-1)) hx hb dX12_live_286 (by decide) ?_
                        refine bw_icmp_ne (tgt := 295) (a := a1.toInt) (b := (-1)) hx hb dX12_live_287 (by decide) rfl rfl (fun c_f => ?_) (fun c_f => ?_)
                        · skip
                          refine lv_iinc (v := nI (y + 1)) (lv' := [(3, .int (nI (y + 1))), (0, .ref (am 0)), (1, .int (nI p)), (2, .int (nI s))]) hx hb dX12_live_295 hl (k := 3) rfl (show nI y + Int32.ofInt 1 = nI (y + 1) from nI_add y 1) (by decide) rfl (fun ls hl => ?_)
                          refine lv_goto (tgt := 217) hx hb dX12_live_298 (by decide) ?_
                          have hI_hn1 : (n1 + 1) = fb_ct (lvB (liv qp qt qm qf ql qx mk (fun t9 m9 y9 => sOnly nb fr tt st nu sn s t9 m9 y9) qn p)) ((y + 1) - 1500) := by
                            rw [hys, fb_ct_succ, ← hn1]
                            first
                              | (have hyes : (lvB (liv qp qt qm qf ql qx mk (fun t9 m9 y9 => sOnly nb fr tt st nu sn s t9 m9 y9) qn p)) (y - 1500) = true := pB_t (pI_ne.mp (by rw [← hu1 (y - 1500) (by omega)]; exact c_y))
                                 rw [hyes, if_pos rfl])
                              | (have hno : (lvB (liv qp qt qm qf ql qx mk (fun t9 m9 y9 => sOnly nb fr tt st nu sn s t9 m9 y9) qn p)) (y - 1500) = false := pB_f (pI_e0.mp (by rw [← hu1 (y - 1500) (by omega)]; exact c_y))
                                 rw [hno]; rfl)
                          have hI_hn2 : (n2 + 0) = fb_ct (lvB (liv qp qt qm qf ql qx mk (fun t9 m9 y9 => sPos nb fr tt st nu s t9 m9 y9) qn p)) ((y + 1) - 1500) := by
                            rw [hys, fb_ct_succ, ← hn2]
                            first
                              | (have pyes : (lvB (liv qp qt qm qf ql qx mk (fun t9 m9 y9 => sPos nb fr tt st nu s t9 m9 y9) qn p)) (y - 1500) = true := pB_t (pI_ne.mp (by rw [← hu2 (y - 1500) (by omega)]; exact c_m))
                                 rw [pyes, if_pos rfl])
                              | (have pno : (lvB (liv qp qt qm qf ql qx mk (fun t9 m9 y9 => sPos nb fr tt st nu s t9 m9 y9) qn p)) (y - 1500) = false := pB_f (pI_e0.mp (by rw [← hu2 (y - 1500) (by omega)]; exact c_m))
                                 rw [pno]; rfl)
                          have hI_ha1 : fstTo (lvB (liv qp qt qm qf ql qx mk (fun t9 m9 y9 => sOnly nb fr tt st nu sn s t9 m9 y9) qn p)) ((y + 1) - 1500) a1 := by
                            rw [hys]
                            first
                              | (have hno : (lvB (liv qp qt qm qf ql qx mk (fun t9 m9 y9 => sOnly nb fr tt st nu sn s t9 m9 y9) qn p)) (y - 1500) = false := pB_f (pI_e0.mp (by rw [← hu1 (y - 1500) (by omega)]; exact c_y))
                                 exact fstTo_no ha1 hno)
                              | (have hyes : (lvB (liv qp qt qm qf ql qx mk (fun t9 m9 y9 => sOnly nb fr tt st nu sn s t9 m9 y9) qn p)) (y - 1500) = true := pB_t (pI_ne.mp (by rw [← hu1 (y - 1500) (by omega)]; exact c_y))
                                 first
                                   | exact fstTo_old ha1 c_f
                                   | (have e8 : nI y = nI (1500 + (y - 1500)) := by rw [show 1500 + (y - 1500) = y by omega]
                                      rw [e8]; exact fstTo_new (by omega) ha1 c_f hyes))
                          have hI_ha2 : lstTo (lvB (liv qp qt qm qf ql qx mk (fun t9 m9 y9 => sOnly nb fr tt st nu sn s t9 m9 y9) qn p)) ((y + 1) - 1500) (nI y) := by
                            rw [hys]
                            first
                              | (have hno : (lvB (liv qp qt qm qf ql qx mk (fun t9 m9 y9 => sOnly nb fr tt st nu sn s t9 m9 y9) qn p)) (y - 1500) = false := pB_f (pI_e0.mp (by rw [← hu1 (y - 1500) (by omega)]; exact c_y))
                                 exact lstTo_no ha2 hno)
                              | (have hyes : (lvB (liv qp qt qm qf ql qx mk (fun t9 m9 y9 => sOnly nb fr tt st nu sn s t9 m9 y9) qn p)) (y - 1500) = true := pB_t (pI_ne.mp (by rw [← hu1 (y - 1500) (by omega)]; exact c_y))
                                 have e8 : nI y = nI (1500 + (y - 1500)) := by rw [show 1500 + (y - 1500) = y by omega]
                                 rw [e8]; exact lstTo_yes hyes)
                          exact ih217 (y + 1) (n1 + 1) (n2 + 0) a1 (nI y) (by omega) (by first | assumption | omega) (by first | assumption | omega) hI_hn1 hI_hn2 hI_ha1 hI_ha2 H locs hP hD hS ls (lv_sub hl [1, 2, 3, 0] rfl)
                        · skip
                          refine lv_aload_n hx hb dX12_live_290 rfl (lv_at hl 0 rfl) ?_
                          refine lv_iload_n hx hb dX12_live_291 rfl (lv_at hl 3 rfl) ?_
                          refine va_put (D := (dC, dI)) (ci := 12) (v := .int (nI y)) (ty := (tyX12 37)) (C := RX12) (T := TX12) (N := 53) hx hb hts hiX12 tyX12 tyX12_ok nmX12 hown hK hP hD hS 0 rfl rfl 37 (by decide) hL4 (fun _ h9 => h9) rfl (by decide +kernel) rfl rfl (Nat.le_of_ble_eq_true rfl) dX12_live_292 (fun H locs hP hD hS => ?_)
                          have hP : va_P (dC, dI) vwCl [(am 0, .inr (12, [.ref (am 1), .ref (am 2), .ref (am 3), .ref (am 4), .int (nI tn), .int (nI zsz), .int (nI zfr), .int (nI zbe), .int zha, .int zva, .int fk, .int fp, .ref (am 13), .int (nI sn), .ref (am 15), .ref (am 16), .ref (am 17), .ref (am 18), .ref (am 19), .int (nI pn), .int (nI qn), .ref (am 22), .ref (am 23), .ref (am 24), .ref (am 25), .ref (am 26), .ref (am 27), .ref (am 28), .ref (am 29), .ref (am 30), .ref (am 31), .ref (am 32), .ref (am 33), .ref (am 34), .int b, .int (nI (n1 + 1)), .int (nI (n2 + 0)), .int (nI y), .int (nI y), .int (nI an), .ref (am 41), .ref (am 42), .ref (am 43), .ref (am 44), .ref (am 45), .ref (am 46), .ref (am 47), .ref (am 48), .ref (am 49), .ref (am 50), .int (nI zw), .ref (am 52), .ref (am 53)])), (am 15, .inl (cy 0, 40, .inl nb)), (am 16, .inl (cy 0, 320, .inl fr)), (am 17, .inl (cy 0, 320, .inl tt)), (am 18, .inl (cy 0, 320, .inl st)), (am 19, .inl (cy 0, 320, .inl nu)), (am 25, .inl (cy 0, 30, .inl mk)), (am 26, .inl (cy 0, 100, .inl qp)), (am 27, .inl (cy 0, 100, .inl qs)), (am 28, .inl (cy 0, 100, .inl qt)), (am 29, .inl (cy 0, 100, .inl qm)), (am 30, .inl (cy 0, 100, .inl qf)), (am 31, .inl (cy 0, 100, .inl ql)), (am 32, .inl (cy 2, 100, .inl qx)), (am 33, .inl (cy 2, 601, .inl f)), (am 34, .inl (cy 2, 601, .inl g))] H := hP
                          have hD : va_D A [(am 0, .inr (12, [.ref (am 1), .ref (am 2), .ref (am 3), .ref (am 4), .int (nI tn), .int (nI zsz), .int (nI zfr), .int (nI zbe), .int zha, .int zva, .int fk, .int fp, .ref (am 13), .int (nI sn), .ref (am 15), .ref (am 16), .ref (am 17), .ref (am 18), .ref (am 19), .int (nI pn), .int (nI qn), .ref (am 22), .ref (am 23), .ref (am 24), .ref (am 25), .ref (am 26), .ref (am 27), .ref (am 28), .ref (am 29), .ref (am 30), .ref (am 31), .ref (am 32), .ref (am 33), .ref (am 34), .int b, .int (nI (n1 + 1)), .int (nI (n2 + 0)), .int (nI y), .int (nI y), .int (nI an), .ref (am 41), .ref (am 42), .ref (am 43), .ref (am 44), .ref (am 45), .ref (am 46), .ref (am 47), .ref (am 48), .ref (am 49), .ref (am 50), .int (nI zw), .ref (am 52), .ref (am 53)])), (am 15, .inl (cy 0, 40, .inl nb)), (am 16, .inl (cy 0, 320, .inl fr)), (am 17, .inl (cy 0, 320, .inl tt)), (am 18, .inl (cy 0, 320, .inl st)), (am 19, .inl (cy 0, 320, .inl nu)), (am 25, .inl (cy 0, 30, .inl mk)), (am 26, .inl (cy 0, 100, .inl qp)), (am 27, .inl (cy 0, 100, .inl qs)), (am 28, .inl (cy 0, 100, .inl qt)), (am 29, .inl (cy 0, 100, .inl qm)), (am 30, .inl (cy 0, 100, .inl qf)), (am 31, .inl (cy 0, 100, .inl ql)), (am 32, .inl (cy 2, 100, .inl qx)), (am 33, .inl (cy 2, 601, .inl f)), (am 34, .inl (cy 2, 601, .inl g))] := hD
                          refine lv_iinc (v := nI (y + 1)) (lv' := [(3, .int (nI (y + 1))), (0, .ref (am 0)), (1, .int (nI p)), (2, .int (nI s))]) hx hb dX12_live_295 hl (k := 3) rfl (show nI y + Int32.ofInt 1 = nI (y + 1) from nI_add y 1) (by decide) rfl (fun ls hl => ?_)
                          refine lv_goto (tgt := 217) hx hb dX12_live_298 (by decide) ?_
                          have hI_hn1 : (n1 + 1) = fb_ct (lvB (liv qp qt qm qf ql qx mk (fun t9 m9 y9 => sOnly nb fr tt st nu sn s t9 m9 y9) qn p)) ((y + 1) - 1500) := by
                            rw [hys, fb_ct_succ, ← hn1]
                            first
                              | (have hyes : (lvB (liv qp qt qm qf ql qx mk (fun t9 m9 y9 => sOnly nb fr tt st nu sn s t9 m9 y9) qn p)) (y - 1500) = true := pB_t (pI_ne.mp (by rw [← hu1 (y - 1500) (by omega)]; exact c_y))
                                 rw [hyes, if_pos rfl])
                              | (have hno : (lvB (liv qp qt qm qf ql qx mk (fun t9 m9 y9 => sOnly nb fr tt st nu sn s t9 m9 y9) qn p)) (y - 1500) = false := pB_f (pI_e0.mp (by rw [← hu1 (y - 1500) (by omega)]; exact c_y))
                                 rw [hno]; rfl)
                          have hI_hn2 : (n2 + 0) = fb_ct (lvB (liv qp qt qm qf ql qx mk (fun t9 m9 y9 => sPos nb fr tt st nu s t9 m9 y9) qn p)) ((y + 1) - 1500) := by
                            rw [hys, fb_ct_succ, ← hn2]
                            first
                              | (have pyes : (lvB (liv qp qt qm qf ql qx mk (fun t9 m9 y9 => sPos nb fr tt st nu s t9 m9 y9) qn p)) (y - 1500) = true := pB_t (pI_ne.mp (by rw [← hu2 (y - 1500) (by omega)]; exact c_m))
                                 rw [pyes, if_pos rfl])
                              | (have pno : (lvB (liv qp qt qm qf ql qx mk (fun t9 m9 y9 => sPos nb fr tt st nu s t9 m9 y9) qn p)) (y - 1500) = false := pB_f (pI_e0.mp (by rw [← hu2 (y - 1500) (by omega)]; exact c_m))
                                 rw [pno]; rfl)
                          have hI_ha1 : fstTo (lvB (liv qp qt qm qf ql qx mk (fun t9 m9 y9 => sOnly nb fr tt st nu sn s t9 m9 y9) qn p)) ((y + 1) - 1500) (nI y) := by
                            rw [hys]
                            first
                              | (have hno : (lvB (liv qp qt qm qf ql qx mk (fun t9 m9 y9 => sOnly nb fr tt st nu sn s t9 m9 y9) qn p)) (y - 1500) = false := pB_f (pI_e0.mp (by rw [← hu1 (y - 1500) (by omega)]; exact c_y))
                                 exact fstTo_no ha1 hno)
                              | (have hyes : (lvB (liv qp qt qm qf ql qx mk (fun t9 m9 y9 => sOnly nb fr tt st nu sn s t9 m9 y9) qn p)) (y - 1500) = true := pB_t (pI_ne.mp (by rw [← hu1 (y - 1500) (by omega)]; exact c_y))
                                 first
                                   | exact fstTo_old ha1 c_f
                                   | (have e8 : nI y = nI (1500 + (y - 1500)) := by rw [show 1500 + (y - 1500) = y by omega]
                                      rw [e8]; exact fstTo_new (by omega) ha1 c_f hyes))
                          have hI_ha2 : lstTo (lvB (liv qp qt qm qf ql qx mk (fun t9 m9 y9 => sOnly nb fr tt st nu sn s t9 m9 y9) qn p)) ((y + 1) - 1500) (nI y) := by
                            rw [hys]
                            first
                              | (have hno : (lvB (liv qp qt qm qf ql qx mk (fun t9 m9 y9 => sOnly nb fr tt st nu sn s t9 m9 y9) qn p)) (y - 1500) = false := pB_f (pI_e0.mp (by rw [← hu1 (y - 1500) (by omega)]; exact c_y))
                                 exact lstTo_no ha2 hno)
                              | (have hyes : (lvB (liv qp qt qm qf ql qx mk (fun t9 m9 y9 => sOnly nb fr tt st nu sn s t9 m9 y9) qn p)) (y - 1500) = true := pB_t (pI_ne.mp (by rw [← hu1 (y - 1500) (by omega)]; exact c_y))
                                 have e8 : nI y = nI (1500 + (y - 1500)) := by rw [show 1500 + (y - 1500) = y by omega]
                                 rw [e8]; exact lstTo_yes hyes)
                          exact ih217 (y + 1) (n1 + 1) (n2 + 0) (nI y) (nI y) (by omega) (by first | assumption | omega) (by first | assumption | omega) hI_hn1 hI_hn2 hI_ha1 hI_ha2 H locs hP hD hS ls (lv_sub hl [1, 2, 3, 0] rfl)
                      · skip
                        refine lv_goto (tgt := 295) hx hb dX12_live_264 (by decide) ?_
                        refine lv_iinc (v := nI (y + 1)) (lv' := [(3, .int (nI (y + 1))), (0, .ref (am 0)), (1, .int (nI p)), (2, .int (nI s))]) hx hb dX12_live_295 hl (k := 3) rfl (show nI y + Int32.ofInt 1 = nI (y + 1) from nI_add y 1) (by decide) rfl (fun ls hl => ?_)
                        refine lv_goto (tgt := 217) hx hb dX12_live_298 (by decide) ?_
                        have hI_hn1 : n1 = fb_ct (lvB (liv qp qt qm qf ql qx mk (fun t9 m9 y9 => sOnly nb fr tt st nu sn s t9 m9 y9) qn p)) ((y + 1) - 1500) := by
                          rw [hys, fb_ct_succ, ← hn1]
                          first
                            | (have hyes : (lvB (liv qp qt qm qf ql qx mk (fun t9 m9 y9 => sOnly nb fr tt st nu sn s t9 m9 y9) qn p)) (y - 1500) = true := pB_t (pI_ne.mp (by rw [← hu1 (y - 1500) (by omega)]; exact c_y))
                               rw [hyes, if_pos rfl])
                            | (have hno : (lvB (liv qp qt qm qf ql qx mk (fun t9 m9 y9 => sOnly nb fr tt st nu sn s t9 m9 y9) qn p)) (y - 1500) = false := pB_f (pI_e0.mp (by rw [← hu1 (y - 1500) (by omega)]; exact c_y))
                               rw [hno]; rfl)
                        have hI_hn2 : (n2 + 0) = fb_ct (lvB (liv qp qt qm qf ql qx mk (fun t9 m9 y9 => sPos nb fr tt st nu s t9 m9 y9) qn p)) ((y + 1) - 1500) := by
                          rw [hys, fb_ct_succ, ← hn2]
                          first
                            | (have pyes : (lvB (liv qp qt qm qf ql qx mk (fun t9 m9 y9 => sPos nb fr tt st nu s t9 m9 y9) qn p)) (y - 1500) = true := pB_t (pI_ne.mp (by rw [← hu2 (y - 1500) (by omega)]; exact c_m))
                               rw [pyes, if_pos rfl])
                            | (have pno : (lvB (liv qp qt qm qf ql qx mk (fun t9 m9 y9 => sPos nb fr tt st nu s t9 m9 y9) qn p)) (y - 1500) = false := pB_f (pI_e0.mp (by rw [← hu2 (y - 1500) (by omega)]; exact c_m))
                               rw [pno]; rfl)
                        have hI_ha1 : fstTo (lvB (liv qp qt qm qf ql qx mk (fun t9 m9 y9 => sOnly nb fr tt st nu sn s t9 m9 y9) qn p)) ((y + 1) - 1500) a1 := by
                          rw [hys]
                          first
                            | (have hno : (lvB (liv qp qt qm qf ql qx mk (fun t9 m9 y9 => sOnly nb fr tt st nu sn s t9 m9 y9) qn p)) (y - 1500) = false := pB_f (pI_e0.mp (by rw [← hu1 (y - 1500) (by omega)]; exact c_y))
                               exact fstTo_no ha1 hno)
                            | (have hyes : (lvB (liv qp qt qm qf ql qx mk (fun t9 m9 y9 => sOnly nb fr tt st nu sn s t9 m9 y9) qn p)) (y - 1500) = true := pB_t (pI_ne.mp (by rw [← hu1 (y - 1500) (by omega)]; exact c_y))
                               first
                                 | exact fstTo_old ha1 c_f
                                 | (have e8 : nI y = nI (1500 + (y - 1500)) := by rw [show 1500 + (y - 1500) = y by omega]
                                    rw [e8]; exact fstTo_new (by omega) ha1 c_f hyes))
                        have hI_ha2 : lstTo (lvB (liv qp qt qm qf ql qx mk (fun t9 m9 y9 => sOnly nb fr tt st nu sn s t9 m9 y9) qn p)) ((y + 1) - 1500) a2 := by
                          rw [hys]
                          first
                            | (have hno : (lvB (liv qp qt qm qf ql qx mk (fun t9 m9 y9 => sOnly nb fr tt st nu sn s t9 m9 y9) qn p)) (y - 1500) = false := pB_f (pI_e0.mp (by rw [← hu1 (y - 1500) (by omega)]; exact c_y))
                               exact lstTo_no ha2 hno)
                            | (have hyes : (lvB (liv qp qt qm qf ql qx mk (fun t9 m9 y9 => sOnly nb fr tt st nu sn s t9 m9 y9) qn p)) (y - 1500) = true := pB_t (pI_ne.mp (by rw [← hu1 (y - 1500) (by omega)]; exact c_y))
                               have e8 : nI y = nI (1500 + (y - 1500)) := by rw [show 1500 + (y - 1500) = y by omega]
                               rw [e8]; exact lstTo_yes hyes)
                        exact ih217 (y + 1) n1 (n2 + 0) a1 a2 (by omega) (by first | assumption | omega) (by first | assumption | omega) hI_hn1 hI_hn2 hI_ha1 hI_ha2 H locs hP hD hS ls (lv_sub hl [1, 2, 3, 0] rfl)
                    · skip
                      refine lv_iconst (v := 1) hx hb dX12_live_242 (by decide) ?_
                      refine lv_goto (tgt := 247) hx hb dX12_live_243 (by decide) ?_
                      refine lv_iadd hx hb dX12_live_247 ?_
                      refine bw_re (show (nI n2) + 1 = nI (n2 + 1) from nI_add (n2) (1)) ?_
                      refine va_put (D := (dC, dI)) (ci := 12) (v := .int (nI (n2 + 1))) (ty := (tyX12 36)) (C := RX12) (T := TX12) (N := 53) hx hb hts hiX12 tyX12 tyX12_ok nmX12 hown hK hP hD hS 0 rfl rfl 36 (by decide) hL3 (fun _ h9 => h9) rfl (by decide +kernel) rfl rfl (Nat.le_of_ble_eq_true rfl) dX12_live_248 (fun H locs hP hD hS => ?_)
                      have hP : va_P (dC, dI) vwCl [(am 0, .inr (12, [.ref (am 1), .ref (am 2), .ref (am 3), .ref (am 4), .int (nI tn), .int (nI zsz), .int (nI zfr), .int (nI zbe), .int zha, .int zva, .int fk, .int fp, .ref (am 13), .int (nI sn), .ref (am 15), .ref (am 16), .ref (am 17), .ref (am 18), .ref (am 19), .int (nI pn), .int (nI qn), .ref (am 22), .ref (am 23), .ref (am 24), .ref (am 25), .ref (am 26), .ref (am 27), .ref (am 28), .ref (am 29), .ref (am 30), .ref (am 31), .ref (am 32), .ref (am 33), .ref (am 34), .int b, .int (nI n1), .int (nI (n2 + 1)), .int a1, .int a2, .int (nI an), .ref (am 41), .ref (am 42), .ref (am 43), .ref (am 44), .ref (am 45), .ref (am 46), .ref (am 47), .ref (am 48), .ref (am 49), .ref (am 50), .int (nI zw), .ref (am 52), .ref (am 53)])), (am 15, .inl (cy 0, 40, .inl nb)), (am 16, .inl (cy 0, 320, .inl fr)), (am 17, .inl (cy 0, 320, .inl tt)), (am 18, .inl (cy 0, 320, .inl st)), (am 19, .inl (cy 0, 320, .inl nu)), (am 25, .inl (cy 0, 30, .inl mk)), (am 26, .inl (cy 0, 100, .inl qp)), (am 27, .inl (cy 0, 100, .inl qs)), (am 28, .inl (cy 0, 100, .inl qt)), (am 29, .inl (cy 0, 100, .inl qm)), (am 30, .inl (cy 0, 100, .inl qf)), (am 31, .inl (cy 0, 100, .inl ql)), (am 32, .inl (cy 2, 100, .inl qx)), (am 33, .inl (cy 2, 601, .inl f)), (am 34, .inl (cy 2, 601, .inl g))] H := hP
                      have hD : va_D A [(am 0, .inr (12, [.ref (am 1), .ref (am 2), .ref (am 3), .ref (am 4), .int (nI tn), .int (nI zsz), .int (nI zfr), .int (nI zbe), .int zha, .int zva, .int fk, .int fp, .ref (am 13), .int (nI sn), .ref (am 15), .ref (am 16), .ref (am 17), .ref (am 18), .ref (am 19), .int (nI pn), .int (nI qn), .ref (am 22), .ref (am 23), .ref (am 24), .ref (am 25), .ref (am 26), .ref (am 27), .ref (am 28), .ref (am 29), .ref (am 30), .ref (am 31), .ref (am 32), .ref (am 33), .ref (am 34), .int b, .int (nI n1), .int (nI (n2 + 1)), .int a1, .int a2, .int (nI an), .ref (am 41), .ref (am 42), .ref (am 43), .ref (am 44), .ref (am 45), .ref (am 46), .ref (am 47), .ref (am 48), .ref (am 49), .ref (am 50), .int (nI zw), .ref (am 52), .ref (am 53)])), (am 15, .inl (cy 0, 40, .inl nb)), (am 16, .inl (cy 0, 320, .inl fr)), (am 17, .inl (cy 0, 320, .inl tt)), (am 18, .inl (cy 0, 320, .inl st)), (am 19, .inl (cy 0, 320, .inl nu)), (am 25, .inl (cy 0, 30, .inl mk)), (am 26, .inl (cy 0, 100, .inl qp)), (am 27, .inl (cy 0, 100, .inl qs)), (am 28, .inl (cy 0, 100, .inl qt)), (am 29, .inl (cy 0, 100, .inl qm)), (am 30, .inl (cy 0, 100, .inl qf)), (am 31, .inl (cy 0, 100, .inl ql)), (am 32, .inl (cy 2, 100, .inl qx)), (am 33, .inl (cy 2, 601, .inl f)), (am 34, .inl (cy 2, 601, .inl g))] := hD
                      refine lv_aload_n hx hb dX12_live_251 rfl (lv_at hl 0 rfl) ?_
                      refine va_get (D := (dC, dI)) (ci := 12) (v := .ref (am 33)) (C := RX12) (T := TX12) (N := 53) hx hb hts hiX12 hown hK hP 0 rfl rfl 32 (by decide) hL7 (fun _ h9 => h9) rfl dX12_live_252 ?_
                      refine lv_iload_n hx hb dX12_live_255 rfl (lv_at hl 3 rfl) ?_
                      refine lv_sipush (v := 1500) hx hb dX12_live_256 (by decide) ?_
                      refine lv_isub hx hb dX12_live_259 ?_
                      refine bw_re (show (nI y) - 1500 = nI (y - 1500) from pk_sub (a := y) (b := 1500) (by omega)) ?_
                      refine bw_zald hx hb hK hP 14 2 rfl rfl (j := (y - 1500)) (nI_toInt (by omega)) (by omega) dX12_live_260 ?_
                      refine bw_if_ne (tgt := 267) (a := (f (y - 1500)).toInt) hx hb dX12_live_261 (by decide) rfl (fun c_y => ?_) (fun c_y => ?_)
                      · skip
                        refine lv_aload_n hx hb dX12_live_267 rfl (lv_at hl 0 rfl) ?_
                        refine lv_dup hx hb dX12_live_268 rfl ?_
                        refine va_get (D := (dC, dI)) (ci := 12) (v := .int (nI n1)) (C := RX12) (T := TX12) (N := 53) hx hb hts hiX12 hown hK hP 0 rfl rfl 35 (by decide) hL2 (fun _ h9 => h9) rfl dX12_live_269 ?_
                        refine lv_iconst (v := 1) hx hb dX12_live_272 (by decide) ?_
                        refine lv_iadd hx hb dX12_live_273 ?_
                        refine bw_re (show (nI n1) + 1 = nI (n1 + 1) from nI_add (n1) (1)) ?_
                        refine va_put (D := (dC, dI)) (ci := 12) (v := .int (nI (n1 + 1))) (ty := (tyX12 35)) (C := RX12) (T := TX12) (N := 53) hx hb hts hiX12 tyX12 tyX12_ok nmX12 hown hK hP hD hS 0 rfl rfl 35 (by decide) hL2 (fun _ h9 => h9) rfl (by decide +kernel) rfl rfl (Nat.le_of_ble_eq_true rfl) dX12_live_274 (fun H locs hP hD hS => ?_)
                        have hP : va_P (dC, dI) vwCl [(am 0, .inr (12, [.ref (am 1), .ref (am 2), .ref (am 3), .ref (am 4), .int (nI tn), .int (nI zsz), .int (nI zfr), .int (nI zbe), .int zha, .int zva, .int fk, .int fp, .ref (am 13), .int (nI sn), .ref (am 15), .ref (am 16), .ref (am 17), .ref (am 18), .ref (am 19), .int (nI pn), .int (nI qn), .ref (am 22), .ref (am 23), .ref (am 24), .ref (am 25), .ref (am 26), .ref (am 27), .ref (am 28), .ref (am 29), .ref (am 30), .ref (am 31), .ref (am 32), .ref (am 33), .ref (am 34), .int b, .int (nI (n1 + 1)), .int (nI (n2 + 1)), .int a1, .int a2, .int (nI an), .ref (am 41), .ref (am 42), .ref (am 43), .ref (am 44), .ref (am 45), .ref (am 46), .ref (am 47), .ref (am 48), .ref (am 49), .ref (am 50), .int (nI zw), .ref (am 52), .ref (am 53)])), (am 15, .inl (cy 0, 40, .inl nb)), (am 16, .inl (cy 0, 320, .inl fr)), (am 17, .inl (cy 0, 320, .inl tt)), (am 18, .inl (cy 0, 320, .inl st)), (am 19, .inl (cy 0, 320, .inl nu)), (am 25, .inl (cy 0, 30, .inl mk)), (am 26, .inl (cy 0, 100, .inl qp)), (am 27, .inl (cy 0, 100, .inl qs)), (am 28, .inl (cy 0, 100, .inl qt)), (am 29, .inl (cy 0, 100, .inl qm)), (am 30, .inl (cy 0, 100, .inl qf)), (am 31, .inl (cy 0, 100, .inl ql)), (am 32, .inl (cy 2, 100, .inl qx)), (am 33, .inl (cy 2, 601, .inl f)), (am 34, .inl (cy 2, 601, .inl g))] H := hP
                        have hD : va_D A [(am 0, .inr (12, [.ref (am 1), .ref (am 2), .ref (am 3), .ref (am 4), .int (nI tn), .int (nI zsz), .int (nI zfr), .int (nI zbe), .int zha, .int zva, .int fk, .int fp, .ref (am 13), .int (nI sn), .ref (am 15), .ref (am 16), .ref (am 17), .ref (am 18), .ref (am 19), .int (nI pn), .int (nI qn), .ref (am 22), .ref (am 23), .ref (am 24), .ref (am 25), .ref (am 26), .ref (am 27), .ref (am 28), .ref (am 29), .ref (am 30), .ref (am 31), .ref (am 32), .ref (am 33), .ref (am 34), .int b, .int (nI (n1 + 1)), .int (nI (n2 + 1)), .int a1, .int a2, .int (nI an), .ref (am 41), .ref (am 42), .ref (am 43), .ref (am 44), .ref (am 45), .ref (am 46), .ref (am 47), .ref (am 48), .ref (am 49), .ref (am 50), .int (nI zw), .ref (am 52), .ref (am 53)])), (am 15, .inl (cy 0, 40, .inl nb)), (am 16, .inl (cy 0, 320, .inl fr)), (am 17, .inl (cy 0, 320, .inl tt)), (am 18, .inl (cy 0, 320, .inl st)), (am 19, .inl (cy 0, 320, .inl nu)), (am 25, .inl (cy 0, 30, .inl mk)), (am 26, .inl (cy 0, 100, .inl qp)), (am 27, .inl (cy 0, 100, .inl qs)), (am 28, .inl (cy 0, 100, .inl qt)), (am 29, .inl (cy 0, 100, .inl qm)), (am 30, .inl (cy 0, 100, .inl qf)), (am 31, .inl (cy 0, 100, .inl ql)), (am 32, .inl (cy 2, 100, .inl qx)), (am 33, .inl (cy 2, 601, .inl f)), (am 34, .inl (cy 2, 601, .inl g))] := hD
                        refine lv_aload_n hx hb dX12_live_277 rfl (lv_at hl 0 rfl) ?_
                        refine lv_iload_n hx hb dX12_live_278 rfl (lv_at hl 3 rfl) ?_
                        refine va_put (D := (dC, dI)) (ci := 12) (v := .int (nI y)) (ty := (tyX12 38)) (C := RX12) (T := TX12) (N := 53) hx hb hts hiX12 tyX12 tyX12_ok nmX12 hown hK hP hD hS 0 rfl rfl 38 (by decide) hL5 (fun _ h9 => h9) rfl (by decide +kernel) rfl rfl (Nat.le_of_ble_eq_true rfl) dX12_live_279 (fun H locs hP hD hS => ?_)
                        have hP : va_P (dC, dI) vwCl [(am 0, .inr (12, [.ref (am 1), .ref (am 2), .ref (am 3), .ref (am 4), .int (nI tn), .int (nI zsz), .int (nI zfr), .int (nI zbe), .int zha, .int zva, .int fk, .int fp, .ref (am 13), .int (nI sn), .ref (am 15), .ref (am 16), .ref (am 17), .ref (am 18), .ref (am 19), .int (nI pn), .int (nI qn), .ref (am 22), .ref (am 23), .ref (am 24), .ref (am 25), .ref (am 26), .ref (am 27), .ref (am 28), .ref (am 29), .ref (am 30), .ref (am 31), .ref (am 32), .ref (am 33), .ref (am 34), .int b, .int (nI (n1 + 1)), .int (nI (n2 + 1)), .int a1, .int (nI y), .int (nI an), .ref (am 41), .ref (am 42), .ref (am 43), .ref (am 44), .ref (am 45), .ref (am 46), .ref (am 47), .ref (am 48), .ref (am 49), .ref (am 50), .int (nI zw), .ref (am 52), .ref (am 53)])), (am 15, .inl (cy 0, 40, .inl nb)), (am 16, .inl (cy 0, 320, .inl fr)), (am 17, .inl (cy 0, 320, .inl tt)), (am 18, .inl (cy 0, 320, .inl st)), (am 19, .inl (cy 0, 320, .inl nu)), (am 25, .inl (cy 0, 30, .inl mk)), (am 26, .inl (cy 0, 100, .inl qp)), (am 27, .inl (cy 0, 100, .inl qs)), (am 28, .inl (cy 0, 100, .inl qt)), (am 29, .inl (cy 0, 100, .inl qm)), (am 30, .inl (cy 0, 100, .inl qf)), (am 31, .inl (cy 0, 100, .inl ql)), (am 32, .inl (cy 2, 100, .inl qx)), (am 33, .inl (cy 2, 601, .inl f)), (am 34, .inl (cy 2, 601, .inl g))] H := hP
                        have hD : va_D A [(am 0, .inr (12, [.ref (am 1), .ref (am 2), .ref (am 3), .ref (am 4), .int (nI tn), .int (nI zsz), .int (nI zfr), .int (nI zbe), .int zha, .int zva, .int fk, .int fp, .ref (am 13), .int (nI sn), .ref (am 15), .ref (am 16), .ref (am 17), .ref (am 18), .ref (am 19), .int (nI pn), .int (nI qn), .ref (am 22), .ref (am 23), .ref (am 24), .ref (am 25), .ref (am 26), .ref (am 27), .ref (am 28), .ref (am 29), .ref (am 30), .ref (am 31), .ref (am 32), .ref (am 33), .ref (am 34), .int b, .int (nI (n1 + 1)), .int (nI (n2 + 1)), .int a1, .int (nI y), .int (nI an), .ref (am 41), .ref (am 42), .ref (am 43), .ref (am 44), .ref (am 45), .ref (am 46), .ref (am 47), .ref (am 48), .ref (am 49), .ref (am 50), .int (nI zw), .ref (am 52), .ref (am 53)])), (am 15, .inl (cy 0, 40, .inl nb)), (am 16, .inl (cy 0, 320, .inl fr)), (am 17, .inl (cy 0, 320, .inl tt)), (am 18, .inl (cy 0, 320, .inl st)), (am 19, .inl (cy 0, 320, .inl nu)), (am 25, .inl (cy 0, 30, .inl mk)), (am 26, .inl (cy 0, 100, .inl qp)), (am 27, .inl (cy 0, 100, .inl qs)), (am 28, .inl (cy 0, 100, .inl qt)), (am 29, .inl (cy 0, 100, .inl qm)), (am 30, .inl (cy 0, 100, .inl qf)), (am 31, .inl (cy 0, 100, .inl ql)), (am 32, .inl (cy 2, 100, .inl qx)), (am 33, .inl (cy 2, 601, .inl f)), (am 34, .inl (cy 2, 601, .inl g))] := hD
                        refine lv_aload_n hx hb dX12_live_282 rfl (lv_at hl 0 rfl) ?_
                        refine va_get (D := (dC, dI)) (ci := 12) (v := .int a1) (C := RX12) (T := TX12) (N := 53) hx hb hts hiX12 hown hK hP 0 rfl rfl 37 (by decide) hL4 (fun _ h9 => h9) rfl dX12_live_283 ?_
                        refine lv_iconst (v := (-1)) hx hb dX12_live_286 (by decide) ?_
                        refine bw_icmp_ne (tgt := 295) (a := a1.toInt) (b := (-1)) hx hb dX12_live_287 (by decide) rfl rfl (fun c_f => ?_) (fun c_f => ?_)
                        · skip
                          refine lv_iinc (v := nI (y + 1)) (lv' := [(3, .int (nI (y + 1))), (0, .ref (am 0)), (1, .int (nI p)), (2, .int (nI s))]) hx hb dX12_live_295 hl (k := 3) rfl (show nI y + Int32.ofInt 1 = nI (y + 1) from nI_add y 1) (by decide) rfl (fun ls hl => ?_)
                          refine lv_goto (tgt := 217) hx hb dX12_live_298 (by decide) ?_
                          have hI_hn1 : (n1 + 1) = fb_ct (lvB (liv qp qt qm qf ql qx mk (fun t9 m9 y9 => sOnly nb fr tt st nu sn s t9 m9 y9) qn p)) ((y + 1) - 1500) := by
                            rw [hys, fb_ct_succ, ← hn1]
                            first
                              | (have hyes : (lvB (liv qp qt qm qf ql qx mk (fun t9 m9 y9 => sOnly nb fr tt st nu sn s t9 m9 y9) qn p)) (y - 1500) = true := pB_t (pI_ne.mp (by rw [← hu1 (y - 1500) (by omega)]; exact c_y))
                                 rw [hyes, if_pos rfl])
                              | (have hno : (lvB (liv qp qt qm qf ql qx mk (fun t9 m9 y9 => sOnly nb fr tt st nu sn s t9 m9 y9) qn p)) (y - 1500) = false := pB_f (pI_e0.mp (by rw [← hu1 (y - 1500) (by omega)]; exact c_y))
                                 rw [hno]; rfl)
                          have hI_hn2 : (n2 + 1) = fb_ct (lvB (liv qp qt qm qf ql qx mk (fun t9 m9 y9 => sPos nb fr tt st nu s t9 m9 y9) qn p)) ((y + 1) - 1500) := by
                            rw [hys, fb_ct_succ, ← hn2]
                            first
                              | (have pyes : (lvB (liv qp qt qm qf ql qx mk (fun t9 m9 y9 => sPos nb fr tt st nu s t9 m9 y9) qn p)) (y - 1500) = true := pB_t (pI_ne.mp (by rw [← hu2 (y - 1500) (by omega)]; exact c_m))
                                 rw [pyes, if_pos rfl])
                              | (have pno : (lvB (liv qp qt qm qf ql qx mk (fun t9 m9 y9 => sPos nb fr tt st nu s t9 m9 y9) qn p)) (y - 1500) = false := pB_f (pI_e0.mp (by rw [← hu2 (y - 1500) (by omega)]; exact c_m))
                                 rw [pno]; rfl)
                          have hI_ha1 : fstTo (lvB (liv qp qt qm qf ql qx mk (fun t9 m9 y9 => sOnly nb fr tt st nu sn s t9 m9 y9) qn p)) ((y + 1) - 1500) a1 := by
                            rw [hys]
                            first
                              | (have hno : (lvB (liv qp qt qm qf ql qx mk (fun t9 m9 y9 => sOnly nb fr tt st nu sn s t9 m9 y9) qn p)) (y - 1500) = false := pB_f (pI_e0.mp (by rw [← hu1 (y - 1500) (by omega)]; exact c_y))
                                 exact fstTo_no ha1 hno)
                              | (have hyes : (lvB (liv qp qt qm qf ql qx mk (fun t9 m9 y9 => sOnly nb fr tt st nu sn s t9 m9 y9) qn p)) (y - 1500) = true := pB_t (pI_ne.mp (by rw [← hu1 (y - 1500) (by omega)]; exact c_y))
                                 first
                                   | exact fstTo_old ha1 c_f
                                   | (have e8 : nI y = nI (1500 + (y - 1500)) := by rw [show 1500 + (y - 1500) = y by omega]
                                      rw [e8]; exact fstTo_new (by omega) ha1 c_f hyes))
                          have hI_ha2 : lstTo (lvB (liv qp qt qm qf ql qx mk (fun t9 m9 y9 => sOnly nb fr tt st nu sn s t9 m9 y9) qn p)) ((y + 1) - 1500) (nI y) := by
                            rw [hys]
                            first
                              | (have hno : (lvB (liv qp qt qm qf ql qx mk (fun t9 m9 y9 => sOnly nb fr tt st nu sn s t9 m9 y9) qn p)) (y - 1500) = false := pB_f (pI_e0.mp (by rw [← hu1 (y - 1500) (by omega)]; exact c_y))
                                 exact lstTo_no ha2 hno)
                              | (have hyes : (lvB (liv qp qt qm qf ql qx mk (fun t9 m9 y9 => sOnly nb fr tt st nu sn s t9 m9 y9) qn p)) (y - 1500) = true := pB_t (pI_ne.mp (by rw [← hu1 (y - 1500) (by omega)]; exact c_y))
                                 have e8 : nI y = nI (1500 + (y - 1500)) := by rw [show 1500 + (y - 1500) = y by omega]
                                 rw [e8]; exact lstTo_yes hyes)
                          exact ih217 (y + 1) (n1 + 1) (n2 + 1) a1 (nI y) (by omega) (by first | assumption | omega) (by first | assumption | omega) hI_hn1 hI_hn2 hI_ha1 hI_ha2 H locs hP hD hS ls (lv_sub hl [1, 2, 3, 0] rfl)
                        · skip
                          refine lv_aload_n hx hb dX12_live_290 rfl (lv_at hl 0 rfl) ?_
                          refine lv_iload_n hx hb dX12_live_291 rfl (lv_at hl 3 rfl) ?_
                          refine va_put (D := (dC, dI)) (ci := 12) (v := .int (nI y)) (ty := (tyX12 37)) (C := RX12) (T := TX12) (N := 53) hx hb hts hiX12 tyX12 tyX12_ok nmX12 hown hK hP hD hS 0 rfl rfl 37 (by decide) hL4 (fun _ h9 => h9) rfl (by decide +kernel) rfl rfl (Nat.le_of_ble_eq_true rfl) dX12_live_292 (fun H locs hP hD hS => ?_)
                          have hP : va_P (dC, dI) vwCl [(am 0, .inr (12, [.ref (am 1), .ref (am 2), .ref (am 3), .ref (am 4), .int (nI tn), .int (nI zsz), .int (nI zfr), .int (nI zbe), .int zha, .int zva, .int fk, .int fp, .ref (am 13), .int (nI sn), .ref (am 15), .ref (am 16), .ref (am 17), .ref (am 18), .ref (am 19), .int (nI pn), .int (nI qn), .ref (am 22), .ref (am 23), .ref (am 24), .ref (am 25), .ref (am 26), .ref (am 27), .ref (am 28), .ref (am 29), .ref (am 30), .ref (am 31), .ref (am 32), .ref (am 33), .ref (am 34), .int b, .int (nI (n1 + 1)), .int (nI (n2 + 1)), .int (nI y), .int (nI y), .int (nI an), .ref (am 41), .ref (am 42), .ref (am 43), .ref (am 44), .ref (am 45), .ref (am 46), .ref (am 47), .ref (am 48), .ref (am 49), .ref (am 50), .int (nI zw), .ref (am 52), .ref (am 53)])), (am 15, .inl (cy 0, 40, .inl nb)), (am 16, .inl (cy 0, 320, .inl fr)), (am 17, .inl (cy 0, 320, .inl tt)), (am 18, .inl (cy 0, 320, .inl st)), (am 19, .inl (cy 0, 320, .inl nu)), (am 25, .inl (cy 0, 30, .inl mk)), (am 26, .inl (cy 0, 100, .inl qp)), (am 27, .inl (cy 0, 100, .inl qs)), (am 28, .inl (cy 0, 100, .inl qt)), (am 29, .inl (cy 0, 100, .inl qm)), (am 30, .inl (cy 0, 100, .inl qf)), (am 31, .inl (cy 0, 100, .inl ql)), (am 32, .inl (cy 2, 100, .inl qx)), (am 33, .inl (cy 2, 601, .inl f)), (am 34, .inl (cy 2, 601, .inl g))] H := hP
                          have hD : va_D A [(am 0, .inr (12, [.ref (am 1), .ref (am 2), .ref (am 3), .ref (am 4), .int (nI tn), .int (nI zsz), .int (nI zfr), .int (nI zbe), .int zha, .int zva, .int fk, .int fp, .ref (am 13), .int (nI sn), .ref (am 15), .ref (am 16), .ref (am 17), .ref (am 18), .ref (am 19), .int (nI pn), .int (nI qn), .ref (am 22), .ref (am 23), .ref (am 24), .ref (am 25), .ref (am 26), .ref (am 27), .ref (am 28), .ref (am 29), .ref (am 30), .ref (am 31), .ref (am 32), .ref (am 33), .ref (am 34), .int b, .int (nI (n1 + 1)), .int (nI (n2 + 1)), .int (nI y), .int (nI y), .int (nI an), .ref (am 41), .ref (am 42), .ref (am 43), .ref (am 44), .ref (am 45), .ref (am 46), .ref (am 47), .ref (am 48), .ref (am 49), .ref (am 50), .int (nI zw), .ref (am 52), .ref (am 53)])), (am 15, .inl (cy 0, 40, .inl nb)), (am 16, .inl (cy 0, 320, .inl fr)), (am 17, .inl (cy 0, 320, .inl tt)), (am 18, .inl (cy 0, 320, .inl st)), (am 19, .inl (cy 0, 320, .inl nu)), (am 25, .inl (cy 0, 30, .inl mk)), (am 26, .inl (cy 0, 100, .inl qp)), (am 27, .inl (cy 0, 100, .inl qs)), (am 28, .inl (cy 0, 100, .inl qt)), (am 29, .inl (cy 0, 100, .inl qm)), (am 30, .inl (cy 0, 100, .inl qf)), (am 31, .inl (cy 0, 100, .inl ql)), (am 32, .inl (cy 2, 100, .inl qx)), (am 33, .inl (cy 2, 601, .inl f)), (am 34, .inl (cy 2, 601, .inl g))] := hD
                          refine lv_iinc (v := nI (y + 1)) (lv' := [(3, .int (nI (y + 1))), (0, .ref (am 0)), (1, .int (nI p)), (2, .int (nI s))]) hx hb dX12_live_295 hl (k := 3) rfl (show nI y + Int32.ofInt 1 = nI (y + 1) from nI_add y 1) (by decide) rfl (fun ls hl => ?_)
                          refine lv_goto (tgt := 217) hx hb dX12_live_298 (by decide) ?_
                          have hI_hn1 : (n1 + 1) = fb_ct (lvB (liv qp qt qm qf ql qx mk (fun t9 m9 y9 => sOnly nb fr tt st nu sn s t9 m9 y9) qn p)) ((y + 1) - 1500) := by
                            rw [hys, fb_ct_succ, ← hn1]
                            first
                              | (have hyes : (lvB (liv qp qt qm qf ql qx mk (fun t9 m9 y9 => sOnly nb fr tt st nu sn s t9 m9 y9) qn p)) (y - 1500) = true := pB_t (pI_ne.mp (by rw [← hu1 (y - 1500) (by omega)]; exact c_y))
                                 rw [hyes, if_pos rfl])
                              | (have hno : (lvB (liv qp qt qm qf ql qx mk (fun t9 m9 y9 => sOnly nb fr tt st nu sn s t9 m9 y9) qn p)) (y - 1500) = false := pB_f (pI_e0.mp (by rw [← hu1 (y - 1500) (by omega)]; exact c_y))
                                 rw [hno]; rfl)
                          have hI_hn2 : (n2 + 1) = fb_ct (lvB (liv qp qt qm qf ql qx mk (fun t9 m9 y9 => sPos nb fr tt st nu s t9 m9 y9) qn p)) ((y + 1) - 1500) := by
                            rw [hys, fb_ct_succ, ← hn2]
                            first
                              | (have pyes : (lvB (liv qp qt qm qf ql qx mk (fun t9 m9 y9 => sPos nb fr tt st nu s t9 m9 y9) qn p)) (y - 1500) = true := pB_t (pI_ne.mp (by rw [← hu2 (y - 1500) (by omega)]; exact c_m))
                                 rw [pyes, if_pos rfl])
                              | (have pno : (lvB (liv qp qt qm qf ql qx mk (fun t9 m9 y9 => sPos nb fr tt st nu s t9 m9 y9) qn p)) (y - 1500) = false := pB_f (pI_e0.mp (by rw [← hu2 (y - 1500) (by omega)]; exact c_m))
                                 rw [pno]; rfl)
                          have hI_ha1 : fstTo (lvB (liv qp qt qm qf ql qx mk (fun t9 m9 y9 => sOnly nb fr tt st nu sn s t9 m9 y9) qn p)) ((y + 1) - 1500) (nI y) := by
                            rw [hys]
                            first
                              | (have hno : (lvB (liv qp qt qm qf ql qx mk (fun t9 m9 y9 => sOnly nb fr tt st nu sn s t9 m9 y9) qn p)) (y - 1500) = false := pB_f (pI_e0.mp (by rw [← hu1 (y - 1500) (by omega)]; exact c_y))
                                 exact fstTo_no ha1 hno)
                              | (have hyes : (lvB (liv qp qt qm qf ql qx mk (fun t9 m9 y9 => sOnly nb fr tt st nu sn s t9 m9 y9) qn p)) (y - 1500) = true := pB_t (pI_ne.mp (by rw [← hu1 (y - 1500) (by omega)]; exact c_y))
                                 first
                                   | exact fstTo_old ha1 c_f
                                   | (have e8 : nI y = nI (1500 + (y - 1500)) := by rw [show 1500 + (y - 1500) = y by omega]
                                      rw [e8]; exact fstTo_new (by omega) ha1 c_f hyes))
                          have hI_ha2 : lstTo (lvB (liv qp qt qm qf ql qx mk (fun t9 m9 y9 => sOnly nb fr tt st nu sn s t9 m9 y9) qn p)) ((y + 1) - 1500) (nI y) := by
                            rw [hys]
                            first
                              | (have hno : (lvB (liv qp qt qm qf ql qx mk (fun t9 m9 y9 => sOnly nb fr tt st nu sn s t9 m9 y9) qn p)) (y - 1500) = false := pB_f (pI_e0.mp (by rw [← hu1 (y - 1500) (by omega)]; exact c_y))
                                 exact lstTo_no ha2 hno)
                              | (have hyes : (lvB (liv qp qt qm qf ql qx mk (fun t9 m9 y9 => sOnly nb fr tt st nu sn s t9 m9 y9) qn p)) (y - 1500) = true := pB_t (pI_ne.mp (by rw [← hu1 (y - 1500) (by omega)]; exact c_y))
                                 have e8 : nI y = nI (1500 + (y - 1500)) := by rw [show 1500 + (y - 1500) = y by omega]
                                 rw [e8]; exact lstTo_yes hyes)
                          exact ih217 (y + 1) (n1 + 1) (n2 + 1) (nI y) (nI y) (by omega) (by first | assumption | omega) (by first | assumption | omega) hI_hn1 hI_hn2 hI_ha1 hI_ha2 H locs hP hD hS ls (lv_sub hl [1, 2, 3, 0] rfl)
                      · skip
                        refine lv_goto (tgt := 295) hx hb dX12_live_264 (by decide) ?_
                        refine lv_iinc (v := nI (y + 1)) (lv' := [(3, .int (nI (y + 1))), (0, .ref (am 0)), (1, .int (nI p)), (2, .int (nI s))]) hx hb dX12_live_295 hl (k := 3) rfl (show nI y + Int32.ofInt 1 = nI (y + 1) from nI_add y 1) (by decide) rfl (fun ls hl => ?_)
                        refine lv_goto (tgt := 217) hx hb dX12_live_298 (by decide) ?_
                        have hI_hn1 : n1 = fb_ct (lvB (liv qp qt qm qf ql qx mk (fun t9 m9 y9 => sOnly nb fr tt st nu sn s t9 m9 y9) qn p)) ((y + 1) - 1500) := by
                          rw [hys, fb_ct_succ, ← hn1]
                          first
                            | (have hyes : (lvB (liv qp qt qm qf ql qx mk (fun t9 m9 y9 => sOnly nb fr tt st nu sn s t9 m9 y9) qn p)) (y - 1500) = true := pB_t (pI_ne.mp (by rw [← hu1 (y - 1500) (by omega)]; exact c_y))
                               rw [hyes, if_pos rfl])
                            | (have hno : (lvB (liv qp qt qm qf ql qx mk (fun t9 m9 y9 => sOnly nb fr tt st nu sn s t9 m9 y9) qn p)) (y - 1500) = false := pB_f (pI_e0.mp (by rw [← hu1 (y - 1500) (by omega)]; exact c_y))
                               rw [hno]; rfl)
                        have hI_hn2 : (n2 + 1) = fb_ct (lvB (liv qp qt qm qf ql qx mk (fun t9 m9 y9 => sPos nb fr tt st nu s t9 m9 y9) qn p)) ((y + 1) - 1500) := by
                          rw [hys, fb_ct_succ, ← hn2]
                          first
                            | (have pyes : (lvB (liv qp qt qm qf ql qx mk (fun t9 m9 y9 => sPos nb fr tt st nu s t9 m9 y9) qn p)) (y - 1500) = true := pB_t (pI_ne.mp (by rw [← hu2 (y - 1500) (by omega)]; exact c_m))
                               rw [pyes, if_pos rfl])
                            | (have pno : (lvB (liv qp qt qm qf ql qx mk (fun t9 m9 y9 => sPos nb fr tt st nu s t9 m9 y9) qn p)) (y - 1500) = false := pB_f (pI_e0.mp (by rw [← hu2 (y - 1500) (by omega)]; exact c_m))
                               rw [pno]; rfl)
                        have hI_ha1 : fstTo (lvB (liv qp qt qm qf ql qx mk (fun t9 m9 y9 => sOnly nb fr tt st nu sn s t9 m9 y9) qn p)) ((y + 1) - 1500) a1 := by
                          rw [hys]
                          first
                            | (have hno : (lvB (liv qp qt qm qf ql qx mk (fun t9 m9 y9 => sOnly nb fr tt st nu sn s t9 m9 y9) qn p)) (y - 1500) = false := pB_f (pI_e0.mp (by rw [← hu1 (y - 1500) (by omega)]; exact c_y))
                               exact fstTo_no ha1 hno)
                            | (have hyes : (lvB (liv qp qt qm qf ql qx mk (fun t9 m9 y9 => sOnly nb fr tt st nu sn s t9 m9 y9) qn p)) (y - 1500) = true := pB_t (pI_ne.mp (by rw [← hu1 (y - 1500) (by omega)]; exact c_y))
                               first
                                 | exact fstTo_old ha1 c_f
                                 | (have e8 : nI y = nI (1500 + (y - 1500)) := by rw [show 1500 + (y - 1500) = y by omega]
                                    rw [e8]; exact fstTo_new (by omega) ha1 c_f hyes))
                        have hI_ha2 : lstTo (lvB (liv qp qt qm qf ql qx mk (fun t9 m9 y9 => sOnly nb fr tt st nu sn s t9 m9 y9) qn p)) ((y + 1) - 1500) a2 := by
                          rw [hys]
                          first
                            | (have hno : (lvB (liv qp qt qm qf ql qx mk (fun t9 m9 y9 => sOnly nb fr tt st nu sn s t9 m9 y9) qn p)) (y - 1500) = false := pB_f (pI_e0.mp (by rw [← hu1 (y - 1500) (by omega)]; exact c_y))
                               exact lstTo_no ha2 hno)
                            | (have hyes : (lvB (liv qp qt qm qf ql qx mk (fun t9 m9 y9 => sOnly nb fr tt st nu sn s t9 m9 y9) qn p)) (y - 1500) = true := pB_t (pI_ne.mp (by rw [← hu1 (y - 1500) (by omega)]; exact c_y))
                               have e8 : nI y = nI (1500 + (y - 1500)) := by rw [show 1500 + (y - 1500) = y by omega]
                               rw [e8]; exact lstTo_yes hyes)
                        exact ih217 (y + 1) n1 (n2 + 1) a1 a2 (by omega) (by first | assumption | omega) (by first | assumption | omega) hI_hn1 hI_hn2 hI_ha1 hI_ha2 H locs hP hD hS ls (lv_sub hl [1, 2, 3, 0] rfl)
              have hI_hn1 : 0 = fb_ct (lvB (liv qp qt qm qf ql qx mk (fun t9 m9 y9 => sOnly nb fr tt st nu sn s t9 m9 y9) qn p)) (1500 - 1500) := by
                rfl
              have hI_hn2 : 0 = fb_ct (lvB (liv qp qt qm qf ql qx mk (fun t9 m9 y9 => sPos nb fr tt st nu s t9 m9 y9) qn p)) (1500 - 1500) := by
                rfl
              have hI_ha1 : fstTo (lvB (liv qp qt qm qf ql qx mk (fun t9 m9 y9 => sOnly nb fr tt st nu sn s t9 m9 y9) qn p)) (1500 - 1500) (-1) := by
                exact Or.inr ⟨rfl, fun i9 h9 => absurd h9 (by omega)⟩
              have hI_ha2 : lstTo (lvB (liv qp qt qm qf ql qx mk (fun t9 m9 y9 => sOnly nb fr tt st nu sn s t9 m9 y9) qn p)) (1500 - 1500) (-1) := by
                exact Or.inr ⟨rfl, fun i9 h9 => absurd h9 (by omega)⟩
              exact L_217 ((2101 - 1500) + 1) 1500 0 0 (-1) (-1) (by omega) (by first | assumption | omega) (by first | assumption | omega) hI_hn1 hI_hn2 hI_ha1 hI_ha2 H locs hP hD hS ls (lv_sub hl [1, 2, 3, 0] rfl)
            · skip
              have hq1 := hq.2.2.2 k (by omega)
              refine lv_aload_n hx hb dX12_live_54 rfl (lv_at hl 0 rfl) ?_
              refine lv_iload_n hx hb dX12_live_55 rfl (lv_at hl 3 rfl) ?_
              refine lv_iload_n hx hb dX12_live_56 rfl (lv_at hl 1 rfl) ?_
              have hPc : va_P (dC, dI) vwCl [(am 0, .inr (12, [.ref (am 1), .ref (am 2), .ref (am 3), .ref (am 4), .int (nI tn), .int (nI zsz), .int (nI zfr), .int (nI zbe), .int zha, .int zva, .int fk, .int fp, .ref (am 13), .int (nI sn), .ref (am 15), .ref (am 16), .ref (am 17), .ref (am 18), .ref (am 19), .int (nI pn), .int (nI qn), .ref (am 22), .ref (am 23), .ref (am 24), .ref (am 25), .ref (am 26), .ref (am 27), .ref (am 28), .ref (am 29), .ref (am 30), .ref (am 31), .ref (am 32), .ref (am 33), .ref (am 34), .int b, .int zsy, .int zpy, .int zfs, .int zls, .int (nI an), .ref (am 41), .ref (am 42), .ref (am 43), .ref (am 44), .ref (am 45), .ref (am 46), .ref (am 47), .ref (am 48), .ref (am 49), .ref (am 50), .int (nI zw), .ref (am 52), .ref (am 53)])), (am 25, .inl (cy 0, 30, .inl mk)), (am 26, .inl (cy 0, 100, .inl qp)), (am 32, .inl (cy 2, 100, .inl qx))] H := hP.sub [0, 6, 7, 13] rfl
              refine vp_callSi (va_Run.run (va_runV (As := [.int (nI k), .int (nI p)]) (rest := []) ⟨hx, hb, hml, hown, hts⟩ (c_X12_isOf l dC dI cy am tn zsz zfr zbe zha zva fk fp sn pn qn b zsy zpy zfs zls an zw mk qp qx k p (by first | assumption | omega) (by first | assumption | omega) (by first | assumption | omega)) (cwV 2 hts gX12_live_X12_isOf rfl rfl rfl (by decide +kernel) ⟨Nat.le_of_ble_eq_true rfl, Nat.le_of_ble_eq_true rfl⟩) ⟨fun a U g mk q => by obtain ⟨q0, qP, qK⟩ := q; exact ⟨q0, qP, va_K.moved (u := U) (U := U.calling g mk a) (Vm.Alike.refl U.vm) qK⟩, va_recv hK hPc (ci := 12) (q0 := 0) rfl rfl, fun U hU hW => ⟨rfl, by rw [hU]; exact hPc, va_K.moved hW.alike hK⟩⟩ rfl rfl hl.1 rfl (lv_room (Nat.le_of_ble_eq_true rfl)) dX12_live_57 ⟨Nat.le_of_ble_eq_true rfl, Nat.le_of_ble_eq_true rfl⟩)) (fun r_4 hr_4 => ?_)
              refine bw_ifneB (tgt := 66) hx hb dX12_live_60 (by decide) hr_4 (fun c_o => ?_) (fun c_o => ?_)
              · skip
                refine lv_aload_n hx hb dX12_live_66 rfl (lv_at hl 0 rfl) ?_
                refine va_get (D := (dC, dI)) (ci := 12) (v := .ref (am 30)) (C := RX12) (T := TX12) (N := 53) hx hb hts hiX12 hown hK hP 0 rfl rfl 29 (by decide) hL8 (fun _ h9 => h9) rfl dX12_live_67 ?_
                refine lv_iload_n hx hb dX12_live_70 rfl (lv_at hl 3 rfl) ?_
                refine bw_iald hx hb hK hP 11 0 rfl rfl (j := k) (nI_toInt (by omega)) (by omega) dX12_live_71 ?_
                refine lv_istore (lv' := [(4, .int (qf k)), (0, .ref (am 0)), (1, .int (nI p)), (2, .int (nI s)), (3, .int (nI k))]) hx hb dX12_live_72 hl (by decide) rfl (fun ls hl => ?_)
                have L_74 : ∀ (n9 : Nat), ∀ (y : Int32) (f2 : Nat → Int32) (g2 : Nat → Int32) (b : Int32), (((ql k).toInt + 1 - y.toInt).toNat) < n9 → ((qf k).toInt ≤ y.toInt) → (y.toInt ≤ (ql k).toInt + 1) → (∀ i9, i9 < 601 → f2 i9 = pI (liv qp qt qm qf ql qx mk (fun t9 m9 y9 => sOnly nb fr tt st nu sn s t9 m9 y9) k p (1500 + ((i9 : Nat) : Int)) ∨ ((qf k).toInt ≤ (1500 + ((i9 : Nat) : Int)) ∧ (1500 + ((i9 : Nat) : Int)) < y.toInt ∧ sOnly nb fr tt st nu sn s (qt k) (qm k) (1500 + ((i9 : Nat) : Int))))) → (∀ i9, i9 < 601 → g2 i9 = pI (liv qp qt qm qf ql qx mk (fun t9 m9 y9 => sPos nb fr tt st nu s t9 m9 y9) k p (1500 + ((i9 : Nat) : Int)) ∨ ((qf k).toInt ≤ (1500 + ((i9 : Nat) : Int)) ∧ (1500 + ((i9 : Nat) : Int)) < y.toInt ∧ sPos nb fr tt st nu s (qt k) (qm k) (1500 + ((i9 : Nat) : Int))))) → (sbIs b (fun j9 => pB (src qp qs qt qm qf ql qx mk (fun t9 m9 y9 => sOnly nb fr tt st nu sn s t9 m9 y9) k p j9 ∨ ((qs k).toInt = ((j9 : Nat) : Int) ∧ ∃ z9, (qf k).toInt ≤ z9 ∧ z9 < y.toInt ∧ sOnly nb fr tt st nu sn s (qt k) (qm k) z9)))) → ∀ (H : Heap) (locs : List Loc), va_P (dC, dI) vwCl [(am 0, .inr (12, [.ref (am 1), .ref (am 2), .ref (am 3), .ref (am 4), .int (nI tn), .int (nI zsz), .int (nI zfr), .int (nI zbe), .int zha, .int zva, .int fk, .int fp, .ref (am 13), .int (nI sn), .ref (am 15), .ref (am 16), .ref (am 17), .ref (am 18), .ref (am 19), .int (nI pn), .int (nI qn), .ref (am 22), .ref (am 23), .ref (am 24), .ref (am 25), .ref (am 26), .ref (am 27), .ref (am 28), .ref (am 29), .ref (am 30), .ref (am 31), .ref (am 32), .ref (am 33), .ref (am 34), .int b, .int zsy, .int zpy, .int zfs, .int zls, .int (nI an), .ref (am 41), .ref (am 42), .ref (am 43), .ref (am 44), .ref (am 45), .ref (am 46), .ref (am 47), .ref (am 48), .ref (am 49), .ref (am 50), .int (nI zw), .ref (am 52), .ref (am 53)])), (am 15, .inl (cy 0, 40, .inl nb)), (am 16, .inl (cy 0, 320, .inl fr)), (am 17, .inl (cy 0, 320, .inl tt)), (am 18, .inl (cy 0, 320, .inl st)), (am 19, .inl (cy 0, 320, .inl nu)), (am 25, .inl (cy 0, 30, .inl mk)), (am 26, .inl (cy 0, 100, .inl qp)), (am 27, .inl (cy 0, 100, .inl qs)), (am 28, .inl (cy 0, 100, .inl qt)), (am 29, .inl (cy 0, 100, .inl qm)), (am 30, .inl (cy 0, 100, .inl qf)), (am 31, .inl (cy 0, 100, .inl ql)), (am 32, .inl (cy 2, 100, .inl qx)), (am 33, .inl (cy 2, 601, .inl f2)), (am 34, .inl (cy 2, 601, .inl g2))] H → va_D A [(am 0, .inr (12, [.ref (am 1), .ref (am 2), .ref (am 3), .ref (am 4), .int (nI tn), .int (nI zsz), .int (nI zfr), .int (nI zbe), .int zha, .int zva, .int fk, .int fp, .ref (am 13), .int (nI sn), .ref (am 15), .ref (am 16), .ref (am 17), .ref (am 18), .ref (am 19), .int (nI pn), .int (nI qn), .ref (am 22), .ref (am 23), .ref (am 24), .ref (am 25), .ref (am 26), .ref (am 27), .ref (am 28), .ref (am 29), .ref (am 30), .ref (am 31), .ref (am 32), .ref (am 33), .ref (am 34), .int b, .int zsy, .int zpy, .int zfs, .int zls, .int (nI an), .ref (am 41), .ref (am 42), .ref (am 43), .ref (am 44), .ref (am 45), .ref (am 46), .ref (am 47), .ref (am 48), .ref (am 49), .ref (am 50), .int (nI zw), .ref (am 52), .ref (am 53)])), (am 15, .inl (cy 0, 40, .inl nb)), (am 16, .inl (cy 0, 320, .inl fr)), (am 17, .inl (cy 0, 320, .inl tt)), (am 18, .inl (cy 0, 320, .inl st)), (am 19, .inl (cy 0, 320, .inl nu)), (am 25, .inl (cy 0, 30, .inl mk)), (am 26, .inl (cy 0, 100, .inl qp)), (am 27, .inl (cy 0, 100, .inl qs)), (am 28, .inl (cy 0, 100, .inl qt)), (am 29, .inl (cy 0, 100, .inl qm)), (am 30, .inl (cy 0, 100, .inl qf)), (am 31, .inl (cy 0, 100, .inl ql)), (am 32, .inl (cy 2, 100, .inl qx)), (am 33, .inl (cy 2, 601, .inl f2)), (am 34, .inl (cy 2, 601, .inl g2))] → va_S A ss.heap H locs → ∀ (ls : Array Slot), lv_has ls 5 [(0, .ref (am 0)), (1, .int (nI p)), (2, .int (nI s)), (3, .int (nI k)), (4, .int y)] → W pp l ee { frames := 4, cells := 0, slots := 0, locals := 100 } ss mm (List.toArray [Value.ref (am 0), Value.int (nI p), Value.int (nI s)]) below meth cc0 H locs 0 0 Q (F0 mm 74 ls []) := by
                  intro n9
                  induction n9 with
                  | zero => intro y f2 g2 b hm9; exact absurd hm9 (Nat.not_lt_zero _)
                  | succ n9 ih74 =>
                    intro y f2 g2 b hm74 hy1 hy2 hg1 hg2 hg3
                    intro H locs hP hD hS
                    intro ls hl
                    refine lv_iload hx hb dX12_live_74 (lv_at hl 4 rfl) ?_
                    refine lv_aload_n hx hb dX12_live_76 rfl (lv_at hl 0 rfl) ?_
                    refine va_get (D := (dC, dI)) (ci := 12) (v := .ref (am 31)) (C := RX12) (T := TX12) (N := 53) hx hb hts hiX12 hown hK hP 0 rfl rfl 30 (by decide) hL9 (fun _ h9 => h9) rfl dX12_live_77 ?_
                    refine lv_iload_n hx hb dX12_live_80 rfl (lv_at hl 3 rfl) ?_
                    refine bw_iald hx hb hK hP 12 0 rfl rfl (j := k) (nI_toInt (by omega)) (by omega) dX12_live_81 ?_
                    refine bw_icmp_gt (tgt := 187) (a := y.toInt) (b := (ql k).toInt) hx hb dX12_live_82 (by decide) rfl rfl (fun c_5 => ?_) (fun c_5 => ?_)
                    · skip
                      refine lv_iinc (v := nI (k + 1)) (lv' := [(3, .int (nI (k + 1))), (0, .ref (am 0)), (1, .int (nI p)), (2, .int (nI s)), (4, .int y)]) hx hb dX12_live_187 hl (k := 3) rfl (show nI k + Int32.ofInt 1 = nI (k + 1) from nI_add k 1) (by decide) rfl (fun ls hl => ?_)
                      refine lv_goto (tgt := 46) hx hb dX12_live_190 (by decide) ?_
                      have hI_hf1 : (∀ i9, i9 < 601 → f2 i9 = pI (liv qp qt qm qf ql qx mk (fun t9 m9 y9 => sOnly nb fr tt st nu sn s t9 m9 y9) (k + 1) p (1500 + ((i9 : Nat) : Int)))) := by
                        first
                          | (intro i9 h9
                             rw [hf1 i9 h9]
                             exact pI_cong (by rw [propext liv_s]; exact ⟨Or.inl, fun q => q.elim id (fun z => absurd ⟨z.1, z.2.1⟩ c_o)⟩))
                          | (intro i9 h9
                             rw [hg1 i9 h9]
                             apply pI_cong
                             rw [propext liv_s]
                             constructor
                             · rintro (q | q)
                               · exact Or.inl q
                               · exact Or.inr ⟨c_o.1, c_o.2, q.1, by omega, q.2.2⟩
                             · rintro (q | q)
                               · exact Or.inl q
                               · exact Or.inr ⟨q.2.2.1, by have := q.2.2.2.1; omega, q.2.2.2.2⟩)
                      have hI_hf2 : (∀ i9, i9 < 601 → g2 i9 = pI (liv qp qt qm qf ql qx mk (fun t9 m9 y9 => sPos nb fr tt st nu s t9 m9 y9) (k + 1) p (1500 + ((i9 : Nat) : Int)))) := by
                        first
                          | (intro i9 h9
                             rw [hf2 i9 h9]
                             exact pI_cong (by rw [propext liv_s]; exact ⟨Or.inl, fun q => q.elim id (fun z => absurd ⟨z.1, z.2.1⟩ c_o)⟩))
                          | (intro i9 h9
                             rw [hg2 i9 h9]
                             apply pI_cong
                             rw [propext liv_s]
                             constructor
                             · rintro (q | q)
                               · exact Or.inl q
                               · exact Or.inr ⟨c_o.1, c_o.2, q.1, by omega, q.2.2⟩
                             · rintro (q | q)
                               · exact Or.inl q
                               · exact Or.inr ⟨q.2.2.1, by have := q.2.2.2.1; omega, q.2.2.2.2⟩)
                      have hI_hf3 : sbIs b (fun j9 => pB (src qp qs qt qm qf ql qx mk (fun t9 m9 y9 => sOnly nb fr tt st nu sn s t9 m9 y9) (k + 1) p j9)) := by
                        first
                          | (obtain ⟨b9, g1, g2, g3⟩ := hf3
                             exact ⟨b9, g1, g2, fun j9 h9 => by show _ = pB _; rw [propext src_s, pB_or]; exact (g3 j9 h9).trans (or_skip (fun q => c_o ⟨q.1, q.2.1⟩))⟩)
                          | (obtain ⟨b9, g1, g2, g3⟩ := hg3
                             refine ⟨b9, g1, g2, fun j9 h9 => ?_⟩
                             rw [g3 j9 h9]
                             show pB _ = pB _
                             apply pB_cong
                             rw [propext src_s]
                             constructor
                             · rintro (q | ⟨q1, z, q2, q3, q4⟩)
                               · exact Or.inl q
                               · exact Or.inr ⟨c_o.1, c_o.2, q1, z, q2, by omega, q4⟩
                             · rintro (q | ⟨_, _, q1, z, q2, q3, q4⟩)
                               · exact Or.inl q
                               · exact Or.inr ⟨q1, z, q2, by omega, q4⟩)
                      exact ih46 (k + 1) f2 g2 b (by omega) (by first | assumption | omega) hI_hf1 hI_hf2 hI_hf3 H locs hP hD hS ls (lv_sub hl [1, 2, 3, 0] rfl)
                    · skip
                      refine lv_aload_n hx hb dX12_live_85 rfl (lv_at hl 0 rfl) ?_
                      refine lv_aload_n hx hb dX12_live_86 rfl (lv_at hl 0 rfl) ?_
                      refine va_get (D := (dC, dI)) (ci := 12) (v := .ref (am 28)) (C := RX12) (T := TX12) (N := 53) hx hb hts hiX12 hown hK hP 0 rfl rfl 27 (by decide) hL10 (fun _ h9 => h9) rfl dX12_live_87 ?_
                      refine lv_iload_n hx hb dX12_live_90 rfl (lv_at hl 3 rfl) ?_
                      refine bw_iald hx hb hK hP 9 0 rfl rfl (j := k) (nI_toInt (by omega)) (by omega) dX12_live_91 ?_
                      refine lv_aload_n hx hb dX12_live_92 rfl (lv_at hl 0 rfl) ?_
                      refine va_get (D := (dC, dI)) (ci := 12) (v := .ref (am 29)) (C := RX12) (T := TX12) (N := 53) hx hb hts hiX12 hown hK hP 0 rfl rfl 28 (by decide) hL11 (fun _ h9 => h9) rfl dX12_live_93 ?_
                      refine lv_iload_n hx hb dX12_live_96 rfl (lv_at hl 3 rfl) ?_
                      refine bw_iald hx hb hK hP 10 0 rfl rfl (j := k) (nI_toInt (by omega)) (by omega) dX12_live_97 ?_
                      refine lv_iload hx hb dX12_live_98 (lv_at hl 4 rfl) ?_
                      have hPc : va_P (dC, dI) vwCl [(am 0, .inr (12, [.ref (am 1), .ref (am 2), .ref (am 3), .ref (am 4), .int (nI tn), .int (nI zsz), .int (nI zfr), .int (nI zbe), .int zha, .int zva, .int fk, .int fp, .ref (am 13), .int (nI sn), .ref (am 15), .ref (am 16), .ref (am 17), .ref (am 18), .ref (am 19), .int (nI pn), .int (nI qn), .ref (am 22), .ref (am 23), .ref (am 24), .ref (am 25), .ref (am 26), .ref (am 27), .ref (am 28), .ref (am 29), .ref (am 30), .ref (am 31), .ref (am 32), .ref (am 33), .ref (am 34), .int b, .int zsy, .int zpy, .int zfs, .int zls, .int (nI an), .ref (am 41), .ref (am 42), .ref (am 43), .ref (am 44), .ref (am 45), .ref (am 46), .ref (am 47), .ref (am 48), .ref (am 49), .ref (am 50), .int (nI zw), .ref (am 52), .ref (am 53)])), (am 15, .inl (cy 0, 40, .inl nb)), (am 16, .inl (cy 0, 320, .inl fr)), (am 17, .inl (cy 0, 320, .inl tt)), (am 18, .inl (cy 0, 320, .inl st)), (am 19, .inl (cy 0, 320, .inl nu))] H := hP.sub [0, 1, 2, 3, 4, 5] rfl
                      refine vp_callSl (va_Run.run (va_runV (As := [.int (qt k), .int (qm k), .int y]) (rest := []) ⟨hx, hb, hml, hown, hts⟩ (c_X12_possibly l dC dI cy am tn zsz zfr zbe zha zva fk fp sn pn qn b zsy zpy zfs zls an zw nb fr tt st nu (qt k) (qm k) y (by first | assumption | omega)) (cwV 3 hts gX12_live_X12_possibly rfl rfl rfl (by decide +kernel) ⟨Nat.le_of_ble_eq_true rfl, Nat.le_of_ble_eq_true rfl⟩) ⟨fun a U g mk q => by obtain ⟨q0, qP, qK⟩ := q; exact ⟨q0, qP, va_K.moved (u := U) (U := U.calling g mk a) (Vm.Alike.refl U.vm) qK⟩, va_recv hK hPc (ci := 12) (q0 := 0) rfl rfl, fun U hU hW => ⟨rfl, by rw [hU]; exact hPc, va_K.moved hW.alike hK⟩⟩ rfl rfl hl.1 rfl (lv_room (Nat.le_of_ble_eq_true rfl)) dX12_live_100 ⟨Nat.le_of_ble_eq_true rfl, Nat.le_of_ble_eq_true rfl⟩)) (fun rp hrp => ?_)
                      refine lv_iload_n hx hb dX12_live_103 rfl (lv_at hl 2 rfl) ?_
                      refine lv_lshr hx hb dX12_live_104 rfl ?_
                      refine lv_topl (fun w1 ew1 => ?_)
                      refine lv_lconst (v := 1) hx hb dX12_live_105 (by decide) ?_
                      refine lv_land hx hb dX12_live_106 ?_
                      refine lv_topl (fun w2 ew2 => ?_)
                      refine lv_lconst (v := 0) hx hb dX12_live_107 (by decide) ?_
                      refine bw_lcmpE hx hb dX12_live_108 (fun zq tzq => ?_)
                      refine bw_if_ne (tgt := 115) (a := zq.toInt) hx hb dX12_live_109 (by decide) rfl (fun c_q => ?_) (fun c_q => ?_)
                      · skip
                        have c_p : sPos nb fr tt st nu s (qt k) (qm k) y.toInt := by
                            cases hb9 : lb rp s with
                            | true => exact ((hrp s).mp hb9).2
                            | false => exact absurd (tzq.mpr (by rw [ew2, ew1]; exact (lb_at0 rp (n := s) (by omega)).mpr hb9)) c_q
                        refine lv_aload_n hx hb dX12_live_115 rfl (lv_at hl 0 rfl) ?_
                        refine va_get (D := (dC, dI)) (ci := 12) (v := .ref (am 34)) (C := RX12) (T := TX12) (N := 53) hx hb hts hiX12 hown hK hP 0 rfl rfl 33 (by decide) hL6 (fun _ h9 => h9) rfl dX12_live_116 ?_
                        refine lv_iload hx hb dX12_live_119 (lv_at hl 4 rfl) ?_
                        refine lv_sipush (v := 1500) hx hb dX12_live_121 (by decide) ?_
                        refine lv_isub hx hb dX12_live_124 ?_
                        refine bw_nm (a := (y.toInt - 1500)) (tI_sub rfl rfl (by omega) (by omega)) (fun z_6 ez_6 tz_6 => ?_)
                        refine lv_iconst (v := 1) hx hb dX12_live_125 (by decide) ?_
                        refine bw_zast hx hb hK hP hD hS 15 2 rfl rfl (j := ((y.toInt - 1500)).toNat) (tz_6.trans (by omega)) (by omega) rfl dX12_live_126 (fun H locs hP hD hS => ?_)
                        have hP : va_P (dC, dI) vwCl [(am 0, .inr (12, [.ref (am 1), .ref (am 2), .ref (am 3), .ref (am 4), .int (nI tn), .int (nI zsz), .int (nI zfr), .int (nI zbe), .int zha, .int zva, .int fk, .int fp, .ref (am 13), .int (nI sn), .ref (am 15), .ref (am 16), .ref (am 17), .ref (am 18), .ref (am 19), .int (nI pn), .int (nI qn), .ref (am 22), .ref (am 23), .ref (am 24), .ref (am 25), .ref (am 26), .ref (am 27), .ref (am 28), .ref (am 29), .ref (am 30), .ref (am 31), .ref (am 32), .ref (am 33), .ref (am 34), .int b, .int zsy, .int zpy, .int zfs, .int zls, .int (nI an), .ref (am 41), .ref (am 42), .ref (am 43), .ref (am 44), .ref (am 45), .ref (am 46), .ref (am 47), .ref (am 48), .ref (am 49), .ref (am 50), .int (nI zw), .ref (am 52), .ref (am 53)])), (am 15, .inl (cy 0, 40, .inl nb)), (am 16, .inl (cy 0, 320, .inl fr)), (am 17, .inl (cy 0, 320, .inl tt)), (am 18, .inl (cy 0, 320, .inl st)), (am 19, .inl (cy 0, 320, .inl nu)), (am 25, .inl (cy 0, 30, .inl mk)), (am 26, .inl (cy 0, 100, .inl qp)), (am 27, .inl (cy 0, 100, .inl qs)), (am 28, .inl (cy 0, 100, .inl qt)), (am 29, .inl (cy 0, 100, .inl qm)), (am 30, .inl (cy 0, 100, .inl qf)), (am 31, .inl (cy 0, 100, .inl ql)), (am 32, .inl (cy 2, 100, .inl qx)), (am 33, .inl (cy 2, 601, .inl f2)), (am 34, .inl (cy 2, 601, .inl (upd g2 (((y.toInt - 1500)).toNat) 1)))] H := hP
                        have hD : va_D A [(am 0, .inr (12, [.ref (am 1), .ref (am 2), .ref (am 3), .ref (am 4), .int (nI tn), .int (nI zsz), .int (nI zfr), .int (nI zbe), .int zha, .int zva, .int fk, .int fp, .ref (am 13), .int (nI sn), .ref (am 15), .ref (am 16), .ref (am 17), .ref (am 18), .ref (am 19), .int (nI pn), .int (nI qn), .ref (am 22), .ref (am 23), .ref (am 24), .ref (am 25), .ref (am 26), .ref (am 27), .ref (am 28), .ref (am 29), .ref (am 30), .ref (am 31), .ref (am 32), .ref (am 33), .ref (am 34), .int b, .int zsy, .int zpy, .int zfs, .int zls, .int (nI an), .ref (am 41), .ref (am 42), .ref (am 43), .ref (am 44), .ref (am 45), .ref (am 46), .ref (am 47), .ref (am 48), .ref (am 49), .ref (am 50), .int (nI zw), .ref (am 52), .ref (am 53)])), (am 15, .inl (cy 0, 40, .inl nb)), (am 16, .inl (cy 0, 320, .inl fr)), (am 17, .inl (cy 0, 320, .inl tt)), (am 18, .inl (cy 0, 320, .inl st)), (am 19, .inl (cy 0, 320, .inl nu)), (am 25, .inl (cy 0, 30, .inl mk)), (am 26, .inl (cy 0, 100, .inl qp)), (am 27, .inl (cy 0, 100, .inl qs)), (am 28, .inl (cy 0, 100, .inl qt)), (am 29, .inl (cy 0, 100, .inl qm)), (am 30, .inl (cy 0, 100, .inl qf)), (am 31, .inl (cy 0, 100, .inl ql)), (am 32, .inl (cy 2, 100, .inl qx)), (am 33, .inl (cy 2, 601, .inl f2)), (am 34, .inl (cy 2, 601, .inl (upd g2 (((y.toInt - 1500)).toNat) 1)))] := hD
                        refine lv_aload_n hx hb dX12_live_127 rfl (lv_at hl 0 rfl) ?_
                        refine lv_aload_n hx hb dX12_live_128 rfl (lv_at hl 0 rfl) ?_
                        refine va_get (D := (dC, dI)) (ci := 12) (v := .ref (am 28)) (C := RX12) (T := TX12) (N := 53) hx hb hts hiX12 hown hK hP 0 rfl rfl 27 (by decide) hL10 (fun _ h9 => h9) rfl dX12_live_129 ?_
                        refine lv_iload_n hx hb dX12_live_132 rfl (lv_at hl 3 rfl) ?_
                        refine bw_iald hx hb hK hP 9 0 rfl rfl (j := k) (nI_toInt (by omega)) (by omega) dX12_live_133 ?_
                        refine lv_aload_n hx hb dX12_live_134 rfl (lv_at hl 0 rfl) ?_
                        refine va_get (D := (dC, dI)) (ci := 12) (v := .ref (am 29)) (C := RX12) (T := TX12) (N := 53) hx hb hts hiX12 hown hK hP 0 rfl rfl 28 (by decide) hL11 (fun _ h9 => h9) rfl dX12_live_135 ?_
                        refine lv_iload_n hx hb dX12_live_138 rfl (lv_at hl 3 rfl) ?_
                        refine bw_iald hx hb hK hP 10 0 rfl rfl (j := k) (nI_toInt (by omega)) (by omega) dX12_live_139 ?_
                        refine lv_iload hx hb dX12_live_140 (lv_at hl 4 rfl) ?_
                        have hPc : va_P (dC, dI) vwCl [(am 0, .inr (12, [.ref (am 1), .ref (am 2), .ref (am 3), .ref (am 4), .int (nI tn), .int (nI zsz), .int (nI zfr), .int (nI zbe), .int zha, .int zva, .int fk, .int fp, .ref (am 13), .int (nI sn), .ref (am 15), .ref (am 16), .ref (am 17), .ref (am 18), .ref (am 19), .int (nI pn), .int (nI qn), .ref (am 22), .ref (am 23), .ref (am 24), .ref (am 25), .ref (am 26), .ref (am 27), .ref (am 28), .ref (am 29), .ref (am 30), .ref (am 31), .ref (am 32), .ref (am 33), .ref (am 34), .int b, .int zsy, .int zpy, .int zfs, .int zls, .int (nI an), .ref (am 41), .ref (am 42), .ref (am 43), .ref (am 44), .ref (am 45), .ref (am 46), .ref (am 47), .ref (am 48), .ref (am 49), .ref (am 50), .int (nI zw), .ref (am 52), .ref (am 53)])), (am 15, .inl (cy 0, 40, .inl nb)), (am 16, .inl (cy 0, 320, .inl fr)), (am 17, .inl (cy 0, 320, .inl tt)), (am 18, .inl (cy 0, 320, .inl st)), (am 19, .inl (cy 0, 320, .inl nu))] H := hP.sub [0, 1, 2, 3, 4, 5] rfl
                        refine vp_callSi (va_Run.run (va_runV (As := [.int (qt k), .int (qm k), .int y]) (rest := []) ⟨hx, hb, hml, hown, hts⟩ (c_X12_surelyIs l dC dI cy am tn zsz zfr zbe zha zva fk fp sn pn qn b zsy zpy zfs zls an zw nb fr tt st nu (qt k) (qm k) y (by first | assumption | omega)) (cwV 3 hts gX12_live_X12_surelyIs rfl rfl rfl (by decide +kernel) ⟨Nat.le_of_ble_eq_true rfl, Nat.le_of_ble_eq_true rfl⟩) ⟨fun a U g mk q => by obtain ⟨q0, qP, qK⟩ := q; exact ⟨q0, qP, va_K.moved (u := U) (U := U.calling g mk a) (Vm.Alike.refl U.vm) qK⟩, va_recv hK hPc (ci := 12) (q0 := 0) rfl rfl, fun U hU hW => ⟨rfl, by rw [hU]; exact hPc, va_K.moved hW.alike hK⟩⟩ rfl rfl hl.1 rfl (lv_room (Nat.le_of_ble_eq_true rfl)) dX12_live_142 ⟨Nat.le_of_ble_eq_true rfl, Nat.le_of_ble_eq_true rfl⟩)) (fun ri hri => ?_)
                        refine lv_iload_n hx hb dX12_live_145 rfl (lv_at hl 2 rfl) ?_
                        refine bw_icmp_eq (tgt := 152) (a := ri.toInt) (b := ((s : Nat) : Int)) hx hb dX12_live_146 (by decide) rfl (nI_toInt (by omega)) (fun c_e => ?_) (fun c_e => ?_)
                        · skip
                          have c_s : sOnly nb fr tt st nu sn s (qt k) (qm k) y.toInt := by
                              rcases hri with ⟨s9, g1, g2, g3⟩ | ⟨g1, g2⟩
                              · rw [g2, nI_toInt (by omega)] at c_e
                                have e : s9 = s := by omega
                                rw [← e]; exact g3
                              · rw [g1] at c_e
                                have z : (-1 : Int32).toInt = -1 := rfl
                                omega
                          clear hri
                          refine lv_aload_n hx hb dX12_live_152 rfl (lv_at hl 0 rfl) ?_
                          refine va_get (D := (dC, dI)) (ci := 12) (v := .ref (am 33)) (C := RX12) (T := TX12) (N := 53) hx hb hts hiX12 hown hK hP 0 rfl rfl 32 (by decide) hL7 (fun _ h9 => h9) rfl dX12_live_153 ?_
                          refine lv_iload hx hb dX12_live_156 (lv_at hl 4 rfl) ?_
                          refine lv_sipush (v := 1500) hx hb dX12_live_158 (by decide) ?_
                          refine lv_isub hx hb dX12_live_161 ?_
                          refine bw_nm (a := (y.toInt - 1500)) (tI_sub rfl rfl (by omega) (by omega)) (fun z_7 ez_7 tz_7 => ?_)
                          refine lv_iconst (v := 1) hx hb dX12_live_162 (by decide) ?_
                          refine bw_zast hx hb hK hP hD hS 14 2 rfl rfl (j := ((y.toInt - 1500)).toNat) (tz_7.trans (by omega)) (by omega) rfl dX12_live_163 (fun H locs hP hD hS => ?_)
                          have hP : va_P (dC, dI) vwCl [(am 0, .inr (12, [.ref (am 1), .ref (am 2), .ref (am 3), .ref (am 4), .int (nI tn), .int (nI zsz), .int (nI zfr), .int (nI zbe), .int zha, .int zva, .int fk, .int fp, .ref (am 13), .int (nI sn), .ref (am 15), .ref (am 16), .ref (am 17), .ref (am 18), .ref (am 19), .int (nI pn), .int (nI qn), .ref (am 22), .ref (am 23), .ref (am 24), .ref (am 25), .ref (am 26), .ref (am 27), .ref (am 28), .ref (am 29), .ref (am 30), .ref (am 31), .ref (am 32), .ref (am 33), .ref (am 34), .int b, .int zsy, .int zpy, .int zfs, .int zls, .int (nI an), .ref (am 41), .ref (am 42), .ref (am 43), .ref (am 44), .ref (am 45), .ref (am 46), .ref (am 47), .ref (am 48), .ref (am 49), .ref (am 50), .int (nI zw), .ref (am 52), .ref (am 53)])), (am 15, .inl (cy 0, 40, .inl nb)), (am 16, .inl (cy 0, 320, .inl fr)), (am 17, .inl (cy 0, 320, .inl tt)), (am 18, .inl (cy 0, 320, .inl st)), (am 19, .inl (cy 0, 320, .inl nu)), (am 25, .inl (cy 0, 30, .inl mk)), (am 26, .inl (cy 0, 100, .inl qp)), (am 27, .inl (cy 0, 100, .inl qs)), (am 28, .inl (cy 0, 100, .inl qt)), (am 29, .inl (cy 0, 100, .inl qm)), (am 30, .inl (cy 0, 100, .inl qf)), (am 31, .inl (cy 0, 100, .inl ql)), (am 32, .inl (cy 2, 100, .inl qx)), (am 33, .inl (cy 2, 601, .inl (upd f2 (((y.toInt - 1500)).toNat) 1))), (am 34, .inl (cy 2, 601, .inl (upd g2 (((y.toInt - 1500)).toNat) 1)))] H := hP
                          have hD : va_D A [(am 0, .inr (12, [.ref (am 1), .ref (am 2), .ref (am 3), .ref (am 4), .int (nI tn), .int (nI zsz), .int (nI zfr), .int (nI zbe), .int zha, .int zva, .int fk, .int fp, .ref (am 13), .int (nI sn), .ref (am 15), .ref (am 16), .ref (am 17), .ref (am 18), .ref (am 19), .int (nI pn), .int (nI qn), .ref (am 22), .ref (am 23), .ref (am 24), .ref (am 25), .ref (am 26), .ref (am 27), .ref (am 28), .ref (am 29), .ref (am 30), .ref (am 31), .ref (am 32), .ref (am 33), .ref (am 34), .int b, .int zsy, .int zpy, .int zfs, .int zls, .int (nI an), .ref (am 41), .ref (am 42), .ref (am 43), .ref (am 44), .ref (am 45), .ref (am 46), .ref (am 47), .ref (am 48), .ref (am 49), .ref (am 50), .int (nI zw), .ref (am 52), .ref (am 53)])), (am 15, .inl (cy 0, 40, .inl nb)), (am 16, .inl (cy 0, 320, .inl fr)), (am 17, .inl (cy 0, 320, .inl tt)), (am 18, .inl (cy 0, 320, .inl st)), (am 19, .inl (cy 0, 320, .inl nu)), (am 25, .inl (cy 0, 30, .inl mk)), (am 26, .inl (cy 0, 100, .inl qp)), (am 27, .inl (cy 0, 100, .inl qs)), (am 28, .inl (cy 0, 100, .inl qt)), (am 29, .inl (cy 0, 100, .inl qm)), (am 30, .inl (cy 0, 100, .inl qf)), (am 31, .inl (cy 0, 100, .inl ql)), (am 32, .inl (cy 2, 100, .inl qx)), (am 33, .inl (cy 2, 601, .inl (upd f2 (((y.toInt - 1500)).toNat) 1))), (am 34, .inl (cy 2, 601, .inl (upd g2 (((y.toInt - 1500)).toNat) 1)))] := hD
                          refine lv_aload_n hx hb dX12_live_164 rfl (lv_at hl 0 rfl) ?_
                          refine lv_dup hx hb dX12_live_165 rfl ?_
                          refine va_get (D := (dC, dI)) (ci := 12) (v := .int b) (C := RX12) (T := TX12) (N := 53) hx hb hts hiX12 hown hK hP 0 rfl rfl 34 (by decide) hL0 (fun _ h9 => h9) rfl dX12_live_166 ?_
                          refine lv_iconst (v := 1) hx hb dX12_live_169 (by decide) ?_
                          refine lv_aload_n hx hb dX12_live_170 rfl (lv_at hl 0 rfl) ?_
                          refine va_get (D := (dC, dI)) (ci := 12) (v := .ref (am 27)) (C := RX12) (T := TX12) (N := 53) hx hb hts hiX12 hown hK hP 0 rfl rfl 26 (by decide) hL12 (fun _ h9 => h9) rfl dX12_live_171 ?_
                          refine lv_iload_n hx hb dX12_live_174 rfl (lv_at hl 3 rfl) ?_
                          refine bw_iald hx hb hK hP 8 0 rfl rfl (j := k) (nI_toInt (by omega)) (by omega) dX12_live_175 ?_
                          refine lv_ishl hx hb dX12_live_176 ?_
                          refine bw_re (show (1 : Int32) <<< ((qs k) &&& 31) = nI (2 ^ (qs k).toInt.toNat) from (by rw [show qs k = nI (qs k).toInt.toNat from nI_back (by omega)]; rw [one_shl _ (by omega)]; rw [nI_toInt (by omega)]; rfl)) ?_
                          refine lv_ior hx hb dX12_live_177 ?_
                          refine lv_topi (fun zo ezo => ?_)
                          refine va_put (D := (dC, dI)) (ci := 12) (v := .int zo) (ty := (tyX12 34)) (C := RX12) (T := TX12) (N := 53) hx hb hts hiX12 tyX12 tyX12_ok nmX12 hown hK hP hD hS 0 rfl rfl 34 (by decide) hL0 (fun _ h9 => h9) rfl (by decide +kernel) rfl rfl (Nat.le_of_ble_eq_true rfl) dX12_live_178 (fun H locs hP hD hS => ?_)
                          have hP : va_P (dC, dI) vwCl [(am 0, .inr (12, [.ref (am 1), .ref (am 2), .ref (am 3), .ref (am 4), .int (nI tn), .int (nI zsz), .int (nI zfr), .int (nI zbe), .int zha, .int zva, .int fk, .int fp, .ref (am 13), .int (nI sn), .ref (am 15), .ref (am 16), .ref (am 17), .ref (am 18), .ref (am 19), .int (nI pn), .int (nI qn), .ref (am 22), .ref (am 23), .ref (am 24), .ref (am 25), .ref (am 26), .ref (am 27), .ref (am 28), .ref (am 29), .ref (am 30), .ref (am 31), .ref (am 32), .ref (am 33), .ref (am 34), .int zo, .int zsy, .int zpy, .int zfs, .int zls, .int (nI an), .ref (am 41), .ref (am 42), .ref (am 43), .ref (am 44), .ref (am 45), .ref (am 46), .ref (am 47), .ref (am 48), .ref (am 49), .ref (am 50), .int (nI zw), .ref (am 52), .ref (am 53)])), (am 15, .inl (cy 0, 40, .inl nb)), (am 16, .inl (cy 0, 320, .inl fr)), (am 17, .inl (cy 0, 320, .inl tt)), (am 18, .inl (cy 0, 320, .inl st)), (am 19, .inl (cy 0, 320, .inl nu)), (am 25, .inl (cy 0, 30, .inl mk)), (am 26, .inl (cy 0, 100, .inl qp)), (am 27, .inl (cy 0, 100, .inl qs)), (am 28, .inl (cy 0, 100, .inl qt)), (am 29, .inl (cy 0, 100, .inl qm)), (am 30, .inl (cy 0, 100, .inl qf)), (am 31, .inl (cy 0, 100, .inl ql)), (am 32, .inl (cy 2, 100, .inl qx)), (am 33, .inl (cy 2, 601, .inl (upd f2 (((y.toInt - 1500)).toNat) 1))), (am 34, .inl (cy 2, 601, .inl (upd g2 (((y.toInt - 1500)).toNat) 1)))] H := hP
                          have hD : va_D A [(am 0, .inr (12, [.ref (am 1), .ref (am 2), .ref (am 3), .ref (am 4), .int (nI tn), .int (nI zsz), .int (nI zfr), .int (nI zbe), .int zha, .int zva, .int fk, .int fp, .ref (am 13), .int (nI sn), .ref (am 15), .ref (am 16), .ref (am 17), .ref (am 18), .ref (am 19), .int (nI pn), .int (nI qn), .ref (am 22), .ref (am 23), .ref (am 24), .ref (am 25), .ref (am 26), .ref (am 27), .ref (am 28), .ref (am 29), .ref (am 30), .ref (am 31), .ref (am 32), .ref (am 33), .ref (am 34), .int zo, .int zsy, .int zpy, .int zfs, .int zls, .int (nI an), .ref (am 41), .ref (am 42), .ref (am 43), .ref (am 44), .ref (am 45), .ref (am 46), .ref (am 47), .ref (am 48), .ref (am 49), .ref (am 50), .int (nI zw), .ref (am 52), .ref (am 53)])), (am 15, .inl (cy 0, 40, .inl nb)), (am 16, .inl (cy 0, 320, .inl fr)), (am 17, .inl (cy 0, 320, .inl tt)), (am 18, .inl (cy 0, 320, .inl st)), (am 19, .inl (cy 0, 320, .inl nu)), (am 25, .inl (cy 0, 30, .inl mk)), (am 26, .inl (cy 0, 100, .inl qp)), (am 27, .inl (cy 0, 100, .inl qs)), (am 28, .inl (cy 0, 100, .inl qt)), (am 29, .inl (cy 0, 100, .inl qm)), (am 30, .inl (cy 0, 100, .inl qf)), (am 31, .inl (cy 0, 100, .inl ql)), (am 32, .inl (cy 2, 100, .inl qx)), (am 33, .inl (cy 2, 601, .inl (upd f2 (((y.toInt - 1500)).toNat) 1))), (am 34, .inl (cy 2, 601, .inl (upd g2 (((y.toInt - 1500)).toNat) 1)))] := hD
                          obtain ⟨z_8, ez_8⟩ : ∃ y9 : Int32, y9 = y + 1 := ⟨_, rfl⟩
                          have tz_8 : z_8.toInt = y.toInt + 1 := by rw [ez_8]; exact tI_add rfl rfl (by omega) (by omega)
                          refine lv_iinc (v := z_8) (lv' := [(4, .int z_8), (0, .ref (am 0)), (1, .int (nI p)), (2, .int (nI s)), (3, .int (nI k))]) hx hb dX12_live_181 hl (k := 4) rfl (by rw [ez_8]; rfl) (by decide) rfl (fun ls hl => ?_)
                          refine lv_goto (tgt := 74) hx hb dX12_live_184 (by decide) ?_
                          have hI_hg1 : (∀ i9, i9 < 601 → (upd f2 (((y.toInt - 1500)).toNat) 1) i9 = pI (liv qp qt qm qf ql qx mk (fun t9 m9 y9 => sOnly nb fr tt st nu sn s t9 m9 y9) k p (1500 + ((i9 : Nat) : Int)) ∨ ((qf k).toInt ≤ (1500 + ((i9 : Nat) : Int)) ∧ (1500 + ((i9 : Nat) : Int)) < z_8.toInt ∧ sOnly nb fr tt st nu sn s (qt k) (qm k) (1500 + ((i9 : Nat) : Int))))) := by
                            intro i9 h9
                            by_cases q : i9 = (y.toInt - 1500).toNat
                            · have q2 : 1500 + ((i9 : Nat) : Int) = y.toInt := by omega
                              first
                                | (rw [q, pk_us, ← q, q2]
                                   exact (pI_t (Or.inr ⟨by omega, by omega, c_s⟩)).symm)
                                | (rw [hg1 i9 h9, q2]
                                   exact pI_cong ⟨fun z => z.elim Or.inl (fun z => absurd z.2.1 (by omega)), fun z => z.elim Or.inl (fun z => absurd z.2.2 c_s)⟩)
                                | (rw [hg1 i9 h9, q2]
                                   exact pI_cong ⟨fun z => z.elim Or.inl (fun z => absurd z.2.1 (by omega)), fun z => z.elim Or.inl (fun z => absurd (sSu1_pos hall hs9 z.2.2.1) c_p)⟩)
                            · first | rw [pk_un q] | skip
                              rw [hg1 i9 h9]
                              exact pI_cong ⟨fun z => z.elim Or.inl (fun z => Or.inr ⟨z.1, by omega, z.2.2⟩), fun z => z.elim Or.inl (fun z => Or.inr ⟨z.1, by omega, z.2.2⟩)⟩
                          have hI_hg2 : (∀ i9, i9 < 601 → (upd g2 (((y.toInt - 1500)).toNat) 1) i9 = pI (liv qp qt qm qf ql qx mk (fun t9 m9 y9 => sPos nb fr tt st nu s t9 m9 y9) k p (1500 + ((i9 : Nat) : Int)) ∨ ((qf k).toInt ≤ (1500 + ((i9 : Nat) : Int)) ∧ (1500 + ((i9 : Nat) : Int)) < z_8.toInt ∧ sPos nb fr tt st nu s (qt k) (qm k) (1500 + ((i9 : Nat) : Int))))) := by
                            intro i9 h9
                            by_cases q : i9 = (y.toInt - 1500).toNat
                            · have q2 : 1500 + ((i9 : Nat) : Int) = y.toInt := by omega
                              first
                                | (rw [q, pk_us, ← q, q2]
                                   exact (pI_t (Or.inr ⟨by omega, by omega, c_p⟩)).symm)
                                | (rw [hg2 i9 h9, q2]
                                   exact pI_cong ⟨fun z => z.elim Or.inl (fun z => absurd z.2.1 (by omega)), fun z => z.elim Or.inl (fun z => absurd z.2.2 c_p)⟩)
                                | (rw [hg2 i9 h9, q2]
                                   exact pI_cong ⟨fun z => z.elim Or.inl (fun z => absurd z.2.1 (by omega)), fun z => z.elim Or.inl (fun z => absurd (sSu1_pos hall hs9 z.2.2.1) c_p)⟩)
                            · first | rw [pk_un q] | skip
                              rw [hg2 i9 h9]
                              exact pI_cong ⟨fun z => z.elim Or.inl (fun z => Or.inr ⟨z.1, by omega, z.2.2⟩), fun z => z.elim Or.inl (fun z => Or.inr ⟨z.1, by omega, z.2.2⟩)⟩
                          have hI_hg3 : sbIs zo (fun j9 => pB (src qp qs qt qm qf ql qx mk (fun t9 m9 y9 => sOnly nb fr tt st nu sn s t9 m9 y9) k p j9 ∨ ((qs k).toInt = ((j9 : Nat) : Int) ∧ ∃ z9, (qf k).toInt ≤ z9 ∧ z9 < z_8.toInt ∧ sOnly nb fr tt st nu sn s (qt k) (qm k) z9))) := by
                            obtain ⟨b9, g1, g2, g3⟩ := hg3
                            first
                              | (refine ⟨b9 ||| 2 ^ (qs k).toInt.toNat, or64 b9 g1 _ (by omega), by rw [ezo, g2]; exact fa_or _ _, fun j9 h9 => ?_⟩
                                 rw [fb_bit_set, g3 j9 h9]
                                 show (pB _ || _) = pB _
                                 by_cases q2 : (qs k).toInt = ((j9 : Nat) : Int)
                                 · rw [decide_eq_true (show j9 = (qs k).toInt.toNat by omega), Bool.or_true]
                                   exact (pB_t (Or.inr ⟨q2, y.toInt, by omega, by omega, c_s⟩)).symm
                                 · rw [decide_eq_false (show ¬ j9 = (qs k).toInt.toNat by omega), Bool.or_false]
                                   exact pB_cong ⟨fun z => z.elim Or.inl (fun z => absurd z.1 q2), fun z => z.elim Or.inl (fun z => absurd z.1 q2)⟩)
                              | (refine ⟨b9, g1, g2, fun j9 h9 => ?_⟩
                                 rw [g3 j9 h9]
                                 show pB _ = pB _
                                 apply pB_cong
                                 constructor
                                 · rintro (q | ⟨q1, z, q2, q3, q4⟩)
                                   · exact Or.inl q
                                   · exact Or.inr ⟨q1, z, q2, by omega, q4⟩
                                 · rintro (q | ⟨q1, z, q2, q3, q4⟩)
                                   · exact Or.inl q
                                   · refine Or.inr ⟨q1, z, q2, ?_, q4⟩
                                     by_cases e : z = y.toInt
                                     · rw [e] at q4
                                       first
                                         | exact absurd q4 c_s
                                         | exact absurd (sSu1_pos hall hs9 q4.1) c_p
                                     · omega)
                          exact ih74 z_8 (upd f2 (((y.toInt - 1500)).toNat) 1) (upd g2 (((y.toInt - 1500)).toNat) 1) zo (by omega) (by first | assumption | omega) (by first | assumption | omega) hI_hg1 hI_hg2 hI_hg3 H locs hP hD hS ls (lv_sub hl [1, 2, 3, 4, 0] rfl)
                        · skip
                          have c_s : ¬ sOnly nb fr tt st nu sn s (qt k) (qm k) y.toInt := fun q => by
                              rcases hri with ⟨s9, g1, g2, g3⟩ | ⟨g1, g2⟩
                              · have e := sOnly_one hall g1 hs9 g3 q
                                rw [g2, e, nI_toInt (by omega)] at c_e; exact c_e rfl
                              · exact g2 s hs9 q
                          clear hri
                          refine lv_goto (tgt := 181) hx hb dX12_live_149 (by decide) ?_
                          obtain ⟨z_9, ez_9⟩ : ∃ y9 : Int32, y9 = y + 1 := ⟨_, rfl⟩
                          have tz_9 : z_9.toInt = y.toInt + 1 := by rw [ez_9]; exact tI_add rfl rfl (by omega) (by omega)
                          refine lv_iinc (v := z_9) (lv' := [(4, .int z_9), (0, .ref (am 0)), (1, .int (nI p)), (2, .int (nI s)), (3, .int (nI k))]) hx hb dX12_live_181 hl (k := 4) rfl (by rw [ez_9]; rfl) (by decide) rfl (fun ls hl => ?_)
                          refine lv_goto (tgt := 74) hx hb dX12_live_184 (by decide) ?_
                          have hI_hg1 : (∀ i9, i9 < 601 → f2 i9 = pI (liv qp qt qm qf ql qx mk (fun t9 m9 y9 => sOnly nb fr tt st nu sn s t9 m9 y9) k p (1500 + ((i9 : Nat) : Int)) ∨ ((qf k).toInt ≤ (1500 + ((i9 : Nat) : Int)) ∧ (1500 + ((i9 : Nat) : Int)) < z_9.toInt ∧ sOnly nb fr tt st nu sn s (qt k) (qm k) (1500 + ((i9 : Nat) : Int))))) := by
                            intro i9 h9
                            by_cases q : i9 = (y.toInt - 1500).toNat
                            · have q2 : 1500 + ((i9 : Nat) : Int) = y.toInt := by omega
                              first
                                | (rw [q, pk_us, ← q, q2]
                                   exact (pI_t (Or.inr ⟨by omega, by omega, c_s⟩)).symm)
                                | (rw [hg1 i9 h9, q2]
                                   exact pI_cong ⟨fun z => z.elim Or.inl (fun z => absurd z.2.1 (by omega)), fun z => z.elim Or.inl (fun z => absurd z.2.2 c_s)⟩)
                                | (rw [hg1 i9 h9, q2]
                                   exact pI_cong ⟨fun z => z.elim Or.inl (fun z => absurd z.2.1 (by omega)), fun z => z.elim Or.inl (fun z => absurd (sSu1_pos hall hs9 z.2.2.1) c_p)⟩)
                            · first | rw [pk_un q] | skip
                              rw [hg1 i9 h9]
                              exact pI_cong ⟨fun z => z.elim Or.inl (fun z => Or.inr ⟨z.1, by omega, z.2.2⟩), fun z => z.elim Or.inl (fun z => Or.inr ⟨z.1, by omega, z.2.2⟩)⟩
                          have hI_hg2 : (∀ i9, i9 < 601 → (upd g2 (((y.toInt - 1500)).toNat) 1) i9 = pI (liv qp qt qm qf ql qx mk (fun t9 m9 y9 => sPos nb fr tt st nu s t9 m9 y9) k p (1500 + ((i9 : Nat) : Int)) ∨ ((qf k).toInt ≤ (1500 + ((i9 : Nat) : Int)) ∧ (1500 + ((i9 : Nat) : Int)) < z_9.toInt ∧ sPos nb fr tt st nu s (qt k) (qm k) (1500 + ((i9 : Nat) : Int))))) := by
                            intro i9 h9
                            by_cases q : i9 = (y.toInt - 1500).toNat
                            · have q2 : 1500 + ((i9 : Nat) : Int) = y.toInt := by omega
                              first
                                | (rw [q, pk_us, ← q, q2]
                                   exact (pI_t (Or.inr ⟨by omega, by omega, c_p⟩)).symm)
                                | (rw [hg2 i9 h9, q2]
                                   exact pI_cong ⟨fun z => z.elim Or.inl (fun z => absurd z.2.1 (by omega)), fun z => z.elim Or.inl (fun z => absurd z.2.2 c_p)⟩)
                                | (rw [hg2 i9 h9, q2]
                                   exact pI_cong ⟨fun z => z.elim Or.inl (fun z => absurd z.2.1 (by omega)), fun z => z.elim Or.inl (fun z => absurd (sSu1_pos hall hs9 z.2.2.1) c_p)⟩)
                            · first | rw [pk_un q] | skip
                              rw [hg2 i9 h9]
                              exact pI_cong ⟨fun z => z.elim Or.inl (fun z => Or.inr ⟨z.1, by omega, z.2.2⟩), fun z => z.elim Or.inl (fun z => Or.inr ⟨z.1, by omega, z.2.2⟩)⟩
                          have hI_hg3 : sbIs b (fun j9 => pB (src qp qs qt qm qf ql qx mk (fun t9 m9 y9 => sOnly nb fr tt st nu sn s t9 m9 y9) k p j9 ∨ ((qs k).toInt = ((j9 : Nat) : Int) ∧ ∃ z9, (qf k).toInt ≤ z9 ∧ z9 < z_9.toInt ∧ sOnly nb fr tt st nu sn s (qt k) (qm k) z9))) := by
                            obtain ⟨b9, g1, g2, g3⟩ := hg3
                            first
                              | (refine ⟨b9 ||| 2 ^ (qs k).toInt.toNat, or64 b9 g1 _ (by omega), by rw [ezo, g2]; exact fa_or _ _, fun j9 h9 => ?_⟩
                                 rw [fb_bit_set, g3 j9 h9]
                                 show (pB _ || _) = pB _
                                 by_cases q2 : (qs k).toInt = ((j9 : Nat) : Int)
                                 · rw [decide_eq_true (show j9 = (qs k).toInt.toNat by omega), Bool.or_true]
                                   exact (pB_t (Or.inr ⟨q2, y.toInt, by omega, by omega, c_s⟩)).symm
                                 · rw [decide_eq_false (show ¬ j9 = (qs k).toInt.toNat by omega), Bool.or_false]
                                   exact pB_cong ⟨fun z => z.elim Or.inl (fun z => absurd z.1 q2), fun z => z.elim Or.inl (fun z => absurd z.1 q2)⟩)
                              | (refine ⟨b9, g1, g2, fun j9 h9 => ?_⟩
                                 rw [g3 j9 h9]
                                 show pB _ = pB _
                                 apply pB_cong
                                 constructor
                                 · rintro (q | ⟨q1, z, q2, q3, q4⟩)
                                   · exact Or.inl q
                                   · exact Or.inr ⟨q1, z, q2, by omega, q4⟩
                                 · rintro (q | ⟨q1, z, q2, q3, q4⟩)
                                   · exact Or.inl q
                                   · refine Or.inr ⟨q1, z, q2, ?_, q4⟩
                                     by_cases e : z = y.toInt
                                     · rw [e] at q4
                                       first
                                         | exact absurd q4 c_s
                                         | exact absurd (sSu1_pos hall hs9 q4.1) c_p
                                     · omega)
                          exact ih74 z_9 f2 (upd g2 (((y.toInt - 1500)).toNat) 1) b (by omega) (by first | assumption | omega) (by first | assumption | omega) hI_hg1 hI_hg2 hI_hg3 H locs hP hD hS ls (lv_sub hl [1, 2, 3, 4, 0] rfl)
                      · skip
                        have c_p : ¬ sPos nb fr tt st nu s (qt k) (qm k) y.toInt := fun q => by
                            have z := (lb_at0 rp (n := s) (by omega)).mp (by rw [← ew1, ← ew2]; exact tzq.mp c_q)
                            rw [(hrp s).mpr ⟨hs9, q⟩] at z; cases z
                        refine lv_goto (tgt := 181) hx hb dX12_live_112 (by decide) ?_
                        obtain ⟨z_10, ez_10⟩ : ∃ y9 : Int32, y9 = y + 1 := ⟨_, rfl⟩
                        have tz_10 : z_10.toInt = y.toInt + 1 := by rw [ez_10]; exact tI_add rfl rfl (by omega) (by omega)
                        refine lv_iinc (v := z_10) (lv' := [(4, .int z_10), (0, .ref (am 0)), (1, .int (nI p)), (2, .int (nI s)), (3, .int (nI k))]) hx hb dX12_live_181 hl (k := 4) rfl (by rw [ez_10]; rfl) (by decide) rfl (fun ls hl => ?_)
                        refine lv_goto (tgt := 74) hx hb dX12_live_184 (by decide) ?_
                        have hI_hg1 : (∀ i9, i9 < 601 → f2 i9 = pI (liv qp qt qm qf ql qx mk (fun t9 m9 y9 => sOnly nb fr tt st nu sn s t9 m9 y9) k p (1500 + ((i9 : Nat) : Int)) ∨ ((qf k).toInt ≤ (1500 + ((i9 : Nat) : Int)) ∧ (1500 + ((i9 : Nat) : Int)) < z_10.toInt ∧ sOnly nb fr tt st nu sn s (qt k) (qm k) (1500 + ((i9 : Nat) : Int))))) := by
                          intro i9 h9
                          by_cases q : i9 = (y.toInt - 1500).toNat
                          · have q2 : 1500 + ((i9 : Nat) : Int) = y.toInt := by omega
                            first
                              | (rw [q, pk_us, ← q, q2]
                                 exact (pI_t (Or.inr ⟨by omega, by omega, c_s⟩)).symm)
                              | (rw [hg1 i9 h9, q2]
                                 exact pI_cong ⟨fun z => z.elim Or.inl (fun z => absurd z.2.1 (by omega)), fun z => z.elim Or.inl (fun z => absurd z.2.2 c_s)⟩)
                              | (rw [hg1 i9 h9, q2]
                                 exact pI_cong ⟨fun z => z.elim Or.inl (fun z => absurd z.2.1 (by omega)), fun z => z.elim Or.inl (fun z => absurd (sSu1_pos hall hs9 z.2.2.1) c_p)⟩)
                          · first | rw [pk_un q] | skip
                            rw [hg1 i9 h9]
                            exact pI_cong ⟨fun z => z.elim Or.inl (fun z => Or.inr ⟨z.1, by omega, z.2.2⟩), fun z => z.elim Or.inl (fun z => Or.inr ⟨z.1, by omega, z.2.2⟩)⟩
                        have hI_hg2 : (∀ i9, i9 < 601 → g2 i9 = pI (liv qp qt qm qf ql qx mk (fun t9 m9 y9 => sPos nb fr tt st nu s t9 m9 y9) k p (1500 + ((i9 : Nat) : Int)) ∨ ((qf k).toInt ≤ (1500 + ((i9 : Nat) : Int)) ∧ (1500 + ((i9 : Nat) : Int)) < z_10.toInt ∧ sPos nb fr tt st nu s (qt k) (qm k) (1500 + ((i9 : Nat) : Int))))) := by
                          intro i9 h9
                          by_cases q : i9 = (y.toInt - 1500).toNat
                          · have q2 : 1500 + ((i9 : Nat) : Int) = y.toInt := by omega
                            first
                              | (rw [q, pk_us, ← q, q2]
                                 exact (pI_t (Or.inr ⟨by omega, by omega, c_p⟩)).symm)
                              | (rw [hg2 i9 h9, q2]
                                 exact pI_cong ⟨fun z => z.elim Or.inl (fun z => absurd z.2.1 (by omega)), fun z => z.elim Or.inl (fun z => absurd z.2.2 c_p)⟩)
                              | (rw [hg2 i9 h9, q2]
                                 exact pI_cong ⟨fun z => z.elim Or.inl (fun z => absurd z.2.1 (by omega)), fun z => z.elim Or.inl (fun z => absurd (sSu1_pos hall hs9 z.2.2.1) c_p)⟩)
                          · first | rw [pk_un q] | skip
                            rw [hg2 i9 h9]
                            exact pI_cong ⟨fun z => z.elim Or.inl (fun z => Or.inr ⟨z.1, by omega, z.2.2⟩), fun z => z.elim Or.inl (fun z => Or.inr ⟨z.1, by omega, z.2.2⟩)⟩
                        have hI_hg3 : sbIs b (fun j9 => pB (src qp qs qt qm qf ql qx mk (fun t9 m9 y9 => sOnly nb fr tt st nu sn s t9 m9 y9) k p j9 ∨ ((qs k).toInt = ((j9 : Nat) : Int) ∧ ∃ z9, (qf k).toInt ≤ z9 ∧ z9 < z_10.toInt ∧ sOnly nb fr tt st nu sn s (qt k) (qm k) z9))) := by
                          obtain ⟨b9, g1, g2, g3⟩ := hg3
                          first
                            | (refine ⟨b9 ||| 2 ^ (qs k).toInt.toNat, or64 b9 g1 _ (by omega), by rw [ezo, g2]; exact fa_or _ _, fun j9 h9 => ?_⟩
                               rw [fb_bit_set, g3 j9 h9]
                               show (pB _ || _) = pB _
                               by_cases q2 : (qs k).toInt = ((j9 : Nat) : Int)
                               · rw [decide_eq_true (show j9 = (qs k).toInt.toNat by omega), Bool.or_true]
                                 exact (pB_t (Or.inr ⟨q2, y.toInt, by omega, by omega, c_s⟩)).symm
                               · rw [decide_eq_false (show ¬ j9 = (qs k).toInt.toNat by omega), Bool.or_false]
                                 exact pB_cong ⟨fun z => z.elim Or.inl (fun z => absurd z.1 q2), fun z => z.elim Or.inl (fun z => absurd z.1 q2)⟩)
                            | (refine ⟨b9, g1, g2, fun j9 h9 => ?_⟩
                               rw [g3 j9 h9]
                               show pB _ = pB _
                               apply pB_cong
                               constructor
                               · rintro (q | ⟨q1, z, q2, q3, q4⟩)
                                 · exact Or.inl q
                                 · exact Or.inr ⟨q1, z, q2, by omega, q4⟩
                               · rintro (q | ⟨q1, z, q2, q3, q4⟩)
                                 · exact Or.inl q
                                 · refine Or.inr ⟨q1, z, q2, ?_, q4⟩
                                   by_cases e : z = y.toInt
                                   · rw [e] at q4
                                     first
                                       | exact absurd q4 c_s
                                       | exact absurd (sSu1_pos hall hs9 q4.1) c_p
                                   · omega)
                        exact ih74 z_10 f2 g2 b (by omega) (by first | assumption | omega) (by first | assumption | omega) hI_hg1 hI_hg2 hI_hg3 H locs hP hD hS ls (lv_sub hl [1, 2, 3, 4, 0] rfl)
                have hI_hg1 : (∀ i9, i9 < 601 → f i9 = pI (liv qp qt qm qf ql qx mk (fun t9 m9 y9 => sOnly nb fr tt st nu sn s t9 m9 y9) k p (1500 + ((i9 : Nat) : Int)) ∨ ((qf k).toInt ≤ (1500 + ((i9 : Nat) : Int)) ∧ (1500 + ((i9 : Nat) : Int)) < (qf k).toInt ∧ sOnly nb fr tt st nu sn s (qt k) (qm k) (1500 + ((i9 : Nat) : Int))))) := by
                  intro i9 h9
                  rw [hf1 i9 h9]
                  exact pI_cong ⟨Or.inl, fun z => z.elim id (fun z => absurd z.2.1 (by omega))⟩
                have hI_hg2 : (∀ i9, i9 < 601 → g i9 = pI (liv qp qt qm qf ql qx mk (fun t9 m9 y9 => sPos nb fr tt st nu s t9 m9 y9) k p (1500 + ((i9 : Nat) : Int)) ∨ ((qf k).toInt ≤ (1500 + ((i9 : Nat) : Int)) ∧ (1500 + ((i9 : Nat) : Int)) < (qf k).toInt ∧ sPos nb fr tt st nu s (qt k) (qm k) (1500 + ((i9 : Nat) : Int))))) := by
                  intro i9 h9
                  rw [hf2 i9 h9]
                  exact pI_cong ⟨Or.inl, fun z => z.elim id (fun z => absurd z.2.1 (by omega))⟩
                have hI_hg3 : sbIs b (fun j9 => pB (src qp qs qt qm qf ql qx mk (fun t9 m9 y9 => sOnly nb fr tt st nu sn s t9 m9 y9) k p j9 ∨ ((qs k).toInt = ((j9 : Nat) : Int) ∧ ∃ z9, (qf k).toInt ≤ z9 ∧ z9 < (qf k).toInt ∧ sOnly nb fr tt st nu sn s (qt k) (qm k) z9))) := by
                  obtain ⟨b9, g1, g2, g3⟩ := hf3
                  exact ⟨b9, g1, g2, fun j9 h9 => by rw [g3 j9 h9]; show pB _ = pB _; exact pB_cong ⟨Or.inl, fun z => z.elim id (fun ⟨_, z, q2, q3, _⟩ => absurd q3 (by omega))⟩⟩
                exact L_74 ((((ql k).toInt + 1 - (qf k).toInt).toNat) + 1) (qf k) f g b (by omega) (by first | assumption | omega) (by first | assumption | omega) hI_hg1 hI_hg2 hI_hg3 H locs hP hD hS ls (lv_sub hl [1, 2, 3, 4, 0] rfl)
              · skip
                refine lv_goto (tgt := 187) hx hb dX12_live_63 (by decide) ?_
                refine lv_iinc (v := nI (k + 1)) (lv' := [(3, .int (nI (k + 1))), (0, .ref (am 0)), (1, .int (nI p)), (2, .int (nI s))]) hx hb dX12_live_187 hl (k := 3) rfl (show nI k + Int32.ofInt 1 = nI (k + 1) from nI_add k 1) (by decide) rfl (fun ls hl => ?_)
                refine lv_goto (tgt := 46) hx hb dX12_live_190 (by decide) ?_
                have hI_hf1 : (∀ i9, i9 < 601 → f i9 = pI (liv qp qt qm qf ql qx mk (fun t9 m9 y9 => sOnly nb fr tt st nu sn s t9 m9 y9) (k + 1) p (1500 + ((i9 : Nat) : Int)))) := by
                  first
                    | (intro i9 h9
                       rw [hf1 i9 h9]
                       exact pI_cong (by rw [propext liv_s]; exact ⟨Or.inl, fun q => q.elim id (fun z => absurd ⟨z.1, z.2.1⟩ c_o)⟩))
                    | (intro i9 h9
                       rw [hg1 i9 h9]
                       apply pI_cong
                       rw [propext liv_s]
                       constructor
                       · rintro (q | q)
                         · exact Or.inl q
                         · exact Or.inr ⟨c_o.1, c_o.2, q.1, by omega, q.2.2⟩
                       · rintro (q | q)
                         · exact Or.inl q
                         · exact Or.inr ⟨q.2.2.1, by have := q.2.2.2.1; omega, q.2.2.2.2⟩)
                have hI_hf2 : (∀ i9, i9 < 601 → g i9 = pI (liv qp qt qm qf ql qx mk (fun t9 m9 y9 => sPos nb fr tt st nu s t9 m9 y9) (k + 1) p (1500 + ((i9 : Nat) : Int)))) := by
                  first
                    | (intro i9 h9
                       rw [hf2 i9 h9]
                       exact pI_cong (by rw [propext liv_s]; exact ⟨Or.inl, fun q => q.elim id (fun z => absurd ⟨z.1, z.2.1⟩ c_o)⟩))
                    | (intro i9 h9
                       rw [hg2 i9 h9]
                       apply pI_cong
                       rw [propext liv_s]
                       constructor
                       · rintro (q | q)
                         · exact Or.inl q
                         · exact Or.inr ⟨c_o.1, c_o.2, q.1, by omega, q.2.2⟩
                       · rintro (q | q)
                         · exact Or.inl q
                         · exact Or.inr ⟨q.2.2.1, by have := q.2.2.2.1; omega, q.2.2.2.2⟩)
                have hI_hf3 : sbIs b (fun j9 => pB (src qp qs qt qm qf ql qx mk (fun t9 m9 y9 => sOnly nb fr tt st nu sn s t9 m9 y9) (k + 1) p j9)) := by
                  first
                    | (obtain ⟨b9, g1, g2, g3⟩ := hf3
                       exact ⟨b9, g1, g2, fun j9 h9 => by show _ = pB _; rw [propext src_s, pB_or]; exact (g3 j9 h9).trans (or_skip (fun q => c_o ⟨q.1, q.2.1⟩))⟩)
                    | (obtain ⟨b9, g1, g2, g3⟩ := hg3
                       refine ⟨b9, g1, g2, fun j9 h9 => ?_⟩
                       rw [g3 j9 h9]
                       show pB _ = pB _
                       apply pB_cong
                       rw [propext src_s]
                       constructor
                       · rintro (q | ⟨q1, z, q2, q3, q4⟩)
                         · exact Or.inl q
                         · exact Or.inr ⟨c_o.1, c_o.2, q1, z, q2, by omega, q4⟩
                       · rintro (q | ⟨_, _, q1, z, q2, q3, q4⟩)
                         · exact Or.inl q
                         · exact Or.inr ⟨q1, z, q2, by omega, q4⟩)
                exact ih46 (k + 1) f g b (by omega) (by first | assumption | omega) hI_hf1 hI_hf2 hI_hf3 H locs hP hD hS ls (lv_sub hl [1, 2, 3, 0] rfl)
        have hI_hf1 : (∀ i9, i9 < 601 → f i9 = pI (liv qp qt qm qf ql qx mk (fun t9 m9 y9 => sOnly nb fr tt st nu sn s t9 m9 y9) 0 p (1500 + ((i9 : Nat) : Int)))) := by
          have e9 : y = 2101 := by omega
          intro i9 h9
          rw [(hf i9 (by omega)).1, pI_f liv_0]
        have hI_hf2 : (∀ i9, i9 < 601 → g i9 = pI (liv qp qt qm qf ql qx mk (fun t9 m9 y9 => sPos nb fr tt st nu s t9 m9 y9) 0 p (1500 + ((i9 : Nat) : Int)))) := by
          have e9 : y = 2101 := by omega
          intro i9 h9
          rw [(hf i9 (by omega)).2, pI_f liv_0]
        have hI_hf3 : sbIs 0 (fun j9 => pB (src qp qs qt qm qf ql qx mk (fun t9 m9 y9 => sOnly nb fr tt st nu sn s t9 m9 y9) 0 p j9)) := by
          exact ⟨0, by omega, rfl, fun j9 _ => by show _ = pB _; rw [pB_f src_0, Nat.zero_testBit]⟩
        exact L_46 ((qn - 0) + 1) 0 f g 0 (by omega) (by first | assumption | omega) hI_hf1 hI_hf2 hI_hf3 H locs hP hD hS ls (lv_sub hl [1, 2, 3, 0] rfl)
      · skip
        refine lv_aload_n hx hb dX12_live_11 rfl (lv_at hl 0 rfl) ?_
        refine va_get (D := (dC, dI)) (ci := 12) (v := .ref (am 33)) (C := RX12) (T := TX12) (N := 53) hx hb hts hiX12 hown hK hP 0 rfl rfl 32 (by decide) hL7 (fun _ h9 => h9) rfl dX12_live_12 ?_
        refine lv_iload_n hx hb dX12_live_15 rfl (lv_at hl 3 rfl) ?_
        refine lv_sipush (v := 1500) hx hb dX12_live_16 (by decide) ?_
        refine lv_isub hx hb dX12_live_19 ?_
        refine bw_re (show (nI y) - 1500 = nI (y - 1500) from pk_sub (a := y) (b := 1500) (by omega)) ?_
        refine lv_iconst (v := 0) hx hb dX12_live_20 (by decide) ?_
        refine bw_zast hx hb hK hP hD hS 14 2 rfl rfl (j := (y - 1500)) (nI_toInt (by omega)) (by omega) rfl dX12_live_21 (fun H locs hP hD hS => ?_)
        have hP : va_P (dC, dI) vwCl [(am 0, .inr (12, [.ref (am 1), .ref (am 2), .ref (am 3), .ref (am 4), .int (nI tn), .int (nI zsz), .int (nI zfr), .int (nI zbe), .int zha, .int zva, .int fk, .int fp, .ref (am 13), .int (nI sn), .ref (am 15), .ref (am 16), .ref (am 17), .ref (am 18), .ref (am 19), .int (nI pn), .int (nI qn), .ref (am 22), .ref (am 23), .ref (am 24), .ref (am 25), .ref (am 26), .ref (am 27), .ref (am 28), .ref (am 29), .ref (am 30), .ref (am 31), .ref (am 32), .ref (am 33), .ref (am 34), .int zss, .int zsy, .int zpy, .int zfs, .int zls, .int (nI an), .ref (am 41), .ref (am 42), .ref (am 43), .ref (am 44), .ref (am 45), .ref (am 46), .ref (am 47), .ref (am 48), .ref (am 49), .ref (am 50), .int (nI zw), .ref (am 52), .ref (am 53)])), (am 15, .inl (cy 0, 40, .inl nb)), (am 16, .inl (cy 0, 320, .inl fr)), (am 17, .inl (cy 0, 320, .inl tt)), (am 18, .inl (cy 0, 320, .inl st)), (am 19, .inl (cy 0, 320, .inl nu)), (am 25, .inl (cy 0, 30, .inl mk)), (am 26, .inl (cy 0, 100, .inl qp)), (am 27, .inl (cy 0, 100, .inl qs)), (am 28, .inl (cy 0, 100, .inl qt)), (am 29, .inl (cy 0, 100, .inl qm)), (am 30, .inl (cy 0, 100, .inl qf)), (am 31, .inl (cy 0, 100, .inl ql)), (am 32, .inl (cy 2, 100, .inl qx)), (am 33, .inl (cy 2, 601, .inl (upd f (y - 1500) 0))), (am 34, .inl (cy 2, 601, .inl g))] H := hP
        have hD : va_D A [(am 0, .inr (12, [.ref (am 1), .ref (am 2), .ref (am 3), .ref (am 4), .int (nI tn), .int (nI zsz), .int (nI zfr), .int (nI zbe), .int zha, .int zva, .int fk, .int fp, .ref (am 13), .int (nI sn), .ref (am 15), .ref (am 16), .ref (am 17), .ref (am 18), .ref (am 19), .int (nI pn), .int (nI qn), .ref (am 22), .ref (am 23), .ref (am 24), .ref (am 25), .ref (am 26), .ref (am 27), .ref (am 28), .ref (am 29), .ref (am 30), .ref (am 31), .ref (am 32), .ref (am 33), .ref (am 34), .int zss, .int zsy, .int zpy, .int zfs, .int zls, .int (nI an), .ref (am 41), .ref (am 42), .ref (am 43), .ref (am 44), .ref (am 45), .ref (am 46), .ref (am 47), .ref (am 48), .ref (am 49), .ref (am 50), .int (nI zw), .ref (am 52), .ref (am 53)])), (am 15, .inl (cy 0, 40, .inl nb)), (am 16, .inl (cy 0, 320, .inl fr)), (am 17, .inl (cy 0, 320, .inl tt)), (am 18, .inl (cy 0, 320, .inl st)), (am 19, .inl (cy 0, 320, .inl nu)), (am 25, .inl (cy 0, 30, .inl mk)), (am 26, .inl (cy 0, 100, .inl qp)), (am 27, .inl (cy 0, 100, .inl qs)), (am 28, .inl (cy 0, 100, .inl qt)), (am 29, .inl (cy 0, 100, .inl qm)), (am 30, .inl (cy 0, 100, .inl qf)), (am 31, .inl (cy 0, 100, .inl ql)), (am 32, .inl (cy 2, 100, .inl qx)), (am 33, .inl (cy 2, 601, .inl (upd f (y - 1500) 0))), (am 34, .inl (cy 2, 601, .inl g))] := hD
        refine lv_aload_n hx hb dX12_live_22 rfl (lv_at hl 0 rfl) ?_
        refine va_get (D := (dC, dI)) (ci := 12) (v := .ref (am 34)) (C := RX12) (T := TX12) (N := 53) hx hb hts hiX12 hown hK hP 0 rfl rfl 33 (by decide) hL6 (fun _ h9 => h9) rfl dX12_live_23 ?_
        refine lv_iload_n hx hb dX12_live_26 rfl (lv_at hl 3 rfl) ?_
        refine lv_sipush (v := 1500) hx hb dX12_live_27 (by decide) ?_
        refine lv_isub hx hb dX12_live_30 ?_
        refine bw_re (show (nI y) - 1500 = nI (y - 1500) from pk_sub (a := y) (b := 1500) (by omega)) ?_
        refine lv_iconst (v := 0) hx hb dX12_live_31 (by decide) ?_
        refine bw_zast hx hb hK hP hD hS 15 2 rfl rfl (j := (y - 1500)) (nI_toInt (by omega)) (by omega) rfl dX12_live_32 (fun H locs hP hD hS => ?_)
        have hP : va_P (dC, dI) vwCl [(am 0, .inr (12, [.ref (am 1), .ref (am 2), .ref (am 3), .ref (am 4), .int (nI tn), .int (nI zsz), .int (nI zfr), .int (nI zbe), .int zha, .int zva, .int fk, .int fp, .ref (am 13), .int (nI sn), .ref (am 15), .ref (am 16), .ref (am 17), .ref (am 18), .ref (am 19), .int (nI pn), .int (nI qn), .ref (am 22), .ref (am 23), .ref (am 24), .ref (am 25), .ref (am 26), .ref (am 27), .ref (am 28), .ref (am 29), .ref (am 30), .ref (am 31), .ref (am 32), .ref (am 33), .ref (am 34), .int zss, .int zsy, .int zpy, .int zfs, .int zls, .int (nI an), .ref (am 41), .ref (am 42), .ref (am 43), .ref (am 44), .ref (am 45), .ref (am 46), .ref (am 47), .ref (am 48), .ref (am 49), .ref (am 50), .int (nI zw), .ref (am 52), .ref (am 53)])), (am 15, .inl (cy 0, 40, .inl nb)), (am 16, .inl (cy 0, 320, .inl fr)), (am 17, .inl (cy 0, 320, .inl tt)), (am 18, .inl (cy 0, 320, .inl st)), (am 19, .inl (cy 0, 320, .inl nu)), (am 25, .inl (cy 0, 30, .inl mk)), (am 26, .inl (cy 0, 100, .inl qp)), (am 27, .inl (cy 0, 100, .inl qs)), (am 28, .inl (cy 0, 100, .inl qt)), (am 29, .inl (cy 0, 100, .inl qm)), (am 30, .inl (cy 0, 100, .inl qf)), (am 31, .inl (cy 0, 100, .inl ql)), (am 32, .inl (cy 2, 100, .inl qx)), (am 33, .inl (cy 2, 601, .inl (upd f (y - 1500) 0))), (am 34, .inl (cy 2, 601, .inl (upd g (y - 1500) 0)))] H := hP
        have hD : va_D A [(am 0, .inr (12, [.ref (am 1), .ref (am 2), .ref (am 3), .ref (am 4), .int (nI tn), .int (nI zsz), .int (nI zfr), .int (nI zbe), .int zha, .int zva, .int fk, .int fp, .ref (am 13), .int (nI sn), .ref (am 15), .ref (am 16), .ref (am 17), .ref (am 18), .ref (am 19), .int (nI pn), .int (nI qn), .ref (am 22), .ref (am 23), .ref (am 24), .ref (am 25), .ref (am 26), .ref (am 27), .ref (am 28), .ref (am 29), .ref (am 30), .ref (am 31), .ref (am 32), .ref (am 33), .ref (am 34), .int zss, .int zsy, .int zpy, .int zfs, .int zls, .int (nI an), .ref (am 41), .ref (am 42), .ref (am 43), .ref (am 44), .ref (am 45), .ref (am 46), .ref (am 47), .ref (am 48), .ref (am 49), .ref (am 50), .int (nI zw), .ref (am 52), .ref (am 53)])), (am 15, .inl (cy 0, 40, .inl nb)), (am 16, .inl (cy 0, 320, .inl fr)), (am 17, .inl (cy 0, 320, .inl tt)), (am 18, .inl (cy 0, 320, .inl st)), (am 19, .inl (cy 0, 320, .inl nu)), (am 25, .inl (cy 0, 30, .inl mk)), (am 26, .inl (cy 0, 100, .inl qp)), (am 27, .inl (cy 0, 100, .inl qs)), (am 28, .inl (cy 0, 100, .inl qt)), (am 29, .inl (cy 0, 100, .inl qm)), (am 30, .inl (cy 0, 100, .inl qf)), (am 31, .inl (cy 0, 100, .inl ql)), (am 32, .inl (cy 2, 100, .inl qx)), (am 33, .inl (cy 2, 601, .inl (upd f (y - 1500) 0))), (am 34, .inl (cy 2, 601, .inl (upd g (y - 1500) 0)))] := hD
        refine lv_iinc (v := nI (y + 1)) (lv' := [(3, .int (nI (y + 1))), (0, .ref (am 0)), (1, .int (nI p)), (2, .int (nI s))]) hx hb dX12_live_33 hl (k := 3) rfl (show nI y + Int32.ofInt 1 = nI (y + 1) from nI_add y 1) (by decide) rfl (fun ls hl => ?_)
        refine lv_goto (tgt := 4) hx hb dX12_live_36 (by decide) ?_
        have hI_hf : ∀ i9, i9 < (y + 1) - 1500 → (upd f (y - 1500) 0) i9 = 0 ∧ (upd g (y - 1500) 0) i9 = 0 := by
          intro i9 h9
          by_cases q : i9 = y - 1500
          · subst q; exact ⟨pk_us, pk_us⟩
          · rw [pk_un q, pk_un q]; exact hf i9 (by omega)
        exact ih4 (y + 1) (upd f (y - 1500) 0) (upd g (y - 1500) 0) (by omega) (by first | assumption | omega) (by first | assumption | omega) hI_hf H locs hP hD hS ls (lv_sub hl [1, 2, 3, 0] rfl)
  have hI_hf : ∀ i9, i9 < 1500 - 1500 → zsi i9 = 0 ∧ zpi i9 = 0 := by
    exact fun i9 h9 => absurd h9 (by omega)
  exact L_4 ((2101 - 1500) + 1) 1500 zsi zpi (by omega) (by first | assumption | omega) (by first | assumption | omega) hI_hf H locs hP hD hS ls (lv_sub hl [1, 2, 3, 0] rfl)

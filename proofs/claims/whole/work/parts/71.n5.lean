/-! what holds of the state between two calls, and that each call keeps it -/
def nuOK (nb nu : Nat → Int32) (sn : Nat) : Prop := ∀ s, s < sn → ∀ i, s * 8 ≤ i → i < s * 8 + kn nb s → 0 ≤ (nu i).toInt
def voOK (ayes ano : Nat → Int32) (an : Nat) : Prop := (∀ k, an ≤ k → ayes k = 0 ∧ ano k = 0) ∧ ∀ k, (0 ≤ (ayes k).toInt ∧ (ayes k).toInt ≤ 99) ∧ 0 ≤ (ano k).toInt ∧ (ano k).toInt ≤ 99
def alOK (aln : Nat → Int32) : Prop := ∀ k, -1 ≤ (aln k).toInt ∧ (aln k).toInt ≤ 8
def linv (tn : Nat) (tb : Nat → Int32) (sn : Nat) (nb fr tt nu : Nat → Int32) (pn : Nat) (di th : Nat → Int32) (qn : Nat) (qp qs qf ql qx : Nat → Int32) (an : Nat) (ap as_ ay ayes ano aln tl tm : Nat → Int32) : Prop :=
  tn ≤ 600 ∧ byOK tb ∧ sOK nb fr tt sn ∧ nuOK nb nu sn ∧ pOK di th pn ∧ qOK qp qs qf ql qx qn pn ∧ kOK ap as_ ay an pn sn ∧ voOK ayes ano an ∧ alOK aln ∧ rgs tl ∧ agr tl tm
theorem byt_rng (x : Int32) : 0 ≤ (x &&& 255).toInt ∧ (x &&& 255).toInt ≤ 255 := by
  obtain ⟨j, hj, e⟩ := pk_andE x (m := 255) 8 (by decide)
  rw [e, nI_toInt (by omega)]; omega
theorem byOK_upd {tb : Nat → Int32} (h : byOK tb) (n : Nat) (v sh : Int32) : byOK (upd tb n (tB v sh)) := fun k => by
  by_cases q : k = n
  · subst q; rw [pk_us]; exact byt_rng _
  · rw [pk_un q]; exact h k
theorem byOK_app {tb : Nat → Int32} (h : byOK tb) (n : Nat) (v : Int32) : byOK (tApp tb n v) := byOK_upd (byOK_upd (byOK_upd (byOK_upd h _ _ _) _ _ _) _ _ _) _ _ _
theorem byOK_app5 {tb : Nat → Int32} (h : byOK tb) (n : Nat) (a b c d e : Int32) : byOK (tApp5 tb n a b c d e) := byOK_app (byOK_app (byOK_app (byOK_app (byOK_app h _ _) _ _) _ _) _ _) _ _
theorem sOK_site {nb fr tt : Nat → Int32} {sn : Nat} {f1 t1 : Int32} (h : sOK nb fr tt sn) (hn : sn < 40) (hv : 1500 ≤ f1.toInt ∧ f1.toInt ≤ t1.toInt ∧ t1.toInt ≤ 2100) : sOK (upd nb sn 1) (upd fr (sn * 8) f1) (upd tt (sn * 8) t1) (sn + 1) := by
  obtain ⟨h1, h2, h3⟩ := h
  refine ⟨by omega, fun s hs => ?_, fun s hs => ?_⟩
  · rw [pk_un (by omega)]; exact h2 s (by omega)
  · by_cases q : s = sn
    · subst q
      refine ⟨1, by rw [pk_us]; decide, by omega, by omega, fun i a b => ?_⟩
      have e : i = s * 8 := by omega
      rw [e, pk_us, pk_us]; exact hv
    · obtain ⟨k, k1, k2, k3, k4⟩ := h3 s (by omega)
      refine ⟨k, by rw [pk_un q]; exact k1, k2, k3, fun i a b => ?_⟩
      rw [pk_un (by omega), pk_un (by omega)]; exact k4 i a b
theorem nuOK_site {nb fr tt nu : Nat → Int32} {sn : Nat} {n1 : Int32} (h : nuOK nb nu sn) (ho : sOK nb fr tt sn) (hv : 1 ≤ n1.toInt) : nuOK (upd nb sn 1) (upd nu (sn * 8) n1) (sn + 1) := by
  intro s hs i a b
  by_cases q : s = sn
  · subst q
    have e : kn (upd nb s 1) s = 1 := kn_nI (k := 1) (by rw [pk_us]; decide) (by omega)
    rw [e] at b
    have e : i = s * 8 := by omega
    rw [e, pk_us]; omega
  · obtain ⟨k, k1, k2, k3, k4⟩ := ho.2.2 s (by omega)
    have e : kn (upd nb sn 1) s = kn nb s := by unfold kn; rw [pk_un q]
    have e2 := kn_nI k1 k3
    rw [e] at b
    rw [pk_un (by omega)]; exact h s (by omega) i a b
theorem sOK_ren {nb fr tt : Nat → Int32} {sn x : Nat} {f1 t1 : Int32} (h : sOK nb fr tt sn) (hx : x < sn) (hk : kn nb x < 8) (hv : 1500 ≤ f1.toInt ∧ f1.toInt ≤ t1.toInt ∧ t1.toInt ≤ 2100) : sOK (upd nb x (nI (kn nb x + 1))) (upd fr (x * 8 + kn nb x) f1) (upd tt (x * 8 + kn nb x) t1) sn := by
  obtain ⟨h1, h2, h3⟩ := h
  refine ⟨h1, fun s hs => ?_, fun s hs => ?_⟩
  · rw [pk_un (by omega)]; exact h2 s hs
  · obtain ⟨k, k1, k2, k3, k4⟩ := h3 s hs
    have e2 := kn_nI k1 k3
    by_cases q : s = x
    · subst q
      refine ⟨kn nb s + 1, by rw [pk_us], by omega, by omega, fun i a b => ?_⟩
      by_cases w : i = s * 8 + kn nb s
      · rw [w, pk_us, pk_us]; exact hv
      · rw [pk_un w, pk_un w]; exact k4 i a (by omega)
    · refine ⟨k, by rw [pk_un q]; exact k1, k2, k3, fun i a b => ?_⟩
      rw [pk_un (by omega), pk_un (by omega)]; exact k4 i a b
theorem nuOK_ren {nb fr tt nu : Nat → Int32} {sn x : Nat} {n1 : Int32} (h : nuOK nb nu sn) (ho : sOK nb fr tt sn) (hk : kn nb x < 8) (hv : 0 ≤ n1.toInt) : nuOK (upd nb x (nI (kn nb x + 1))) (upd nu (x * 8 + kn nb x) n1) sn := by
  intro s hs i a b
  by_cases q : s = x
  · subst q
    have e : kn (upd nb s (nI (kn nb s + 1))) s = kn nb s + 1 := kn_nI (by rw [pk_us]) (by omega)
    rw [e] at b
    by_cases w : i = s * 8 + kn nb s
    · rw [w, pk_us]; exact hv
    · rw [pk_un w]; exact h s hs i a (by omega)
  · have e : ∀ v : Int32, kn (upd nb x v) s = kn nb s := fun v => by unfold kn; rw [pk_un q]
    obtain ⟨k, k1, k2, k3, k4⟩ := ho.2.2 s hs
    have e2 := kn_nI k1 k3
    rw [e] at b
    rw [pk_un (by omega)]; exact h s hs i a b
theorem kOK_mono {ap as_ ay : Nat → Int32} {an pn sn pn' sn' : Nat} (h : kOK ap as_ ay an pn sn) (hp : pn ≤ pn') (hs : sn ≤ sn') : kOK ap as_ ay an pn' sn' := ⟨h.1, fun k hk => by
  have q := h.2 k hk
  refine ⟨⟨q.1.1, by omega⟩, ⟨q.2.1.1, by omega⟩, q.2.2⟩⟩
theorem qOK_person {qp qs qf ql qx : Nat → Int32} {qn pn : Nat} (h : qOK qp qs qf ql qx qn pn) (hp : pn < 30) : qOK qp qs qf ql qx qn (pn + 1) := ⟨h.1, by omega, h.2.2.1, fun k hk => by
  have q := h.2.2.2 k hk
  exact ⟨⟨q.1.1, by omega⟩, q.2⟩⟩
theorem pOK_person {di th : Nat → Int32} {pn : Nat} {d1 t1 : Int32} (h : pOK di th pn) (hd : d1.toInt = -1 ∨ (1500 ≤ d1.toInt ∧ d1.toInt ≤ 2100)) (ht : 0 ≤ t1.toInt ∧ t1.toInt ≤ 7) : pOK (upd di pn d1) (upd th pn t1) (pn + 1) := fun p hp => by
  by_cases q : p = pn
  · subst q; rw [pk_us, pk_us]; exact ⟨hd, ht⟩
  · rw [pk_un q, pk_un q]; exact h p (by omega)
theorem qOK_paper {qp qs qf ql qx : Nat → Int32} {qn pn : Nat} {p1 s1 f1 l1 : Int32} (h : qOK qp qs qf ql qx qn pn) (hn : qn < 100) (hp : 0 ≤ p1.toInt ∧ p1.toInt < (pn : Int)) (hs : 0 ≤ s1.toInt ∧ s1.toInt ≤ 5) (hf : 1500 ≤ f1.toInt ∧ f1.toInt ≤ l1.toInt ∧ l1.toInt ≤ 2100 ∧ l1.toInt - f1.toInt ≤ 59) : qOK (upd qp qn p1) (upd qs qn s1) (upd qf qn f1) (upd ql qn l1) qx (qn + 1) pn := ⟨by omega, h.2.1, fun k hk => h.2.2.1 k (by omega), fun k hk => by
  by_cases q : k = qn
  · subst q; rw [pk_us, pk_us, pk_us, pk_us]; exact ⟨hp, hs, hf⟩
  · rw [pk_un q, pk_un q, pk_un q, pk_un q]; exact h.2.2.2 k (by omega)⟩
theorem qOK_fals {qp qs qf ql qx : Nat → Int32} {qn pn x : Nat} (b1 : Int32) (h : qOK qp qs qf ql qx qn pn) (hx : x < qn) : qOK qp qs qf ql (upd qx x b1) qn pn := ⟨h.1, h.2.1, fun k hk => by rw [pk_un (by omega)]; exact h.2.2.1 k hk, h.2.2.2⟩
theorem kOK_ask {ap as_ ay : Nat → Int32} {an pn sn : Nat} {p1 s1 y1 : Int32} (h : kOK ap as_ ay an pn sn) (hn : an < 40) (hp : 0 ≤ p1.toInt ∧ p1.toInt < (pn : Int)) (hs : 0 ≤ s1.toInt ∧ s1.toInt < (sn : Int)) (hy : 1500 ≤ y1.toInt ∧ y1.toInt ≤ 2100) : kOK (upd ap an p1) (upd as_ an s1) (upd ay an y1) (an + 1) pn sn := ⟨by omega, fun k hk => by
  by_cases q : k = an
  · subst q; rw [pk_us, pk_us, pk_us]; exact ⟨hp, hs, hy⟩
  · rw [pk_un q, pk_un q, pk_un q]; exact h.2 k (by omega)⟩
theorem voOK_ask {ayes ano : Nat → Int32} {an : Nat} (h : voOK ayes ano an) : voOK ayes ano (an + 1) := ⟨fun k hk => h.1 k (by omega), h.2⟩
theorem voOK_vote {ayes ano : Nat → Int32} {an x : Nat} {y1 n1 : Int32} (h : voOK ayes ano an) (hx : x < an) (hy : 0 ≤ y1.toInt ∧ y1.toInt ≤ 99) (hn : 0 ≤ n1.toInt ∧ n1.toInt ≤ 99) : voOK (upd ayes x y1) (upd ano x n1) an := ⟨fun k hk => by rw [pk_un (by omega), pk_un (by omega)]; exact h.1 k hk, fun k => by
  by_cases q : k = x
  · subst q; rw [pk_us, pk_us]; exact ⟨hy, hn⟩
  · rw [pk_un q, pk_un q]; exact h.2 k⟩
theorem alOK_upd {aln : Nat → Int32} (h : alOK aln) (a : Nat) {v : Int32} (h1 : -1 ≤ v.toInt) (h2 : v.toInt ≤ 8) : alOK (upd aln a v) := fun k => by
  by_cases q : k = a
  · subst q; rw [pk_us]; exact ⟨h1, h2⟩
  · rw [pk_un q]; exact h k
theorem alOK_hang {tb : Nat → Int32} {tn : Nat} {S : Int → Prop} {V : Prop} {a W L : Nat} {ast aln alw alx ast2 aln2 alw2 alx2 : Nat → Int32} {r : Int32} (h : alOK aln) (hV : V → L ≤ 8) (hg : hgP tb tn S V a W L ast aln alw alx r ast2 aln2 alw2 alx2) : alOK aln2 := by
  rcases hg with ⟨v1, e1, e2, e3, e4, e5⟩ | ⟨v1, hg⟩
  · rw [e3]; exact h
  rcases hg with ⟨v2, e1, e2, e3, e4, e5⟩ | ⟨v2, hg⟩
  · rw [e3]; exact h
  rcases hg with ⟨v3, e1, e2, e3, e4, e5⟩ | ⟨b, w, v, c1, c2, hg⟩
  · rw [e3]; exact h
  rcases hg with ⟨v3, e1, e2, e3, e4, e5⟩ | ⟨v3, v4, e1, e2, e3, e4, e5⟩ | ⟨v3, v4, nl, e0, e1, e2, e3, e4, e5⟩
  · rw [e3]; exact h
  · rw [e3]; exact h
  · rw [e3]
    have q := e0.1
    have q2 := hV v1
    have e : (nI nl).toInt = (nl : Int) := nI_toInt (by omega)
    exact alOK_upd h a (by omega) (by omega)
theorem facts_agr {nb fr tt st nu : Nat → Int32} {sn : Nat} {qp qs qt qm qf ql qx mk : Nat → Int32} {qn : Nat} {di tl tm ap as_ ay : Nat → Int32} (h : agr tl tm) (a1 : Nat) : facts nb fr tt st nu sn qp qs qt qm qf ql qx mk qn di tm ap as_ ay a1 = facts nb fr tt st nu sn qp qs qt qm qf ql qx mk qn di tl ap as_ ay a1 := by
  unfold facts
  rw [h 0 (by omega) (by omega) (by omega), h 1 (by omega) (by omega) (by omega), h 2 (by omega) (by omega) (by omega), h 3 (by omega) (by omega) (by omega)]
theorem plaq_agr {tl tm ap as_ ay ast mk di th : Nat → Int32} {an a1 pn sn : Nat} (h : agr tl tm) (hk : kOK ap as_ ay an pn sn) (hp : pOK di th pn) (ha : a1 < an) : plaq tm ap as_ ast mk th an a1 = plaq tl ap as_ ast mk th an a1 := by
  have q := (hk.2 a1 ha).1
  have q2 := (hp (ap a1).toInt.toNat (by omega)).2
  unfold plaq
  rw [h 4 (by omega) (by omega) (by omega), h (10 + (th (ap a1).toInt.toNat).toInt.toNat) (by omega) (by omega) (by omega)]
theorem possible_one {n : Nat} {P : Nat → Prop} {V : Prop} {r r' : Int64} (h : (V → ∀ b : Nat, lb r b = true ↔ b < n ∧ P b) ∧ (¬ V → r = -2)) (h' : (V → ∀ b : Nat, lb r' b = true ↔ b < n ∧ P b) ∧ (¬ V → r' = -2)) : r = r' := by
  by_cases v : V
  · exact lb_ext fun i _ => Bool.eq_iff_iff.mpr ((h.1 v i).trans (h'.1 v i).symm)
  · rw [h.2 v, h'.2 v]
theorem surely_one {nb fr tt st nu : Nat → Int32} {sn : Nat} {V : Prop} {t m r r' : Int32} {y : Int} (ho : sOK nb fr tt sn) (h : (V → ((∃ s9, s9 < sn ∧ r = nI s9 ∧ sOnly nb fr tt st nu sn s9 t m y) ∨ (r = -1 ∧ ∀ s9, s9 < sn → ¬ sOnly nb fr tt st nu sn s9 t m y))) ∧ (¬ V → r = -2)) (h' : (V → ((∃ s9, s9 < sn ∧ r' = nI s9 ∧ sOnly nb fr tt st nu sn s9 t m y) ∨ (r' = -1 ∧ ∀ s9, s9 < sn → ¬ sOnly nb fr tt st nu sn s9 t m y))) ∧ (¬ V → r' = -2)) : r = r' := by
  by_cases v : V
  · rcases h.1 v with ⟨s, a1, a2, a3⟩ | ⟨a1, a2⟩ <;> rcases h'.1 v with ⟨s', b1, b2, b3⟩ | ⟨b1, b2⟩
    · by_cases q : s = s'
      · rw [a2, b2, q]
      · exfalso
        obtain ⟨i, c1, c2, c3, c4⟩ := b3.1
        refine a3.2 s' b1 (fun z => q z.symm) ⟨i, c1, c2, c3, ?_⟩
        obtain ⟨k, k1, k2, k3, k4⟩ := ho.2.2 s' b1
        have e := kn_nI k1 k3
        refine ⟨?_, fun hi => ?_⟩
        · have := k4 i c1 (by omega); have := c4.1; omega
        · have := k4 (i + 1) (by omega) (by omega); have := c4.2 hi; omega
    · exact absurd a3 (b2 s a1)
    · exact absurd b3 (a2 s' b1)
    · rw [a1, b1]
  · rw [h.2 v, h'.2 v]
theorem lived_one {V : Prop} {w r r' a b d : Int32} {p : Nat → Bool} (h : (¬ V → r = -2) ∧ (V ∧ w.toInt = 0 → r = a) ∧ (V ∧ w.toInt = 1 → r = b) ∧ (V ∧ w.toInt = 2 → fstIs p r) ∧ (V ∧ w.toInt = 3 → lstIs p r) ∧ (V ∧ w.toInt = 4 → r = d) ∧ (V ∧ (w.toInt < 0 ∨ 4 < w.toInt) → r = -1)) (h' : (¬ V → r' = -2) ∧ (V ∧ w.toInt = 0 → r' = a) ∧ (V ∧ w.toInt = 1 → r' = b) ∧ (V ∧ w.toInt = 2 → fstIs p r') ∧ (V ∧ w.toInt = 3 → lstIs p r') ∧ (V ∧ w.toInt = 4 → r' = d) ∧ (V ∧ (w.toInt < 0 ∨ 4 < w.toInt) → r' = -1)) : r = r' := by
  obtain ⟨h0, h1, h2, h3, h4, h5, h6⟩ := h
  obtain ⟨g0, g1, g2, g3, g4, g5, g6⟩ := h'
  by_cases v : V
  · rcases (show w.toInt = 0 ∨ w.toInt = 1 ∨ w.toInt = 2 ∨ w.toInt = 3 ∨ w.toInt = 4 ∨ (w.toInt < 0 ∨ 4 < w.toInt) by omega) with c | c | c | c | c | c
    · rw [h1 ⟨v, c⟩, g1 ⟨v, c⟩]
    · rw [h2 ⟨v, c⟩, g2 ⟨v, c⟩]
    · exact fst_one (h3 ⟨v, c⟩) (g3 ⟨v, c⟩)
    · exact lst_one (h4 ⟨v, c⟩) (g4 ⟨v, c⟩)
    · rw [h5 ⟨v, c⟩, g5 ⟨v, c⟩]
    · rw [h6 ⟨v, c⟩, g6 ⟨v, c⟩]
  · rw [h0 v, g0 v]
theorem rule_one {tl tm : Nat → Int32} {x r r' : Int32} (ha : agr tl tm) (h : (((0 ≤ x.toInt ∧ x.toInt ≤ 7) ∨ (10 ≤ x.toInt ∧ x.toInt ≤ 17)) → r = tl (x.toInt.toNat)) ∧ ((¬ ((0 ≤ x.toInt ∧ x.toInt ≤ 7) ∨ (10 ≤ x.toInt ∧ x.toInt ≤ 17))) → r = -9)) (h' : (((0 ≤ x.toInt ∧ x.toInt ≤ 7) ∨ (10 ≤ x.toInt ∧ x.toInt ≤ 17)) → r' = tm (x.toInt.toNat)) ∧ ((¬ ((0 ≤ x.toInt ∧ x.toInt ≤ 7) ∨ (10 ≤ x.toInt ∧ x.toInt ≤ 17))) → r' = -9)) : r = r' := by
  by_cases v : (0 ≤ x.toInt ∧ x.toInt ≤ 7) ∨ (10 ≤ x.toInt ∧ x.toInt ≤ 17)
  · rw [h.1 v, h'.1 v]; exact ha _ (by omega) (by omega) (by omega)
  · rw [h.2 v, h'.2 v]
theorem linv_0 {tl tm : Nat → Int32} (h : agr tl dPl) (h2 : agr tm dPl) : linv 0 (fun _ => 0) 0 (fun _ => 0) (fun _ => 0) (fun _ => 0) (fun _ => 0) 0 (fun _ => 0) (fun _ => 0) 0 (fun _ => 0) (fun _ => 0) (fun _ => 0) (fun _ => 0) (fun _ => 0) 0 (fun _ => 0) (fun _ => 0) (fun _ => 0) (fun _ => 0) (fun _ => 0) (fun _ => 0) tl tm := by
  have z : (0 : Int32).toInt = 0 := by decide
  refine ⟨by omega, fun _ => by rw [z]; omega, ⟨by omega, fun _ _ => rfl, fun s hs => absurd hs (Nat.not_lt_zero s)⟩, fun s hs => absurd hs (Nat.not_lt_zero s), fun s hs => absurd hs (Nat.not_lt_zero s), ⟨by omega, by omega, fun _ _ => rfl, fun s hs => absurd hs (Nat.not_lt_zero s)⟩, ⟨by omega, fun s hs => absurd hs (Nat.not_lt_zero s)⟩, ⟨fun _ _ => ⟨rfl, rfl⟩, fun _ => by rw [z]; omega⟩, fun _ => by rw [z]; omega, rgs_pl h, fun k a b c => (h k a b c).trans (h2 k a b c).symm⟩
set_option maxHeartbeats 4000000 in
theorem one_feed {tn : Nat} {tb : Nat → Int32} {a1 : Int32} {b1 : Int32} {c1 : Int32} {d1 : Int32} {e1 : Int32} {r r' : Int32} {tn2 tn2' : Nat} {tb2 tb2' : Nat → Int32} (h : ((600 < tn + 20) → r = -3 ∧ tn2 = tn ∧ tb2 = tb) ∧ ((tn + 20 ≤ 600) → r = nI (tn + 20) ∧ tn2 = tn + 20 ∧ tb2 = tApp5 tb tn a1 b1 c1 d1 e1)) (h' : ((600 < tn + 20) → r' = -3 ∧ tn2' = tn ∧ tb2' = tb) ∧ ((tn + 20 ≤ 600) → r' = nI (tn + 20) ∧ tn2' = tn + 20 ∧ tb2' = tApp5 tb tn a1 b1 c1 d1 e1)) : r = r' ∧ tn2' = tn2 ∧ tb2' = tb2 := by
  obtain ⟨h0, h1⟩ := h
  obtain ⟨g0, g1⟩ := h'
  rcases (show (600 < tn + 20) ∨ (tn + 20 ≤ 600) by omega) with c9 | c9
  · obtain ⟨e0, e1, e2⟩ := h0 c9
    obtain ⟨f0, f1, f2⟩ := g0 c9
    exact ⟨e0.trans f0.symm, f1.trans e1.symm, f2.trans e2.symm⟩
  · obtain ⟨e0, e1, e2⟩ := h1 c9
    obtain ⟨f0, f1, f2⟩ := g1 c9
    exact ⟨e0.trans f0.symm, f1.trans e1.symm, f2.trans e2.symm⟩
set_option maxHeartbeats 4000000 in
theorem one_end {tn : Nat} {n1 : Int32} {r r' : Int32} {tn2 tn2' : Nat} (h : ((n1.toInt < 0 ∨ ((tn : Nat) : Int) < n1.toInt) → r = -1 ∧ tn2 = tn) ∧ ((0 ≤ n1.toInt ∧ n1.toInt ≤ ((tn : Nat) : Int)) → r = n1 ∧ tn2 = n1.toInt.toNat)) (h' : ((n1.toInt < 0 ∨ ((tn : Nat) : Int) < n1.toInt) → r' = -1 ∧ tn2' = tn) ∧ ((0 ≤ n1.toInt ∧ n1.toInt ≤ ((tn : Nat) : Int)) → r' = n1 ∧ tn2' = n1.toInt.toNat)) : r = r' ∧ tn2' = tn2 := by
  obtain ⟨h0, h1⟩ := h
  obtain ⟨g0, g1⟩ := h'
  rcases (show (n1.toInt < 0 ∨ ((tn : Nat) : Int) < n1.toInt) ∨ (0 ≤ n1.toInt ∧ n1.toInt ≤ ((tn : Nat) : Int)) by omega) with c9 | c9
  · obtain ⟨e0, e1⟩ := h0 c9
    obtain ⟨f0, f1⟩ := g0 c9
    exact ⟨e0.trans f0.symm, f1.trans e1.symm⟩
  · obtain ⟨e0, e1⟩ := h1 c9
    obtain ⟨f0, f1⟩ := g1 c9
    exact ⟨e0.trans f0.symm, f1.trans e1.symm⟩
set_option maxHeartbeats 4000000 in
theorem one_site {sn : Nat} {nb : Nat → Int32} {fr : Nat → Int32} {tt : Nat → Int32} {st : Nat → Int32} {nu : Nat → Int32} {f1 : Int32} {t1 : Int32} {s1 : Int32} {n1 : Int32} {r r' : Int32} {sn2 sn2' : Nat} {nb2 nb2' : Nat → Int32} {fr2 fr2' : Nat → Int32} {tt2 tt2' : Nat → Int32} {st2 st2' : Nat → Int32} {nu2 nu2' : Nat → Int32} (h : ((¬ (1500 ≤ f1.toInt ∧ f1.toInt ≤ t1.toInt ∧ t1.toInt ≤ 2100 ∧ 0 ≤ s1.toInt ∧ s1.toInt ≤ 9 ∧ 1 ≤ n1.toInt ∧ n1.toInt ≤ 999)) → r = -2 ∧ sn2 = sn ∧ nb2 = nb ∧ fr2 = fr ∧ tt2 = tt ∧ st2 = st ∧ nu2 = nu) ∧ (((1500 ≤ f1.toInt ∧ f1.toInt ≤ t1.toInt ∧ t1.toInt ≤ 2100 ∧ 0 ≤ s1.toInt ∧ s1.toInt ≤ 9 ∧ 1 ≤ n1.toInt ∧ n1.toInt ≤ 999) ∧ 40 ≤ sn) → r = -3 ∧ sn2 = sn ∧ nb2 = nb ∧ fr2 = fr ∧ tt2 = tt ∧ st2 = st ∧ nu2 = nu) ∧ (((1500 ≤ f1.toInt ∧ f1.toInt ≤ t1.toInt ∧ t1.toInt ≤ 2100 ∧ 0 ≤ s1.toInt ∧ s1.toInt ≤ 9 ∧ 1 ≤ n1.toInt ∧ n1.toInt ≤ 999) ∧ sn < 40) → r = nI sn ∧ sn2 = sn + 1 ∧ nb2 = upd nb sn 1 ∧ fr2 = upd fr (sn * 8) f1 ∧ tt2 = upd tt (sn * 8) t1 ∧ st2 = upd st (sn * 8) s1 ∧ nu2 = upd nu (sn * 8) n1)) (h' : ((¬ (1500 ≤ f1.toInt ∧ f1.toInt ≤ t1.toInt ∧ t1.toInt ≤ 2100 ∧ 0 ≤ s1.toInt ∧ s1.toInt ≤ 9 ∧ 1 ≤ n1.toInt ∧ n1.toInt ≤ 999)) → r' = -2 ∧ sn2' = sn ∧ nb2' = nb ∧ fr2' = fr ∧ tt2' = tt ∧ st2' = st ∧ nu2' = nu) ∧ (((1500 ≤ f1.toInt ∧ f1.toInt ≤ t1.toInt ∧ t1.toInt ≤ 2100 ∧ 0 ≤ s1.toInt ∧ s1.toInt ≤ 9 ∧ 1 ≤ n1.toInt ∧ n1.toInt ≤ 999) ∧ 40 ≤ sn) → r' = -3 ∧ sn2' = sn ∧ nb2' = nb ∧ fr2' = fr ∧ tt2' = tt ∧ st2' = st ∧ nu2' = nu) ∧ (((1500 ≤ f1.toInt ∧ f1.toInt ≤ t1.toInt ∧ t1.toInt ≤ 2100 ∧ 0 ≤ s1.toInt ∧ s1.toInt ≤ 9 ∧ 1 ≤ n1.toInt ∧ n1.toInt ≤ 999) ∧ sn < 40) → r' = nI sn ∧ sn2' = sn + 1 ∧ nb2' = upd nb sn 1 ∧ fr2' = upd fr (sn * 8) f1 ∧ tt2' = upd tt (sn * 8) t1 ∧ st2' = upd st (sn * 8) s1 ∧ nu2' = upd nu (sn * 8) n1)) : r = r' ∧ sn2' = sn2 ∧ nb2' = nb2 ∧ fr2' = fr2 ∧ tt2' = tt2 ∧ st2' = st2 ∧ nu2' = nu2 := by
  obtain ⟨h0, h1, h2⟩ := h
  obtain ⟨g0, g1, g2⟩ := h'
  rcases (show (¬ (1500 ≤ f1.toInt ∧ f1.toInt ≤ t1.toInt ∧ t1.toInt ≤ 2100 ∧ 0 ≤ s1.toInt ∧ s1.toInt ≤ 9 ∧ 1 ≤ n1.toInt ∧ n1.toInt ≤ 999)) ∨ ((1500 ≤ f1.toInt ∧ f1.toInt ≤ t1.toInt ∧ t1.toInt ≤ 2100 ∧ 0 ≤ s1.toInt ∧ s1.toInt ≤ 9 ∧ 1 ≤ n1.toInt ∧ n1.toInt ≤ 999) ∧ 40 ≤ sn) ∨ ((1500 ≤ f1.toInt ∧ f1.toInt ≤ t1.toInt ∧ t1.toInt ≤ 2100 ∧ 0 ≤ s1.toInt ∧ s1.toInt ≤ 9 ∧ 1 ≤ n1.toInt ∧ n1.toInt ≤ 999) ∧ sn < 40) by omega) with c9 | c9 | c9
  · obtain ⟨e0, e1, e2, e3, e4, e5, e6⟩ := h0 c9
    obtain ⟨f0, f1, f2, f3, f4, f5, f6⟩ := g0 c9
    exact ⟨e0.trans f0.symm, f1.trans e1.symm, f2.trans e2.symm, f3.trans e3.symm, f4.trans e4.symm, f5.trans e5.symm, f6.trans e6.symm⟩
  · obtain ⟨e0, e1, e2, e3, e4, e5, e6⟩ := h1 c9
    obtain ⟨f0, f1, f2, f3, f4, f5, f6⟩ := g1 c9
    exact ⟨e0.trans f0.symm, f1.trans e1.symm, f2.trans e2.symm, f3.trans e3.symm, f4.trans e4.symm, f5.trans e5.symm, f6.trans e6.symm⟩
  · obtain ⟨e0, e1, e2, e3, e4, e5, e6⟩ := h2 c9
    obtain ⟨f0, f1, f2, f3, f4, f5, f6⟩ := g2 c9
    exact ⟨e0.trans f0.symm, f1.trans e1.symm, f2.trans e2.symm, f3.trans e3.symm, f4.trans e4.symm, f5.trans e5.symm, f6.trans e6.symm⟩
set_option maxHeartbeats 4000000 in
theorem one_renumber {sn : Nat} {nb : Nat → Int32} {fr : Nat → Int32} {tt : Nat → Int32} {st : Nat → Int32} {nu : Nat → Int32} {x : Int32} {f1 : Int32} {t1 : Int32} {s1 : Int32} {n1 : Int32} {r r' : Int32} {nb2 nb2' : Nat → Int32} {fr2 fr2' : Nat → Int32} {tt2 tt2' : Nat → Int32} {st2 st2' : Nat → Int32} {nu2 nu2' : Nat → Int32} (h : ((¬ ((0 ≤ x.toInt ∧ x.toInt < ((sn : Nat) : Int)) ∧ (1500 ≤ f1.toInt ∧ f1.toInt ≤ t1.toInt ∧ t1.toInt ≤ 2100) ∧ (n1.toInt = 0 ∨ (0 ≤ s1.toInt ∧ s1.toInt ≤ 9 ∧ 1 ≤ n1.toInt ∧ n1.toInt ≤ 999)) ∧ (nu (x.toInt.toNat * 8 + kn nb x.toInt.toNat - 1)).toInt ≠ 0 ∧ (tt (x.toInt.toNat * 8 + kn nb x.toInt.toNat - 1)).toInt < f1.toInt)) → r = -2 ∧ nb2 = nb ∧ fr2 = fr ∧ tt2 = tt ∧ st2 = st ∧ nu2 = nu) ∧ ((((0 ≤ x.toInt ∧ x.toInt < ((sn : Nat) : Int)) ∧ (1500 ≤ f1.toInt ∧ f1.toInt ≤ t1.toInt ∧ t1.toInt ≤ 2100) ∧ (n1.toInt = 0 ∨ (0 ≤ s1.toInt ∧ s1.toInt ≤ 9 ∧ 1 ≤ n1.toInt ∧ n1.toInt ≤ 999)) ∧ (nu (x.toInt.toNat * 8 + kn nb x.toInt.toNat - 1)).toInt ≠ 0 ∧ (tt (x.toInt.toNat * 8 + kn nb x.toInt.toNat - 1)).toInt < f1.toInt) ∧ 8 ≤ kn nb x.toInt.toNat) → r = -3 ∧ nb2 = nb ∧ fr2 = fr ∧ tt2 = tt ∧ st2 = st ∧ nu2 = nu) ∧ ((((0 ≤ x.toInt ∧ x.toInt < ((sn : Nat) : Int)) ∧ (1500 ≤ f1.toInt ∧ f1.toInt ≤ t1.toInt ∧ t1.toInt ≤ 2100) ∧ (n1.toInt = 0 ∨ (0 ≤ s1.toInt ∧ s1.toInt ≤ 9 ∧ 1 ≤ n1.toInt ∧ n1.toInt ≤ 999)) ∧ (nu (x.toInt.toNat * 8 + kn nb x.toInt.toNat - 1)).toInt ≠ 0 ∧ (tt (x.toInt.toNat * 8 + kn nb x.toInt.toNat - 1)).toInt < f1.toInt) ∧ kn nb x.toInt.toNat < 8) → r = nI (kn nb x.toInt.toNat + 1) ∧ nb2 = upd nb (x.toInt.toNat) (nI (kn nb x.toInt.toNat + 1)) ∧ fr2 = upd fr (x.toInt.toNat * 8 + kn nb x.toInt.toNat) f1 ∧ tt2 = upd tt (x.toInt.toNat * 8 + kn nb x.toInt.toNat) t1 ∧ st2 = upd st (x.toInt.toNat * 8 + kn nb x.toInt.toNat) s1 ∧ nu2 = upd nu (x.toInt.toNat * 8 + kn nb x.toInt.toNat) n1)) (h' : ((¬ ((0 ≤ x.toInt ∧ x.toInt < ((sn : Nat) : Int)) ∧ (1500 ≤ f1.toInt ∧ f1.toInt ≤ t1.toInt ∧ t1.toInt ≤ 2100) ∧ (n1.toInt = 0 ∨ (0 ≤ s1.toInt ∧ s1.toInt ≤ 9 ∧ 1 ≤ n1.toInt ∧ n1.toInt ≤ 999)) ∧ (nu (x.toInt.toNat * 8 + kn nb x.toInt.toNat - 1)).toInt ≠ 0 ∧ (tt (x.toInt.toNat * 8 + kn nb x.toInt.toNat - 1)).toInt < f1.toInt)) → r' = -2 ∧ nb2' = nb ∧ fr2' = fr ∧ tt2' = tt ∧ st2' = st ∧ nu2' = nu) ∧ ((((0 ≤ x.toInt ∧ x.toInt < ((sn : Nat) : Int)) ∧ (1500 ≤ f1.toInt ∧ f1.toInt ≤ t1.toInt ∧ t1.toInt ≤ 2100) ∧ (n1.toInt = 0 ∨ (0 ≤ s1.toInt ∧ s1.toInt ≤ 9 ∧ 1 ≤ n1.toInt ∧ n1.toInt ≤ 999)) ∧ (nu (x.toInt.toNat * 8 + kn nb x.toInt.toNat - 1)).toInt ≠ 0 ∧ (tt (x.toInt.toNat * 8 + kn nb x.toInt.toNat - 1)).toInt < f1.toInt) ∧ 8 ≤ kn nb x.toInt.toNat) → r' = -3 ∧ nb2' = nb ∧ fr2' = fr ∧ tt2' = tt ∧ st2' = st ∧ nu2' = nu) ∧ ((((0 ≤ x.toInt ∧ x.toInt < ((sn : Nat) : Int)) ∧ (1500 ≤ f1.toInt ∧ f1.toInt ≤ t1.toInt ∧ t1.toInt ≤ 2100) ∧ (n1.toInt = 0 ∨ (0 ≤ s1.toInt ∧ s1.toInt ≤ 9 ∧ 1 ≤ n1.toInt ∧ n1.toInt ≤ 999)) ∧ (nu (x.toInt.toNat * 8 + kn nb x.toInt.toNat - 1)).toInt ≠ 0 ∧ (tt (x.toInt.toNat * 8 + kn nb x.toInt.toNat - 1)).toInt < f1.toInt) ∧ kn nb x.toInt.toNat < 8) → r' = nI (kn nb x.toInt.toNat + 1) ∧ nb2' = upd nb (x.toInt.toNat) (nI (kn nb x.toInt.toNat + 1)) ∧ fr2' = upd fr (x.toInt.toNat * 8 + kn nb x.toInt.toNat) f1 ∧ tt2' = upd tt (x.toInt.toNat * 8 + kn nb x.toInt.toNat) t1 ∧ st2' = upd st (x.toInt.toNat * 8 + kn nb x.toInt.toNat) s1 ∧ nu2' = upd nu (x.toInt.toNat * 8 + kn nb x.toInt.toNat) n1)) : r = r' ∧ nb2' = nb2 ∧ fr2' = fr2 ∧ tt2' = tt2 ∧ st2' = st2 ∧ nu2' = nu2 := by
  obtain ⟨h0, h1, h2⟩ := h
  obtain ⟨g0, g1, g2⟩ := h'
  rcases (show (¬ ((0 ≤ x.toInt ∧ x.toInt < ((sn : Nat) : Int)) ∧ (1500 ≤ f1.toInt ∧ f1.toInt ≤ t1.toInt ∧ t1.toInt ≤ 2100) ∧ (n1.toInt = 0 ∨ (0 ≤ s1.toInt ∧ s1.toInt ≤ 9 ∧ 1 ≤ n1.toInt ∧ n1.toInt ≤ 999)) ∧ (nu (x.toInt.toNat * 8 + kn nb x.toInt.toNat - 1)).toInt ≠ 0 ∧ (tt (x.toInt.toNat * 8 + kn nb x.toInt.toNat - 1)).toInt < f1.toInt)) ∨ (((0 ≤ x.toInt ∧ x.toInt < ((sn : Nat) : Int)) ∧ (1500 ≤ f1.toInt ∧ f1.toInt ≤ t1.toInt ∧ t1.toInt ≤ 2100) ∧ (n1.toInt = 0 ∨ (0 ≤ s1.toInt ∧ s1.toInt ≤ 9 ∧ 1 ≤ n1.toInt ∧ n1.toInt ≤ 999)) ∧ (nu (x.toInt.toNat * 8 + kn nb x.toInt.toNat - 1)).toInt ≠ 0 ∧ (tt (x.toInt.toNat * 8 + kn nb x.toInt.toNat - 1)).toInt < f1.toInt) ∧ 8 ≤ kn nb x.toInt.toNat) ∨ (((0 ≤ x.toInt ∧ x.toInt < ((sn : Nat) : Int)) ∧ (1500 ≤ f1.toInt ∧ f1.toInt ≤ t1.toInt ∧ t1.toInt ≤ 2100) ∧ (n1.toInt = 0 ∨ (0 ≤ s1.toInt ∧ s1.toInt ≤ 9 ∧ 1 ≤ n1.toInt ∧ n1.toInt ≤ 999)) ∧ (nu (x.toInt.toNat * 8 + kn nb x.toInt.toNat - 1)).toInt ≠ 0 ∧ (tt (x.toInt.toNat * 8 + kn nb x.toInt.toNat - 1)).toInt < f1.toInt) ∧ kn nb x.toInt.toNat < 8) by omega) with c9 | c9 | c9
  · obtain ⟨e0, e1, e2, e3, e4, e5⟩ := h0 c9
    obtain ⟨f0, f1, f2, f3, f4, f5⟩ := g0 c9
    exact ⟨e0.trans f0.symm, f1.trans e1.symm, f2.trans e2.symm, f3.trans e3.symm, f4.trans e4.symm, f5.trans e5.symm⟩
  · obtain ⟨e0, e1, e2, e3, e4, e5⟩ := h1 c9
    obtain ⟨f0, f1, f2, f3, f4, f5⟩ := g1 c9
    exact ⟨e0.trans f0.symm, f1.trans e1.symm, f2.trans e2.symm, f3.trans e3.symm, f4.trans e4.symm, f5.trans e5.symm⟩
  · obtain ⟨e0, e1, e2, e3, e4, e5⟩ := h2 c9
    obtain ⟨f0, f1, f2, f3, f4, f5⟩ := g2 c9
    exact ⟨e0.trans f0.symm, f1.trans e1.symm, f2.trans e2.symm, f3.trans e3.symm, f4.trans e4.symm, f5.trans e5.symm⟩
set_option maxHeartbeats 4000000 in
theorem one_person {pn : Nat} {bo : Nat → Int32} {di : Nat → Int32} {th : Nat → Int32} {mk : Nat → Int32} {b1 : Int32} {d1 : Int32} {t1 : Int32} {r r' : Int32} {pn2 pn2' : Nat} {bo2 bo2' : Nat → Int32} {di2 di2' : Nat → Int32} {th2 th2' : Nat → Int32} {mk2 mk2' : Nat → Int32} (h : ((¬ ((1500 ≤ b1.toInt ∧ b1.toInt ≤ 2100) ∧ (0 ≤ t1.toInt ∧ t1.toInt ≤ 7) ∧ (d1.toInt = -1 ∨ (b1.toInt ≤ d1.toInt ∧ d1.toInt ≤ 2100)))) → r = -2 ∧ pn2 = pn ∧ bo2 = bo ∧ di2 = di ∧ th2 = th ∧ mk2 = mk) ∧ ((((1500 ≤ b1.toInt ∧ b1.toInt ≤ 2100) ∧ (0 ≤ t1.toInt ∧ t1.toInt ≤ 7) ∧ (d1.toInt = -1 ∨ (b1.toInt ≤ d1.toInt ∧ d1.toInt ≤ 2100))) ∧ 30 ≤ pn) → r = -3 ∧ pn2 = pn ∧ bo2 = bo ∧ di2 = di ∧ th2 = th ∧ mk2 = mk) ∧ ((((1500 ≤ b1.toInt ∧ b1.toInt ≤ 2100) ∧ (0 ≤ t1.toInt ∧ t1.toInt ≤ 7) ∧ (d1.toInt = -1 ∨ (b1.toInt ≤ d1.toInt ∧ d1.toInt ≤ 2100))) ∧ pn < 30) → r = nI pn ∧ pn2 = pn + 1 ∧ bo2 = upd bo pn b1 ∧ di2 = upd di pn d1 ∧ th2 = upd th pn t1 ∧ mk2 = upd mk pn (nI pn))) (h' : ((¬ ((1500 ≤ b1.toInt ∧ b1.toInt ≤ 2100) ∧ (0 ≤ t1.toInt ∧ t1.toInt ≤ 7) ∧ (d1.toInt = -1 ∨ (b1.toInt ≤ d1.toInt ∧ d1.toInt ≤ 2100)))) → r' = -2 ∧ pn2' = pn ∧ bo2' = bo ∧ di2' = di ∧ th2' = th ∧ mk2' = mk) ∧ ((((1500 ≤ b1.toInt ∧ b1.toInt ≤ 2100) ∧ (0 ≤ t1.toInt ∧ t1.toInt ≤ 7) ∧ (d1.toInt = -1 ∨ (b1.toInt ≤ d1.toInt ∧ d1.toInt ≤ 2100))) ∧ 30 ≤ pn) → r' = -3 ∧ pn2' = pn ∧ bo2' = bo ∧ di2' = di ∧ th2' = th ∧ mk2' = mk) ∧ ((((1500 ≤ b1.toInt ∧ b1.toInt ≤ 2100) ∧ (0 ≤ t1.toInt ∧ t1.toInt ≤ 7) ∧ (d1.toInt = -1 ∨ (b1.toInt ≤ d1.toInt ∧ d1.toInt ≤ 2100))) ∧ pn < 30) → r' = nI pn ∧ pn2' = pn + 1 ∧ bo2' = upd bo pn b1 ∧ di2' = upd di pn d1 ∧ th2' = upd th pn t1 ∧ mk2' = upd mk pn (nI pn))) : r = r' ∧ pn2' = pn2 ∧ bo2' = bo2 ∧ di2' = di2 ∧ th2' = th2 ∧ mk2' = mk2 := by
  obtain ⟨h0, h1, h2⟩ := h
  obtain ⟨g0, g1, g2⟩ := h'
  rcases (show (¬ ((1500 ≤ b1.toInt ∧ b1.toInt ≤ 2100) ∧ (0 ≤ t1.toInt ∧ t1.toInt ≤ 7) ∧ (d1.toInt = -1 ∨ (b1.toInt ≤ d1.toInt ∧ d1.toInt ≤ 2100)))) ∨ (((1500 ≤ b1.toInt ∧ b1.toInt ≤ 2100) ∧ (0 ≤ t1.toInt ∧ t1.toInt ≤ 7) ∧ (d1.toInt = -1 ∨ (b1.toInt ≤ d1.toInt ∧ d1.toInt ≤ 2100))) ∧ 30 ≤ pn) ∨ (((1500 ≤ b1.toInt ∧ b1.toInt ≤ 2100) ∧ (0 ≤ t1.toInt ∧ t1.toInt ≤ 7) ∧ (d1.toInt = -1 ∨ (b1.toInt ≤ d1.toInt ∧ d1.toInt ≤ 2100))) ∧ pn < 30) by omega) with c9 | c9 | c9
  · obtain ⟨e0, e1, e2, e3, e4, e5⟩ := h0 c9
    obtain ⟨f0, f1, f2, f3, f4, f5⟩ := g0 c9
    exact ⟨e0.trans f0.symm, f1.trans e1.symm, f2.trans e2.symm, f3.trans e3.symm, f4.trans e4.symm, f5.trans e5.symm⟩
  · obtain ⟨e0, e1, e2, e3, e4, e5⟩ := h1 c9
    obtain ⟨f0, f1, f2, f3, f4, f5⟩ := g1 c9
    exact ⟨e0.trans f0.symm, f1.trans e1.symm, f2.trans e2.symm, f3.trans e3.symm, f4.trans e4.symm, f5.trans e5.symm⟩
  · obtain ⟨e0, e1, e2, e3, e4, e5⟩ := h2 c9
    obtain ⟨f0, f1, f2, f3, f4, f5⟩ := g2 c9
    exact ⟨e0.trans f0.symm, f1.trans e1.symm, f2.trans e2.symm, f3.trans e3.symm, f4.trans e4.symm, f5.trans e5.symm⟩
set_option maxHeartbeats 4000000 in
theorem one_join {pn : Nat} {mk : Nat → Int32} {x : Int32} {y : Int32} {r r' : Int32} {mk2 mk2' : Nat → Int32} (h : ((¬ ((0 ≤ x.toInt ∧ x.toInt < ((pn : Nat) : Int)) ∧ (0 ≤ y.toInt ∧ y.toInt < ((pn : Nat) : Int)) ∧ x.toInt ≠ y.toInt)) → r = -2 ∧ mk2 = mk) ∧ ((((0 ≤ x.toInt ∧ x.toInt < ((pn : Nat) : Int)) ∧ (0 ≤ y.toInt ∧ y.toInt < ((pn : Nat) : Int)) ∧ x.toInt ≠ y.toInt) ∧ (mk (x.toInt.toNat)).toInt = (mk (y.toInt.toNat)).toInt) → r = 0 ∧ mk2 = mk) ∧ ((((0 ≤ x.toInt ∧ x.toInt < ((pn : Nat) : Int)) ∧ (0 ≤ y.toInt ∧ y.toInt < ((pn : Nat) : Int)) ∧ x.toInt ≠ y.toInt) ∧ (mk (x.toInt.toNat)).toInt ≠ (mk (y.toInt.toNat)).toInt) → r = 1 ∧ mk2 = mJoin mk (x.toInt.toNat) (y.toInt.toNat) pn)) (h' : ((¬ ((0 ≤ x.toInt ∧ x.toInt < ((pn : Nat) : Int)) ∧ (0 ≤ y.toInt ∧ y.toInt < ((pn : Nat) : Int)) ∧ x.toInt ≠ y.toInt)) → r' = -2 ∧ mk2' = mk) ∧ ((((0 ≤ x.toInt ∧ x.toInt < ((pn : Nat) : Int)) ∧ (0 ≤ y.toInt ∧ y.toInt < ((pn : Nat) : Int)) ∧ x.toInt ≠ y.toInt) ∧ (mk (x.toInt.toNat)).toInt = (mk (y.toInt.toNat)).toInt) → r' = 0 ∧ mk2' = mk) ∧ ((((0 ≤ x.toInt ∧ x.toInt < ((pn : Nat) : Int)) ∧ (0 ≤ y.toInt ∧ y.toInt < ((pn : Nat) : Int)) ∧ x.toInt ≠ y.toInt) ∧ (mk (x.toInt.toNat)).toInt ≠ (mk (y.toInt.toNat)).toInt) → r' = 1 ∧ mk2' = mJoin mk (x.toInt.toNat) (y.toInt.toNat) pn)) : r = r' ∧ mk2' = mk2 := by
  obtain ⟨h0, h1, h2⟩ := h
  obtain ⟨g0, g1, g2⟩ := h'
  rcases (show (¬ ((0 ≤ x.toInt ∧ x.toInt < ((pn : Nat) : Int)) ∧ (0 ≤ y.toInt ∧ y.toInt < ((pn : Nat) : Int)) ∧ x.toInt ≠ y.toInt)) ∨ (((0 ≤ x.toInt ∧ x.toInt < ((pn : Nat) : Int)) ∧ (0 ≤ y.toInt ∧ y.toInt < ((pn : Nat) : Int)) ∧ x.toInt ≠ y.toInt) ∧ (mk (x.toInt.toNat)).toInt = (mk (y.toInt.toNat)).toInt) ∨ (((0 ≤ x.toInt ∧ x.toInt < ((pn : Nat) : Int)) ∧ (0 ≤ y.toInt ∧ y.toInt < ((pn : Nat) : Int)) ∧ x.toInt ≠ y.toInt) ∧ (mk (x.toInt.toNat)).toInt ≠ (mk (y.toInt.toNat)).toInt) by omega) with c9 | c9 | c9
  · obtain ⟨e0, e1⟩ := h0 c9
    obtain ⟨f0, f1⟩ := g0 c9
    exact ⟨e0.trans f0.symm, f1.trans e1.symm⟩
  · obtain ⟨e0, e1⟩ := h1 c9
    obtain ⟨f0, f1⟩ := g1 c9
    exact ⟨e0.trans f0.symm, f1.trans e1.symm⟩
  · obtain ⟨e0, e1⟩ := h2 c9
    obtain ⟨f0, f1⟩ := g2 c9
    exact ⟨e0.trans f0.symm, f1.trans e1.symm⟩
set_option maxHeartbeats 4000000 in
theorem one_paper {pn : Nat} {qn : Nat} {qp : Nat → Int32} {qs : Nat → Int32} {qt : Nat → Int32} {qm : Nat → Int32} {qf : Nat → Int32} {ql : Nat → Int32} {p1 : Int32} {s1 : Int32} {t1 : Int32} {m1 : Int32} {f1 : Int32} {l1 : Int32} {r r' : Int32} {qn2 qn2' : Nat} {qp2 qp2' : Nat → Int32} {qs2 qs2' : Nat → Int32} {qt2 qt2' : Nat → Int32} {qm2 qm2' : Nat → Int32} {qf2 qf2' : Nat → Int32} {ql2 ql2' : Nat → Int32} (h : ((¬ ((0 ≤ p1.toInt ∧ p1.toInt < ((pn : Nat) : Int)) ∧ (0 ≤ s1.toInt ∧ s1.toInt ≤ 5) ∧ (0 ≤ t1.toInt ∧ t1.toInt ≤ 9 ∧ 1 ≤ m1.toInt ∧ m1.toInt ≤ 999) ∧ (1500 ≤ f1.toInt ∧ f1.toInt ≤ l1.toInt ∧ l1.toInt ≤ 2100) ∧ l1.toInt - f1.toInt < 60)) → r = -2 ∧ qn2 = qn ∧ qp2 = qp ∧ qs2 = qs ∧ qt2 = qt ∧ qm2 = qm ∧ qf2 = qf ∧ ql2 = ql) ∧ ((((0 ≤ p1.toInt ∧ p1.toInt < ((pn : Nat) : Int)) ∧ (0 ≤ s1.toInt ∧ s1.toInt ≤ 5) ∧ (0 ≤ t1.toInt ∧ t1.toInt ≤ 9 ∧ 1 ≤ m1.toInt ∧ m1.toInt ≤ 999) ∧ (1500 ≤ f1.toInt ∧ f1.toInt ≤ l1.toInt ∧ l1.toInt ≤ 2100) ∧ l1.toInt - f1.toInt < 60) ∧ 100 ≤ qn) → r = -3 ∧ qn2 = qn ∧ qp2 = qp ∧ qs2 = qs ∧ qt2 = qt ∧ qm2 = qm ∧ qf2 = qf ∧ ql2 = ql) ∧ ((((0 ≤ p1.toInt ∧ p1.toInt < ((pn : Nat) : Int)) ∧ (0 ≤ s1.toInt ∧ s1.toInt ≤ 5) ∧ (0 ≤ t1.toInt ∧ t1.toInt ≤ 9 ∧ 1 ≤ m1.toInt ∧ m1.toInt ≤ 999) ∧ (1500 ≤ f1.toInt ∧ f1.toInt ≤ l1.toInt ∧ l1.toInt ≤ 2100) ∧ l1.toInt - f1.toInt < 60) ∧ qn < 100) → r = nI qn ∧ qn2 = qn + 1 ∧ qp2 = upd qp qn p1 ∧ qs2 = upd qs qn s1 ∧ qt2 = upd qt qn t1 ∧ qm2 = upd qm qn m1 ∧ qf2 = upd qf qn f1 ∧ ql2 = upd ql qn l1)) (h' : ((¬ ((0 ≤ p1.toInt ∧ p1.toInt < ((pn : Nat) : Int)) ∧ (0 ≤ s1.toInt ∧ s1.toInt ≤ 5) ∧ (0 ≤ t1.toInt ∧ t1.toInt ≤ 9 ∧ 1 ≤ m1.toInt ∧ m1.toInt ≤ 999) ∧ (1500 ≤ f1.toInt ∧ f1.toInt ≤ l1.toInt ∧ l1.toInt ≤ 2100) ∧ l1.toInt - f1.toInt < 60)) → r' = -2 ∧ qn2' = qn ∧ qp2' = qp ∧ qs2' = qs ∧ qt2' = qt ∧ qm2' = qm ∧ qf2' = qf ∧ ql2' = ql) ∧ ((((0 ≤ p1.toInt ∧ p1.toInt < ((pn : Nat) : Int)) ∧ (0 ≤ s1.toInt ∧ s1.toInt ≤ 5) ∧ (0 ≤ t1.toInt ∧ t1.toInt ≤ 9 ∧ 1 ≤ m1.toInt ∧ m1.toInt ≤ 999) ∧ (1500 ≤ f1.toInt ∧ f1.toInt ≤ l1.toInt ∧ l1.toInt ≤ 2100) ∧ l1.toInt - f1.toInt < 60) ∧ 100 ≤ qn) → r' = -3 ∧ qn2' = qn ∧ qp2' = qp ∧ qs2' = qs ∧ qt2' = qt ∧ qm2' = qm ∧ qf2' = qf ∧ ql2' = ql) ∧ ((((0 ≤ p1.toInt ∧ p1.toInt < ((pn : Nat) : Int)) ∧ (0 ≤ s1.toInt ∧ s1.toInt ≤ 5) ∧ (0 ≤ t1.toInt ∧ t1.toInt ≤ 9 ∧ 1 ≤ m1.toInt ∧ m1.toInt ≤ 999) ∧ (1500 ≤ f1.toInt ∧ f1.toInt ≤ l1.toInt ∧ l1.toInt ≤ 2100) ∧ l1.toInt - f1.toInt < 60) ∧ qn < 100) → r' = nI qn ∧ qn2' = qn + 1 ∧ qp2' = upd qp qn p1 ∧ qs2' = upd qs qn s1 ∧ qt2' = upd qt qn t1 ∧ qm2' = upd qm qn m1 ∧ qf2' = upd qf qn f1 ∧ ql2' = upd ql qn l1)) : r = r' ∧ qn2' = qn2 ∧ qp2' = qp2 ∧ qs2' = qs2 ∧ qt2' = qt2 ∧ qm2' = qm2 ∧ qf2' = qf2 ∧ ql2' = ql2 := by
  obtain ⟨h0, h1, h2⟩ := h
  obtain ⟨g0, g1, g2⟩ := h'
  rcases (show (¬ ((0 ≤ p1.toInt ∧ p1.toInt < ((pn : Nat) : Int)) ∧ (0 ≤ s1.toInt ∧ s1.toInt ≤ 5) ∧ (0 ≤ t1.toInt ∧ t1.toInt ≤ 9 ∧ 1 ≤ m1.toInt ∧ m1.toInt ≤ 999) ∧ (1500 ≤ f1.toInt ∧ f1.toInt ≤ l1.toInt ∧ l1.toInt ≤ 2100) ∧ l1.toInt - f1.toInt < 60)) ∨ (((0 ≤ p1.toInt ∧ p1.toInt < ((pn : Nat) : Int)) ∧ (0 ≤ s1.toInt ∧ s1.toInt ≤ 5) ∧ (0 ≤ t1.toInt ∧ t1.toInt ≤ 9 ∧ 1 ≤ m1.toInt ∧ m1.toInt ≤ 999) ∧ (1500 ≤ f1.toInt ∧ f1.toInt ≤ l1.toInt ∧ l1.toInt ≤ 2100) ∧ l1.toInt - f1.toInt < 60) ∧ 100 ≤ qn) ∨ (((0 ≤ p1.toInt ∧ p1.toInt < ((pn : Nat) : Int)) ∧ (0 ≤ s1.toInt ∧ s1.toInt ≤ 5) ∧ (0 ≤ t1.toInt ∧ t1.toInt ≤ 9 ∧ 1 ≤ m1.toInt ∧ m1.toInt ≤ 999) ∧ (1500 ≤ f1.toInt ∧ f1.toInt ≤ l1.toInt ∧ l1.toInt ≤ 2100) ∧ l1.toInt - f1.toInt < 60) ∧ qn < 100) by omega) with c9 | c9 | c9
  · obtain ⟨e0, e1, e2, e3, e4, e5, e6, e7⟩ := h0 c9
    obtain ⟨f0, f1, f2, f3, f4, f5, f6, f7⟩ := g0 c9
    exact ⟨e0.trans f0.symm, f1.trans e1.symm, f2.trans e2.symm, f3.trans e3.symm, f4.trans e4.symm, f5.trans e5.symm, f6.trans e6.symm, f7.trans e7.symm⟩
  · obtain ⟨e0, e1, e2, e3, e4, e5, e6, e7⟩ := h1 c9
    obtain ⟨f0, f1, f2, f3, f4, f5, f6, f7⟩ := g1 c9
    exact ⟨e0.trans f0.symm, f1.trans e1.symm, f2.trans e2.symm, f3.trans e3.symm, f4.trans e4.symm, f5.trans e5.symm, f6.trans e6.symm, f7.trans e7.symm⟩
  · obtain ⟨e0, e1, e2, e3, e4, e5, e6, e7⟩ := h2 c9
    obtain ⟨f0, f1, f2, f3, f4, f5, f6, f7⟩ := g2 c9
    exact ⟨e0.trans f0.symm, f1.trans e1.symm, f2.trans e2.symm, f3.trans e3.symm, f4.trans e4.symm, f5.trans e5.symm, f6.trans e6.symm, f7.trans e7.symm⟩
set_option maxHeartbeats 4000000 in
theorem one_falsify {qn : Nat} {qx : Nat → Int32} {x : Int32} {b1 : Int32} {r r' : Int32} {qx2 qx2' : Nat → Int32} (h : ((¬ (0 ≤ x.toInt ∧ x.toInt < ((qn : Nat) : Int))) → r = -2 ∧ qx2 = qx) ∧ (((0 ≤ x.toInt ∧ x.toInt < ((qn : Nat) : Int)) ∧ (qx (x.toInt.toNat)).toInt = b1.toInt) → r = 0 ∧ qx2 = qx) ∧ (((0 ≤ x.toInt ∧ x.toInt < ((qn : Nat) : Int)) ∧ (qx (x.toInt.toNat)).toInt ≠ b1.toInt) → r = 1 ∧ qx2 = upd qx (x.toInt.toNat) b1)) (h' : ((¬ (0 ≤ x.toInt ∧ x.toInt < ((qn : Nat) : Int))) → r' = -2 ∧ qx2' = qx) ∧ (((0 ≤ x.toInt ∧ x.toInt < ((qn : Nat) : Int)) ∧ (qx (x.toInt.toNat)).toInt = b1.toInt) → r' = 0 ∧ qx2' = qx) ∧ (((0 ≤ x.toInt ∧ x.toInt < ((qn : Nat) : Int)) ∧ (qx (x.toInt.toNat)).toInt ≠ b1.toInt) → r' = 1 ∧ qx2' = upd qx (x.toInt.toNat) b1)) : r = r' ∧ qx2' = qx2 := by
  obtain ⟨h0, h1, h2⟩ := h
  obtain ⟨g0, g1, g2⟩ := h'
  rcases (show (¬ (0 ≤ x.toInt ∧ x.toInt < ((qn : Nat) : Int))) ∨ ((0 ≤ x.toInt ∧ x.toInt < ((qn : Nat) : Int)) ∧ (qx (x.toInt.toNat)).toInt = b1.toInt) ∨ ((0 ≤ x.toInt ∧ x.toInt < ((qn : Nat) : Int)) ∧ (qx (x.toInt.toNat)).toInt ≠ b1.toInt) by omega) with c9 | c9 | c9
  · obtain ⟨e0, e1⟩ := h0 c9
    obtain ⟨f0, f1⟩ := g0 c9
    exact ⟨e0.trans f0.symm, f1.trans e1.symm⟩
  · obtain ⟨e0, e1⟩ := h1 c9
    obtain ⟨f0, f1⟩ := g1 c9
    exact ⟨e0.trans f0.symm, f1.trans e1.symm⟩
  · obtain ⟨e0, e1⟩ := h2 c9
    obtain ⟨f0, f1⟩ := g2 c9
    exact ⟨e0.trans f0.symm, f1.trans e1.symm⟩
set_option maxHeartbeats 4000000 in
theorem one_fault {fk : Int32} {fp : Int32} {x : Int32} {r r' : Int32}  (h : ((x.toInt = 0) → r = fk) ∧ ((x.toInt = 1) → r = fp) ∧ ((x.toInt ≠ 0 ∧ x.toInt ≠ 1) → r = -1)) (h' : ((x.toInt = 0) → r' = fk) ∧ ((x.toInt = 1) → r' = fp) ∧ ((x.toInt ≠ 0 ∧ x.toInt ≠ 1) → r' = -1)) : r = r' := by
  obtain ⟨h0, h1, h2⟩ := h
  obtain ⟨g0, g1, g2⟩ := h'
  rcases (show (x.toInt = 0) ∨ (x.toInt = 1) ∨ (x.toInt ≠ 0 ∧ x.toInt ≠ 1) by omega) with c9 | c9 | c9
  · exact (h0 c9).trans (g0 c9).symm
  · exact (h1 c9).trans (g1 c9).symm
  · exact (h2 c9).trans (g2 c9).symm
set_option maxHeartbeats 4000000 in
theorem one_rule {tl : Nat → Int32} {x : Int32} {r r' : Int32}  (h : (((0 ≤ x.toInt ∧ x.toInt ≤ 7) ∨ (10 ≤ x.toInt ∧ x.toInt ≤ 17)) → r = tl (x.toInt.toNat)) ∧ ((¬ ((0 ≤ x.toInt ∧ x.toInt ≤ 7) ∨ (10 ≤ x.toInt ∧ x.toInt ≤ 17))) → r = -9)) (h' : (((0 ≤ x.toInt ∧ x.toInt ≤ 7) ∨ (10 ≤ x.toInt ∧ x.toInt ≤ 17)) → r' = tl (x.toInt.toNat)) ∧ ((¬ ((0 ≤ x.toInt ∧ x.toInt ≤ 7) ∨ (10 ≤ x.toInt ∧ x.toInt ≤ 17))) → r' = -9)) : r = r' := by
  obtain ⟨h0, h1⟩ := h
  obtain ⟨g0, g1⟩ := h'
  rcases (show ((0 ≤ x.toInt ∧ x.toInt ≤ 7) ∨ (10 ≤ x.toInt ∧ x.toInt ≤ 17)) ∨ (¬ ((0 ≤ x.toInt ∧ x.toInt ≤ 7) ∨ (10 ≤ x.toInt ∧ x.toInt ≤ 17))) by omega) with c9 | c9
  · exact (h0 c9).trans (g0 c9).symm
  · exact (h1 c9).trans (g1 c9).symm
set_option maxHeartbeats 4000000 in
theorem one_ask {pn : Nat} {sn : Nat} {an : Nat} {ap : Nat → Int32} {as_ : Nat → Int32} {ay : Nat → Int32} {ast : Nat → Int32} {asp : Nat → Int32} {aln : Nat → Int32} {p1 : Int32} {s1 : Int32} {y1 : Int32} {r r' : Int32} {an2 an2' : Nat} {ap2 ap2' : Nat → Int32} {as_2 as_2' : Nat → Int32} {ay2 ay2' : Nat → Int32} {ast2 ast2' : Nat → Int32} {asp2 asp2' : Nat → Int32} {aln2 aln2' : Nat → Int32} (h : ((¬ ((0 ≤ p1.toInt ∧ p1.toInt < ((pn : Nat) : Int)) ∧ (0 ≤ s1.toInt ∧ s1.toInt < ((sn : Nat) : Int)) ∧ (1500 ≤ y1.toInt ∧ y1.toInt ≤ 2100) ∧ (an = 0 ∨ (ay (an - 1)).toInt ≤ y1.toInt))) → r = -2 ∧ an2 = an ∧ ap2 = ap ∧ as_2 = as_ ∧ ay2 = ay ∧ ast2 = ast ∧ asp2 = asp ∧ aln2 = aln) ∧ ((((0 ≤ p1.toInt ∧ p1.toInt < ((pn : Nat) : Int)) ∧ (0 ≤ s1.toInt ∧ s1.toInt < ((sn : Nat) : Int)) ∧ (1500 ≤ y1.toInt ∧ y1.toInt ≤ 2100) ∧ (an = 0 ∨ (ay (an - 1)).toInt ≤ y1.toInt)) ∧ 40 ≤ an) → r = -3 ∧ an2 = an ∧ ap2 = ap ∧ as_2 = as_ ∧ ay2 = ay ∧ ast2 = ast ∧ asp2 = asp ∧ aln2 = aln) ∧ ((((0 ≤ p1.toInt ∧ p1.toInt < ((pn : Nat) : Int)) ∧ (0 ≤ s1.toInt ∧ s1.toInt < ((sn : Nat) : Int)) ∧ (1500 ≤ y1.toInt ∧ y1.toInt ≤ 2100) ∧ (an = 0 ∨ (ay (an - 1)).toInt ≤ y1.toInt)) ∧ an < 40) → r = nI an ∧ an2 = an + 1 ∧ ap2 = upd ap an p1 ∧ as_2 = upd as_ an s1 ∧ ay2 = upd ay an y1 ∧ ast2 = upd ast an 0 ∧ asp2 = upd asp an (-1) ∧ aln2 = upd aln an (-1))) (h' : ((¬ ((0 ≤ p1.toInt ∧ p1.toInt < ((pn : Nat) : Int)) ∧ (0 ≤ s1.toInt ∧ s1.toInt < ((sn : Nat) : Int)) ∧ (1500 ≤ y1.toInt ∧ y1.toInt ≤ 2100) ∧ (an = 0 ∨ (ay (an - 1)).toInt ≤ y1.toInt))) → r' = -2 ∧ an2' = an ∧ ap2' = ap ∧ as_2' = as_ ∧ ay2' = ay ∧ ast2' = ast ∧ asp2' = asp ∧ aln2' = aln) ∧ ((((0 ≤ p1.toInt ∧ p1.toInt < ((pn : Nat) : Int)) ∧ (0 ≤ s1.toInt ∧ s1.toInt < ((sn : Nat) : Int)) ∧ (1500 ≤ y1.toInt ∧ y1.toInt ≤ 2100) ∧ (an = 0 ∨ (ay (an - 1)).toInt ≤ y1.toInt)) ∧ 40 ≤ an) → r' = -3 ∧ an2' = an ∧ ap2' = ap ∧ as_2' = as_ ∧ ay2' = ay ∧ ast2' = ast ∧ asp2' = asp ∧ aln2' = aln) ∧ ((((0 ≤ p1.toInt ∧ p1.toInt < ((pn : Nat) : Int)) ∧ (0 ≤ s1.toInt ∧ s1.toInt < ((sn : Nat) : Int)) ∧ (1500 ≤ y1.toInt ∧ y1.toInt ≤ 2100) ∧ (an = 0 ∨ (ay (an - 1)).toInt ≤ y1.toInt)) ∧ an < 40) → r' = nI an ∧ an2' = an + 1 ∧ ap2' = upd ap an p1 ∧ as_2' = upd as_ an s1 ∧ ay2' = upd ay an y1 ∧ ast2' = upd ast an 0 ∧ asp2' = upd asp an (-1) ∧ aln2' = upd aln an (-1))) : r = r' ∧ an2' = an2 ∧ ap2' = ap2 ∧ as_2' = as_2 ∧ ay2' = ay2 ∧ ast2' = ast2 ∧ asp2' = asp2 ∧ aln2' = aln2 := by
  obtain ⟨h0, h1, h2⟩ := h
  obtain ⟨g0, g1, g2⟩ := h'
  rcases (show (¬ ((0 ≤ p1.toInt ∧ p1.toInt < ((pn : Nat) : Int)) ∧ (0 ≤ s1.toInt ∧ s1.toInt < ((sn : Nat) : Int)) ∧ (1500 ≤ y1.toInt ∧ y1.toInt ≤ 2100) ∧ (an = 0 ∨ (ay (an - 1)).toInt ≤ y1.toInt))) ∨ (((0 ≤ p1.toInt ∧ p1.toInt < ((pn : Nat) : Int)) ∧ (0 ≤ s1.toInt ∧ s1.toInt < ((sn : Nat) : Int)) ∧ (1500 ≤ y1.toInt ∧ y1.toInt ≤ 2100) ∧ (an = 0 ∨ (ay (an - 1)).toInt ≤ y1.toInt)) ∧ 40 ≤ an) ∨ (((0 ≤ p1.toInt ∧ p1.toInt < ((pn : Nat) : Int)) ∧ (0 ≤ s1.toInt ∧ s1.toInt < ((sn : Nat) : Int)) ∧ (1500 ≤ y1.toInt ∧ y1.toInt ≤ 2100) ∧ (an = 0 ∨ (ay (an - 1)).toInt ≤ y1.toInt)) ∧ an < 40) by omega) with c9 | c9 | c9
  · obtain ⟨e0, e1, e2, e3, e4, e5, e6, e7⟩ := h0 c9
    obtain ⟨f0, f1, f2, f3, f4, f5, f6, f7⟩ := g0 c9
    exact ⟨e0.trans f0.symm, f1.trans e1.symm, f2.trans e2.symm, f3.trans e3.symm, f4.trans e4.symm, f5.trans e5.symm, f6.trans e6.symm, f7.trans e7.symm⟩
  · obtain ⟨e0, e1, e2, e3, e4, e5, e6, e7⟩ := h1 c9
    obtain ⟨f0, f1, f2, f3, f4, f5, f6, f7⟩ := g1 c9
    exact ⟨e0.trans f0.symm, f1.trans e1.symm, f2.trans e2.symm, f3.trans e3.symm, f4.trans e4.symm, f5.trans e5.symm, f6.trans e6.symm, f7.trans e7.symm⟩
  · obtain ⟨e0, e1, e2, e3, e4, e5, e6, e7⟩ := h2 c9
    obtain ⟨f0, f1, f2, f3, f4, f5, f6, f7⟩ := g2 c9
    exact ⟨e0.trans f0.symm, f1.trans e1.symm, f2.trans e2.symm, f3.trans e3.symm, f4.trans e4.symm, f5.trans e5.symm, f6.trans e6.symm, f7.trans e7.symm⟩
set_option maxHeartbeats 4000000 in
theorem one_vote {an : Nat} {ast : Nat → Int32} {ayes : Nat → Int32} {ano : Nat → Int32} {x : Int32} {y1 : Int32} {n1 : Int32} {r r' : Int32} {ayes2 ayes2' : Nat → Int32} {ano2 ano2' : Nat → Int32} (h : ((¬ ((0 ≤ x.toInt ∧ x.toInt < ((an : Nat) : Int)) ∧ (0 ≤ y1.toInt ∧ y1.toInt ≤ 99) ∧ (0 ≤ n1.toInt ∧ n1.toInt ≤ 99))) → r = -2 ∧ ayes2 = ayes ∧ ano2 = ano) ∧ ((((0 ≤ x.toInt ∧ x.toInt < ((an : Nat) : Int)) ∧ (0 ≤ y1.toInt ∧ y1.toInt ≤ 99) ∧ (0 ≤ n1.toInt ∧ n1.toInt ≤ 99)) ∧ (ast (x.toInt.toNat)).toInt ≠ 0) → r = -4 ∧ ayes2 = ayes ∧ ano2 = ano) ∧ ((((0 ≤ x.toInt ∧ x.toInt < ((an : Nat) : Int)) ∧ (0 ≤ y1.toInt ∧ y1.toInt ≤ 99) ∧ (0 ≤ n1.toInt ∧ n1.toInt ≤ 99)) ∧ (ast (x.toInt.toNat)).toInt = 0) → r = 1 ∧ ayes2 = upd ayes (x.toInt.toNat) y1 ∧ ano2 = upd ano (x.toInt.toNat) n1)) (h' : ((¬ ((0 ≤ x.toInt ∧ x.toInt < ((an : Nat) : Int)) ∧ (0 ≤ y1.toInt ∧ y1.toInt ≤ 99) ∧ (0 ≤ n1.toInt ∧ n1.toInt ≤ 99))) → r' = -2 ∧ ayes2' = ayes ∧ ano2' = ano) ∧ ((((0 ≤ x.toInt ∧ x.toInt < ((an : Nat) : Int)) ∧ (0 ≤ y1.toInt ∧ y1.toInt ≤ 99) ∧ (0 ≤ n1.toInt ∧ n1.toInt ≤ 99)) ∧ (ast (x.toInt.toNat)).toInt ≠ 0) → r' = -4 ∧ ayes2' = ayes ∧ ano2' = ano) ∧ ((((0 ≤ x.toInt ∧ x.toInt < ((an : Nat) : Int)) ∧ (0 ≤ y1.toInt ∧ y1.toInt ≤ 99) ∧ (0 ≤ n1.toInt ∧ n1.toInt ≤ 99)) ∧ (ast (x.toInt.toNat)).toInt = 0) → r' = 1 ∧ ayes2' = upd ayes (x.toInt.toNat) y1 ∧ ano2' = upd ano (x.toInt.toNat) n1)) : r = r' ∧ ayes2' = ayes2 ∧ ano2' = ano2 := by
  obtain ⟨h0, h1, h2⟩ := h
  obtain ⟨g0, g1, g2⟩ := h'
  rcases (show (¬ ((0 ≤ x.toInt ∧ x.toInt < ((an : Nat) : Int)) ∧ (0 ≤ y1.toInt ∧ y1.toInt ≤ 99) ∧ (0 ≤ n1.toInt ∧ n1.toInt ≤ 99))) ∨ (((0 ≤ x.toInt ∧ x.toInt < ((an : Nat) : Int)) ∧ (0 ≤ y1.toInt ∧ y1.toInt ≤ 99) ∧ (0 ≤ n1.toInt ∧ n1.toInt ≤ 99)) ∧ (ast (x.toInt.toNat)).toInt ≠ 0) ∨ (((0 ≤ x.toInt ∧ x.toInt < ((an : Nat) : Int)) ∧ (0 ≤ y1.toInt ∧ y1.toInt ≤ 99) ∧ (0 ≤ n1.toInt ∧ n1.toInt ≤ 99)) ∧ (ast (x.toInt.toNat)).toInt = 0) by omega) with c9 | c9 | c9
  · obtain ⟨e0, e1, e2⟩ := h0 c9
    obtain ⟨f0, f1, f2⟩ := g0 c9
    exact ⟨e0.trans f0.symm, f1.trans e1.symm, f2.trans e2.symm⟩
  · obtain ⟨e0, e1, e2⟩ := h1 c9
    obtain ⟨f0, f1, f2⟩ := g1 c9
    exact ⟨e0.trans f0.symm, f1.trans e1.symm, f2.trans e2.symm⟩
  · obtain ⟨e0, e1, e2⟩ := h2 c9
    obtain ⟨f0, f1, f2⟩ := g2 c9
    exact ⟨e0.trans f0.symm, f1.trans e1.symm, f2.trans e2.symm⟩
set_option maxHeartbeats 4000000 in
theorem one_line {an : Nat} {ast : Nat → Int32} {aln : Nat → Int32} {alw : Nat → Int32} {x : Int32} {y : Int32} {r r' : Int32}  (h : ((¬ ((0 ≤ x.toInt ∧ x.toInt < ((an : Nat) : Int)) ∧ ((ast (x.toInt.toNat)).toInt = 3 ∨ (ast (x.toInt.toNat)).toInt = 4))) → r = -2) ∧ ((((0 ≤ x.toInt ∧ x.toInt < ((an : Nat) : Int)) ∧ ((ast (x.toInt.toNat)).toInt = 3 ∨ (ast (x.toInt.toNat)).toInt = 4)) ∧ (0 ≤ y.toInt ∧ y.toInt < (aln (x.toInt.toNat)).toInt)) → r = alw ((x.toInt.toNat) * 8 + y.toInt.toNat)) ∧ ((((0 ≤ x.toInt ∧ x.toInt < ((an : Nat) : Int)) ∧ ((ast (x.toInt.toNat)).toInt = 3 ∨ (ast (x.toInt.toNat)).toInt = 4)) ∧ ¬ (0 ≤ y.toInt ∧ y.toInt < (aln (x.toInt.toNat)).toInt)) → r = -1)) (h' : ((¬ ((0 ≤ x.toInt ∧ x.toInt < ((an : Nat) : Int)) ∧ ((ast (x.toInt.toNat)).toInt = 3 ∨ (ast (x.toInt.toNat)).toInt = 4))) → r' = -2) ∧ ((((0 ≤ x.toInt ∧ x.toInt < ((an : Nat) : Int)) ∧ ((ast (x.toInt.toNat)).toInt = 3 ∨ (ast (x.toInt.toNat)).toInt = 4)) ∧ (0 ≤ y.toInt ∧ y.toInt < (aln (x.toInt.toNat)).toInt)) → r' = alw ((x.toInt.toNat) * 8 + y.toInt.toNat)) ∧ ((((0 ≤ x.toInt ∧ x.toInt < ((an : Nat) : Int)) ∧ ((ast (x.toInt.toNat)).toInt = 3 ∨ (ast (x.toInt.toNat)).toInt = 4)) ∧ ¬ (0 ≤ y.toInt ∧ y.toInt < (aln (x.toInt.toNat)).toInt)) → r' = -1)) : r = r' := by
  obtain ⟨h0, h1, h2⟩ := h
  obtain ⟨g0, g1, g2⟩ := h'
  rcases (show (¬ ((0 ≤ x.toInt ∧ x.toInt < ((an : Nat) : Int)) ∧ ((ast (x.toInt.toNat)).toInt = 3 ∨ (ast (x.toInt.toNat)).toInt = 4))) ∨ (((0 ≤ x.toInt ∧ x.toInt < ((an : Nat) : Int)) ∧ ((ast (x.toInt.toNat)).toInt = 3 ∨ (ast (x.toInt.toNat)).toInt = 4)) ∧ (0 ≤ y.toInt ∧ y.toInt < (aln (x.toInt.toNat)).toInt)) ∨ (((0 ≤ x.toInt ∧ x.toInt < ((an : Nat) : Int)) ∧ ((ast (x.toInt.toNat)).toInt = 3 ∨ (ast (x.toInt.toNat)).toInt = 4)) ∧ ¬ (0 ≤ y.toInt ∧ y.toInt < (aln (x.toInt.toNat)).toInt)) by omega) with c9 | c9 | c9
  · exact (h0 c9).trans (g0 c9).symm
  · exact (h1 c9).trans (g1 c9).symm
  · exact (h2 c9).trans (g2 c9).symm
set_option maxHeartbeats 4000000 in
theorem one_wide {an : Nat} {ast : Nat → Int32} {aln : Nat → Int32} {alx : Nat → Int32} {x : Int32} {y : Int32} {r r' : Int32}  (h : ((¬ ((0 ≤ x.toInt ∧ x.toInt < ((an : Nat) : Int)) ∧ ((ast (x.toInt.toNat)).toInt = 3 ∨ (ast (x.toInt.toNat)).toInt = 4))) → r = -2) ∧ ((((0 ≤ x.toInt ∧ x.toInt < ((an : Nat) : Int)) ∧ ((ast (x.toInt.toNat)).toInt = 3 ∨ (ast (x.toInt.toNat)).toInt = 4)) ∧ (0 ≤ y.toInt ∧ y.toInt < (aln (x.toInt.toNat)).toInt)) → r = alx ((x.toInt.toNat) * 8 + y.toInt.toNat)) ∧ ((((0 ≤ x.toInt ∧ x.toInt < ((an : Nat) : Int)) ∧ ((ast (x.toInt.toNat)).toInt = 3 ∨ (ast (x.toInt.toNat)).toInt = 4)) ∧ ¬ (0 ≤ y.toInt ∧ y.toInt < (aln (x.toInt.toNat)).toInt)) → r = -1)) (h' : ((¬ ((0 ≤ x.toInt ∧ x.toInt < ((an : Nat) : Int)) ∧ ((ast (x.toInt.toNat)).toInt = 3 ∨ (ast (x.toInt.toNat)).toInt = 4))) → r' = -2) ∧ ((((0 ≤ x.toInt ∧ x.toInt < ((an : Nat) : Int)) ∧ ((ast (x.toInt.toNat)).toInt = 3 ∨ (ast (x.toInt.toNat)).toInt = 4)) ∧ (0 ≤ y.toInt ∧ y.toInt < (aln (x.toInt.toNat)).toInt)) → r' = alx ((x.toInt.toNat) * 8 + y.toInt.toNat)) ∧ ((((0 ≤ x.toInt ∧ x.toInt < ((an : Nat) : Int)) ∧ ((ast (x.toInt.toNat)).toInt = 3 ∨ (ast (x.toInt.toNat)).toInt = 4)) ∧ ¬ (0 ≤ y.toInt ∧ y.toInt < (aln (x.toInt.toNat)).toInt)) → r' = -1)) : r = r' := by
  obtain ⟨h0, h1, h2⟩ := h
  obtain ⟨g0, g1, g2⟩ := h'
  rcases (show (¬ ((0 ≤ x.toInt ∧ x.toInt < ((an : Nat) : Int)) ∧ ((ast (x.toInt.toNat)).toInt = 3 ∨ (ast (x.toInt.toNat)).toInt = 4))) ∨ (((0 ≤ x.toInt ∧ x.toInt < ((an : Nat) : Int)) ∧ ((ast (x.toInt.toNat)).toInt = 3 ∨ (ast (x.toInt.toNat)).toInt = 4)) ∧ (0 ≤ y.toInt ∧ y.toInt < (aln (x.toInt.toNat)).toInt)) ∨ (((0 ≤ x.toInt ∧ x.toInt < ((an : Nat) : Int)) ∧ ((ast (x.toInt.toNat)).toInt = 3 ∨ (ast (x.toInt.toNat)).toInt = 4)) ∧ ¬ (0 ≤ y.toInt ∧ y.toInt < (aln (x.toInt.toNat)).toInt)) by omega) with c9 | c9 | c9
  · exact (h0 c9).trans (g0 c9).symm
  · exact (h1 c9).trans (g1 c9).symm
  · exact (h2 c9).trans (g2 c9).symm
set_option maxHeartbeats 4000000 in
theorem one_down {an : Nat} {ast : Nat → Int32} {tl : Nat → Int32} {x : Int32} {y1 : Int32} {n1 : Int32} {r r' : Int32} {ast2 ast2' : Nat → Int32} (h : ((¬ ((0 ≤ x.toInt ∧ x.toInt < ((an : Nat) : Int)) ∧ (0 ≤ y1.toInt ∧ y1.toInt ≤ 99) ∧ (0 ≤ n1.toInt ∧ n1.toInt ≤ 99))) → r = -2 ∧ ast2 = ast) ∧ ((((0 ≤ x.toInt ∧ x.toInt < ((an : Nat) : Int)) ∧ (0 ≤ y1.toInt ∧ y1.toInt ≤ 99) ∧ (0 ≤ n1.toInt ∧ n1.toInt ≤ 99)) ∧ (ast (x.toInt.toNat)).toInt ≠ 3) → r = -4 ∧ ast2 = ast) ∧ ((((0 ≤ x.toInt ∧ x.toInt < ((an : Nat) : Int)) ∧ (0 ≤ y1.toInt ∧ y1.toInt ≤ 99) ∧ (0 ≤ n1.toInt ∧ n1.toInt ≤ 99)) ∧ (ast (x.toInt.toNat)).toInt = 3 ∧ ¬ (1 ≤ y1.toInt + n1.toInt ∧ (tl 7).toInt * (y1.toInt + n1.toInt) ≤ y1.toInt * 100)) → r = 3 ∧ ast2 = ast) ∧ ((((0 ≤ x.toInt ∧ x.toInt < ((an : Nat) : Int)) ∧ (0 ≤ y1.toInt ∧ y1.toInt ≤ 99) ∧ (0 ≤ n1.toInt ∧ n1.toInt ≤ 99)) ∧ (ast (x.toInt.toNat)).toInt = 3 ∧ (1 ≤ y1.toInt + n1.toInt ∧ (tl 7).toInt * (y1.toInt + n1.toInt) ≤ y1.toInt * 100)) → r = 4 ∧ ast2 = upd ast (x.toInt.toNat) 4)) (h' : ((¬ ((0 ≤ x.toInt ∧ x.toInt < ((an : Nat) : Int)) ∧ (0 ≤ y1.toInt ∧ y1.toInt ≤ 99) ∧ (0 ≤ n1.toInt ∧ n1.toInt ≤ 99))) → r' = -2 ∧ ast2' = ast) ∧ ((((0 ≤ x.toInt ∧ x.toInt < ((an : Nat) : Int)) ∧ (0 ≤ y1.toInt ∧ y1.toInt ≤ 99) ∧ (0 ≤ n1.toInt ∧ n1.toInt ≤ 99)) ∧ (ast (x.toInt.toNat)).toInt ≠ 3) → r' = -4 ∧ ast2' = ast) ∧ ((((0 ≤ x.toInt ∧ x.toInt < ((an : Nat) : Int)) ∧ (0 ≤ y1.toInt ∧ y1.toInt ≤ 99) ∧ (0 ≤ n1.toInt ∧ n1.toInt ≤ 99)) ∧ (ast (x.toInt.toNat)).toInt = 3 ∧ ¬ (1 ≤ y1.toInt + n1.toInt ∧ (tl 7).toInt * (y1.toInt + n1.toInt) ≤ y1.toInt * 100)) → r' = 3 ∧ ast2' = ast) ∧ ((((0 ≤ x.toInt ∧ x.toInt < ((an : Nat) : Int)) ∧ (0 ≤ y1.toInt ∧ y1.toInt ≤ 99) ∧ (0 ≤ n1.toInt ∧ n1.toInt ≤ 99)) ∧ (ast (x.toInt.toNat)).toInt = 3 ∧ (1 ≤ y1.toInt + n1.toInt ∧ (tl 7).toInt * (y1.toInt + n1.toInt) ≤ y1.toInt * 100)) → r' = 4 ∧ ast2' = upd ast (x.toInt.toNat) 4)) : r = r' ∧ ast2' = ast2 := by
  obtain ⟨h0, h1, h2, h3⟩ := h
  obtain ⟨g0, g1, g2, g3⟩ := h'
  rcases (show (¬ ((0 ≤ x.toInt ∧ x.toInt < ((an : Nat) : Int)) ∧ (0 ≤ y1.toInt ∧ y1.toInt ≤ 99) ∧ (0 ≤ n1.toInt ∧ n1.toInt ≤ 99))) ∨ (((0 ≤ x.toInt ∧ x.toInt < ((an : Nat) : Int)) ∧ (0 ≤ y1.toInt ∧ y1.toInt ≤ 99) ∧ (0 ≤ n1.toInt ∧ n1.toInt ≤ 99)) ∧ (ast (x.toInt.toNat)).toInt ≠ 3) ∨ (((0 ≤ x.toInt ∧ x.toInt < ((an : Nat) : Int)) ∧ (0 ≤ y1.toInt ∧ y1.toInt ≤ 99) ∧ (0 ≤ n1.toInt ∧ n1.toInt ≤ 99)) ∧ (ast (x.toInt.toNat)).toInt = 3 ∧ ¬ (1 ≤ y1.toInt + n1.toInt ∧ (tl 7).toInt * (y1.toInt + n1.toInt) ≤ y1.toInt * 100)) ∨ (((0 ≤ x.toInt ∧ x.toInt < ((an : Nat) : Int)) ∧ (0 ≤ y1.toInt ∧ y1.toInt ≤ 99) ∧ (0 ≤ n1.toInt ∧ n1.toInt ≤ 99)) ∧ (ast (x.toInt.toNat)).toInt = 3 ∧ (1 ≤ y1.toInt + n1.toInt ∧ (tl 7).toInt * (y1.toInt + n1.toInt) ≤ y1.toInt * 100)) by omega) with c9 | c9 | c9 | c9
  · obtain ⟨e0, e1⟩ := h0 c9
    obtain ⟨f0, f1⟩ := g0 c9
    exact ⟨e0.trans f0.symm, f1.trans e1.symm⟩
  · obtain ⟨e0, e1⟩ := h1 c9
    obtain ⟨f0, f1⟩ := g1 c9
    exact ⟨e0.trans f0.symm, f1.trans e1.symm⟩
  · obtain ⟨e0, e1⟩ := h2 c9
    obtain ⟨f0, f1⟩ := g2 c9
    exact ⟨e0.trans f0.symm, f1.trans e1.symm⟩
  · obtain ⟨e0, e1⟩ := h3 c9
    obtain ⟨f0, f1⟩ := g3 c9
    exact ⟨e0.trans f0.symm, f1.trans e1.symm⟩
set_option maxHeartbeats 4000000 in
theorem one_about {an : Nat} {ap : Nat → Int32} {as_ : Nat → Int32} {ay : Nat → Int32} {ast : Nat → Int32} {ayes : Nat → Int32} {ano : Nat → Int32} {asp : Nat → Int32} {aln : Nat → Int32} {x : Int32} {y : Int32} {r r' : Int32}  (h : ((¬ (0 ≤ x.toInt ∧ x.toInt < ((an : Nat) : Int)) ∨ y.toInt < 0 ∨ 7 < y.toInt) → r = -9) ∧ (((0 ≤ x.toInt ∧ x.toInt < ((an : Nat) : Int)) ∧ y.toInt = 0) → r = ap (x.toInt.toNat)) ∧ (((0 ≤ x.toInt ∧ x.toInt < ((an : Nat) : Int)) ∧ y.toInt = 1) → r = as_ (x.toInt.toNat)) ∧ (((0 ≤ x.toInt ∧ x.toInt < ((an : Nat) : Int)) ∧ y.toInt = 2) → r = ay (x.toInt.toNat)) ∧ (((0 ≤ x.toInt ∧ x.toInt < ((an : Nat) : Int)) ∧ y.toInt = 3) → r = ast (x.toInt.toNat)) ∧ (((0 ≤ x.toInt ∧ x.toInt < ((an : Nat) : Int)) ∧ y.toInt = 4) → r = ayes (x.toInt.toNat)) ∧ (((0 ≤ x.toInt ∧ x.toInt < ((an : Nat) : Int)) ∧ y.toInt = 5) → r = ano (x.toInt.toNat)) ∧ (((0 ≤ x.toInt ∧ x.toInt < ((an : Nat) : Int)) ∧ y.toInt = 6) → r = asp (x.toInt.toNat)) ∧ (((0 ≤ x.toInt ∧ x.toInt < ((an : Nat) : Int)) ∧ y.toInt = 7) → r = aln (x.toInt.toNat))) (h' : ((¬ (0 ≤ x.toInt ∧ x.toInt < ((an : Nat) : Int)) ∨ y.toInt < 0 ∨ 7 < y.toInt) → r' = -9) ∧ (((0 ≤ x.toInt ∧ x.toInt < ((an : Nat) : Int)) ∧ y.toInt = 0) → r' = ap (x.toInt.toNat)) ∧ (((0 ≤ x.toInt ∧ x.toInt < ((an : Nat) : Int)) ∧ y.toInt = 1) → r' = as_ (x.toInt.toNat)) ∧ (((0 ≤ x.toInt ∧ x.toInt < ((an : Nat) : Int)) ∧ y.toInt = 2) → r' = ay (x.toInt.toNat)) ∧ (((0 ≤ x.toInt ∧ x.toInt < ((an : Nat) : Int)) ∧ y.toInt = 3) → r' = ast (x.toInt.toNat)) ∧ (((0 ≤ x.toInt ∧ x.toInt < ((an : Nat) : Int)) ∧ y.toInt = 4) → r' = ayes (x.toInt.toNat)) ∧ (((0 ≤ x.toInt ∧ x.toInt < ((an : Nat) : Int)) ∧ y.toInt = 5) → r' = ano (x.toInt.toNat)) ∧ (((0 ≤ x.toInt ∧ x.toInt < ((an : Nat) : Int)) ∧ y.toInt = 6) → r' = asp (x.toInt.toNat)) ∧ (((0 ≤ x.toInt ∧ x.toInt < ((an : Nat) : Int)) ∧ y.toInt = 7) → r' = aln (x.toInt.toNat))) : r = r' := by
  obtain ⟨h0, h1, h2, h3, h4, h5, h6, h7, h8⟩ := h
  obtain ⟨g0, g1, g2, g3, g4, g5, g6, g7, g8⟩ := h'
  rcases (show (¬ (0 ≤ x.toInt ∧ x.toInt < ((an : Nat) : Int)) ∨ y.toInt < 0 ∨ 7 < y.toInt) ∨ ((0 ≤ x.toInt ∧ x.toInt < ((an : Nat) : Int)) ∧ y.toInt = 0) ∨ ((0 ≤ x.toInt ∧ x.toInt < ((an : Nat) : Int)) ∧ y.toInt = 1) ∨ ((0 ≤ x.toInt ∧ x.toInt < ((an : Nat) : Int)) ∧ y.toInt = 2) ∨ ((0 ≤ x.toInt ∧ x.toInt < ((an : Nat) : Int)) ∧ y.toInt = 3) ∨ ((0 ≤ x.toInt ∧ x.toInt < ((an : Nat) : Int)) ∧ y.toInt = 4) ∨ ((0 ≤ x.toInt ∧ x.toInt < ((an : Nat) : Int)) ∧ y.toInt = 5) ∨ ((0 ≤ x.toInt ∧ x.toInt < ((an : Nat) : Int)) ∧ y.toInt = 6) ∨ ((0 ≤ x.toInt ∧ x.toInt < ((an : Nat) : Int)) ∧ y.toInt = 7) by omega) with c9 | c9 | c9 | c9 | c9 | c9 | c9 | c9 | c9
  · exact (h0 c9).trans (g0 c9).symm
  · exact (h1 c9).trans (g1 c9).symm
  · exact (h2 c9).trans (g2 c9).symm
  · exact (h3 c9).trans (g3 c9).symm
  · exact (h4 c9).trans (g4 c9).symm
  · exact (h5 c9).trans (g5 c9).symm
  · exact (h6 c9).trans (g6 c9).symm
  · exact (h7 c9).trans (g7 c9).symm
  · exact (h8 c9).trans (g8 c9).symm
set_option maxHeartbeats 4000000 in
theorem one_count {tn : Nat} {sn : Nat} {nb : Nat → Int32} {pn : Nat} {qn : Nat} {an : Nat} {ast : Nat → Int32} {x : Int32} {r r' : Int32}  (h : ((10 ≤ x.toInt ∧ x.toInt < 10 + ((sn : Nat) : Int)) → r = nb (x.toInt - 10).toNat) ∧ ((x.toInt = 0) → r = nI sn) ∧ ((x.toInt = 1) → r = nI pn) ∧ ((x.toInt = 2) → r = nI qn) ∧ ((x.toInt = 3) → r = nI an) ∧ ((x.toInt = 4) → r = ctI (fun k9 => decide ((ast k9).toInt = 3)) an) ∧ ((x.toInt = 5) → r = nI tn) ∧ ((x.toInt < 0 ∨ (5 < x.toInt ∧ ¬ (10 ≤ x.toInt ∧ x.toInt < 10 + ((sn : Nat) : Int)))) → r = -1)) (h' : ((10 ≤ x.toInt ∧ x.toInt < 10 + ((sn : Nat) : Int)) → r' = nb (x.toInt - 10).toNat) ∧ ((x.toInt = 0) → r' = nI sn) ∧ ((x.toInt = 1) → r' = nI pn) ∧ ((x.toInt = 2) → r' = nI qn) ∧ ((x.toInt = 3) → r' = nI an) ∧ ((x.toInt = 4) → r' = ctI (fun k9 => decide ((ast k9).toInt = 3)) an) ∧ ((x.toInt = 5) → r' = nI tn) ∧ ((x.toInt < 0 ∨ (5 < x.toInt ∧ ¬ (10 ≤ x.toInt ∧ x.toInt < 10 + ((sn : Nat) : Int)))) → r' = -1)) : r = r' := by
  obtain ⟨h0, h1, h2, h3, h4, h5, h6, h7⟩ := h
  obtain ⟨g0, g1, g2, g3, g4, g5, g6, g7⟩ := h'
  rcases (show (10 ≤ x.toInt ∧ x.toInt < 10 + ((sn : Nat) : Int)) ∨ (x.toInt = 0) ∨ (x.toInt = 1) ∨ (x.toInt = 2) ∨ (x.toInt = 3) ∨ (x.toInt = 4) ∨ (x.toInt = 5) ∨ (x.toInt < 0 ∨ (5 < x.toInt ∧ ¬ (10 ≤ x.toInt ∧ x.toInt < 10 + ((sn : Nat) : Int)))) by omega) with c9 | c9 | c9 | c9 | c9 | c9 | c9 | c9
  · exact (h0 c9).trans (g0 c9).symm
  · exact (h1 c9).trans (g1 c9).symm
  · exact (h2 c9).trans (g2 c9).symm
  · exact (h3 c9).trans (g3 c9).symm
  · exact (h4 c9).trans (g4 c9).symm
  · exact (h5 c9).trans (g5 c9).symm
  · exact (h6 c9).trans (g6 c9).symm
  · exact (h7 c9).trans (g7 c9).symm

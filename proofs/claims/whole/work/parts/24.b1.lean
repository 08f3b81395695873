/-! counting bits byte by byte -/
theorem and_split {A B m c : Nat} (hB : B < 256) (hc : c < 256) : (256 * A + B) &&& (256 * m + c) = 256 * (A &&& m) + (B &&& c) := by
  apply Nat.eq_of_testBit_eq
  intro i
  have e : (256 : Nat) = 2 ^ 8 := by decide
  rw [e] at hB hc ⊢
  rw [Nat.testBit_and, Nat.testBit_two_pow_mul_add _ hB, Nat.testBit_two_pow_mul_add _ hc, Nat.testBit_two_pow_mul_add _ (Nat.and_lt_two_pow _ hc)]
  by_cases q : i < 8
  · simp [q]
  · simp [q]
def rep8 (c : Nat) : Nat → Nat
  | 0 => 0
  | k + 1 => 256 * rep8 c k + c
def bsum (f : Nat → Nat) : Nat → Nat → Nat
  | 0, _ => 0
  | k + 1, n => 256 * bsum f k (n / 256) + f (n % 256)
def pop1 (b : Nat) : Nat := b - (b / 2 &&& 85)
def pop2 (b : Nat) : Nat := (pop1 b &&& 51) + (pop1 b / 4 &&& 51)
def pop3 (b : Nat) : Nat := (pop2 b + pop2 b / 16) &&& 15
theorem pop_a : ∀ b, b < 256 → (b / 2 &&& 85) ≤ b ∧ pop1 b < 256 ∧ pop2 b < 256 ∧ pop2 b % 16 ≤ 4 ∧ pop2 b / 16 ≤ 4 ∧ pop3 b ≤ 8 ∧ pop3 b = fb_ct (fun i => b.testBit i) 8 := by decide +kernel
theorem pop_h2 : ∀ e, e < 2 → ∀ h, h < 128 → (128 * e + h) &&& 85 = h &&& 85 := by decide +kernel
theorem pop_h4 : ∀ e, e < 4 → ∀ h, h < 64 → (64 * e + h) &&& 51 = h &&& 51 := by decide +kernel
theorem pop_h16 : ∀ e, e < 5 → ∀ x, x < 73 → (16 * e + x) &&& 15 = x &&& 15 := by decide +kernel
theorem bs_1a : ∀ (k n : Nat), (n / 2) &&& rep8 85 k = bsum (fun b => b / 2 &&& 85) k n
  | 0, n => by simp [rep8, bsum]
  | k + 1, n => by
    have e : n / 2 = 256 * (n / 256 / 2) + (128 * (n / 256 % 2) + n % 256 / 2) := by omega
    rw [e]
    show (256 * (n / 256 / 2) + (128 * (n / 256 % 2) + n % 256 / 2)) &&& (256 * rep8 85 k + 85) = 256 * bsum _ k (n / 256) + (n % 256 / 2 &&& 85)
    rw [and_split (by omega) (by omega), bs_1a k (n / 256), pop_h2 _ (by omega) _ (by omega)]
theorem bs_id : ∀ (k n : Nat), n < 256 ^ k → bsum (fun b => b) k n = n
  | 0, n, h => by simp [bsum] at h ⊢; omega
  | k + 1, n, h => by
    show 256 * bsum _ k (n / 256) + n % 256 = n
    rw [bs_id k (n / 256) (by rw [Nat.pow_succ] at h; omega)]
    omega
theorem bs_le (f g : Nat → Nat) (h : ∀ b, b < 256 → f b ≤ g b) : ∀ (k n : Nat), bsum f k n ≤ bsum g k n
  | 0, n => Nat.le_refl _
  | k + 1, n => by
    show 256 * bsum f k (n / 256) + f (n % 256) ≤ 256 * bsum g k (n / 256) + g (n % 256)
    have h1 := bs_le f g h k (n / 256)
    have h2 := h (n % 256) (by omega)
    omega
theorem bs_sub (f g : Nat → Nat) (h : ∀ b, b < 256 → f b ≤ g b) : ∀ (k n : Nat), bsum g k n - bsum f k n = bsum (fun b => g b - f b) k n
  | 0, n => rfl
  | k + 1, n => by
    show 256 * bsum g k (n / 256) + g (n % 256) - (256 * bsum f k (n / 256) + f (n % 256)) = 256 * bsum _ k (n / 256) + (g (n % 256) - f (n % 256))
    have h1 := bs_le f g h k (n / 256)
    have h2 := h (n % 256) (by omega)
    rw [← bs_sub f g h k (n / 256)]
    omega
theorem bs_1 {n : Nat} (h : n < 256 ^ 8) : n - (n / 2 &&& rep8 85 8) = bsum pop1 8 n := by
  rw [bs_1a 8 n]
  have h1 := bs_sub (fun b => b / 2 &&& 85) (fun b => b) (fun b hb => (pop_a b hb).1) 8 n
  rw [bs_id 8 n h] at h1
  exact h1
theorem bs_2 : ∀ (k n : Nat), (bsum pop1 k n &&& rep8 51 k) + (bsum pop1 k n / 4 &&& rep8 51 k) = bsum pop2 k n
  | 0, n => by simp [rep8, bsum]
  | k + 1, n => by
    have hd := (pop_a (n % 256) (by omega)).2.1
    have ih := bs_2 k (n / 256)
    show (256 * bsum pop1 k (n / 256) + pop1 (n % 256) &&& (256 * rep8 51 k + 51)) + ((256 * bsum pop1 k (n / 256) + pop1 (n % 256)) / 4 &&& (256 * rep8 51 k + 51)) = 256 * bsum pop2 k (n / 256) + pop2 (n % 256)
    generalize bsum pop1 k (n / 256) = Q at ih ⊢
    have e : (256 * Q + pop1 (n % 256)) / 4 = 256 * (Q / 4) + (64 * (Q % 4) + pop1 (n % 256) / 4) := by omega
    rw [e, and_split hd (by omega), and_split (by omega) (by omega), pop_h4 _ (by omega) _ (by omega), ← ih]
    unfold pop2
    omega
theorem bs_m : ∀ (k n : Nat), bsum pop2 k n % 16 ≤ 4
  | 0, n => by simp [bsum]
  | k + 1, n => by
    show (256 * bsum pop2 k (n / 256) + pop2 (n % 256)) % 16 ≤ 4
    have := (pop_a (n % 256) (by omega)).2.2.2.1
    omega
theorem bs_3 : ∀ (k n : Nat), (bsum pop2 k n + bsum pop2 k n / 16) &&& rep8 15 k = bsum pop3 k n
  | 0, n => by simp [rep8, bsum]
  | k + 1, n => by
    have hd := (pop_a (n % 256) (by omega)).2.2
    have ih := bs_3 k (n / 256)
    have hq := bs_m k (n / 256)
    show (256 * bsum pop2 k (n / 256) + pop2 (n % 256) + (256 * bsum pop2 k (n / 256) + pop2 (n % 256)) / 16) &&& (256 * rep8 15 k + 15) = 256 * bsum pop3 k (n / 256) + pop3 (n % 256)
    generalize bsum pop2 k (n / 256) = Q at ih hq ⊢
    have e : 256 * Q + pop2 (n % 256) + (256 * Q + pop2 (n % 256)) / 16 = 256 * (Q + Q / 16) + (16 * (Q % 16) + (pop2 (n % 256) + pop2 (n % 256) / 16)) := by omega
    rw [e, and_split (by omega) (by omega), pop_h16 _ (by omega) _ (by omega), ih]
    rfl
def csum (f : Nat → Nat) : Nat → Nat → Nat
  | 0, _ => 0
  | k + 1, n => f (n % 256) + csum f k (n / 256)
theorem ct_csum : ∀ (k n : Nat), fb_ct (fun i => n.testBit i) (8 * k) = csum pop3 k n
  | 0, n => rfl
  | k + 1, n => by
    rw [show 8 * (k + 1) = 8 + 8 * k by omega, fb_ct_split]
    show _ = pop3 (n % 256) + csum pop3 k (n / 256)
    rw [(pop_a (n % 256) (by omega)).2.2.2.2.2.2, ← ct_csum k (n / 256)]
    congr 1
    · apply fb_ct_cong
      intro i hi
      show n.testBit i = (n % 2 ^ 8).testBit i
      rw [Nat.testBit_mod_two_pow]; simp [hi]
    · apply fb_ct_cong
      intro i hi
      show n.testBit (8 + i) = (n / 2 ^ 8).testBit i
      rw [Nat.testBit_div_two_pow]; congr 1; exact Nat.add_comm _ _
theorem pop_end {n n3 : Nat} (h : n3 = bsum pop3 8 n) : (n3 + n3 / 256 + (n3 + n3 / 256) / 65536 + (n3 + n3 / 256 + (n3 + n3 / 256) / 65536) / 4294967296) % 128 = fb_ct (fun i => n.testBit i) 64 := by
  rw [show (64 : Nat) = 8 * 8 from rfl, ct_csum]
  simp only [bsum, csum] at h ⊢
  have g : ∀ z, pop3 (z % 256) ≤ 8 := fun z => (pop_a (z % 256) (by omega)).2.2.2.2.2.1
  have g0 := g n
  have g1 := g (n / 256)
  have g2 := g (n / 256 / 256)
  have g3 := g (n / 256 / 256 / 256)
  have g4 := g (n / 256 / 256 / 256 / 256)
  have g5 := g (n / 256 / 256 / 256 / 256 / 256)
  have g6 := g (n / 256 / 256 / 256 / 256 / 256 / 256)
  have g7 := g (n / 256 / 256 / 256 / 256 / 256 / 256 / 256)
  generalize pop3 (n % 256) = c0 at h g0 ⊢
  generalize pop3 (n / 256 % 256) = c1 at h g1 ⊢
  generalize pop3 (n / 256 / 256 % 256) = c2 at h g2 ⊢
  generalize pop3 (n / 256 / 256 / 256 % 256) = c3 at h g3 ⊢
  generalize pop3 (n / 256 / 256 / 256 / 256 % 256) = c4 at h g4 ⊢
  generalize pop3 (n / 256 / 256 / 256 / 256 / 256 % 256) = c5 at h g5 ⊢
  generalize pop3 (n / 256 / 256 / 256 / 256 / 256 / 256 % 256) = c6 at h g6 ⊢
  generalize pop3 (n / 256 / 256 / 256 / 256 / 256 / 256 / 256 % 256) = c7 at h g7 ⊢
  obtain ⟨n4, h4⟩ : ∃ z, z = n3 + n3 / 256 := ⟨_, rfl⟩
  have e4 : n4 = (c0 + c1) + 256 * (c1 + c2) + 65536 * (c2 + c3) + 16777216 * (c3 + c4) + 4294967296 * ((c4 + c5) + 256 * (c5 + c6) + 65536 * (c6 + c7) + 16777216 * c7) := by omega
  rw [← h4]
  obtain ⟨n5, h5⟩ : ∃ z, z = n4 + n4 / 65536 := ⟨_, rfl⟩
  have e5 : n5 = (c0 + c1 + c2 + c3) + 256 * (c1 + c2 + c3 + c4) + 65536 * (c2 + c3 + c4 + c5) + 16777216 * (c3 + c4 + c5 + c6) + 4294967296 * ((c4 + c5 + c6 + c7) + 256 * (c5 + c6 + c7) + 65536 * (c6 + c7) + 16777216 * c7) := by omega
  rw [← h5]
  clear h h4 h5 e4
  have e6 : n5 / 4294967296 = (c4 + c5 + c6 + c7) + 256 * (c5 + c6 + c7) + 65536 * (c6 + c7) + 16777216 * c7 := by omega
  rw [e6, e5]
  clear e6 e5
  omega
/-- the bits below the lowest -/
theorem low_pred {n t : Nat} (h1 : n.testBit t = true) (h2 : ∀ i, i < t → n.testBit i = false) (i : Nat) : (n - 1).testBit i = if i < t then true else if i = t then false else n.testBit i := by
  have hmod : n % 2 ^ t = 0 := by
    apply Nat.eq_of_testBit_eq
    intro j
    rw [Nat.zero_testBit, Nat.testBit_mod_two_pow]
    by_cases q : j < t
    · simp [q, h2 j q]
    · simp [q]
  have hdiv : n / 2 ^ t % 2 = 1 := by
    rw [Nat.testBit_eq_decide_div_mod_eq] at h1
    exact of_decide_eq_true h1
  obtain ⟨u, hu⟩ : ∃ u, n = 2 ^ t * (2 * u + 1) := by
    refine ⟨n / 2 ^ t / 2, ?_⟩
    have q1 : n / 2 ^ t = 2 * (n / 2 ^ t / 2) + 1 := by omega
    have q2 := Nat.div_add_mod n (2 ^ t)
    rw [hmod, Nat.add_zero] at q2
    rw [← q1]; exact q2.symm
  have hp : 1 ≤ 2 ^ t := Nat.one_le_two_pow
  have hn1 : n - 1 = 2 ^ t * (2 * u) + (2 ^ t - 1) := by
    rw [hu, Nat.mul_add, Nat.mul_one]; omega
  rw [hn1, Nat.testBit_two_pow_mul_add _ (by omega)]
  by_cases q : i < t
  · rw [if_pos q, if_pos q, Nat.testBit_two_pow_sub_one]; simp [q]
  · rw [if_neg q, if_neg q]
    by_cases q3 : i = t
    · rw [if_pos q3]; subst q3; simp
    · rw [if_neg q3, hu, Nat.testBit_two_pow_mul]
      obtain ⟨d, hd⟩ : ∃ d, i - t = d + 1 := ⟨i - t - 1, by omega⟩
      rw [hd]
      have z1 : (2 * u + 1).testBit (d + 1) = u.testBit d := by rw [Nat.testBit_succ]; congr 1; omega
      have z2 : (2 * u).testBit (d + 1) = u.testBit d := by rw [Nat.testBit_succ]; congr 1; omega
      rw [z1, z2]
      simp; omega
theorem bt_nI {n i : Nat} (hi : i < 32) : bt (nI n) i = n.testBit i := by
  show (BitVec.ofNat 32 n).getLsbD i = n.testBit i
  rw [BitVec.getLsbD_ofNat]; simp [hi]
theorem low_mask {n t : Nat} (hn : 1 ≤ n) (ht : t < 32) (h1 : n.testBit t = true) (h2 : ∀ i, i < t → n.testBit i = false) : (nI n ^^^ (-1)) &&& (nI n - 1) = nI (2 ^ t - 1) := by
  have e1 : nI n - 1 = nI (n - 1) := pk_sub (a := n) (b := 1) hn
  rw [e1]
  apply b_ext
  intro i hi
  rw [b_and, b_xor, bt_nI hi, bt_nI hi, bt_nI hi, b_m1 i hi, low_pred h1 h2 i, Nat.testBit_two_pow_sub_one]
  by_cases q : i < t
  · rw [if_pos q, h2 i q]; simp [q]
  · rw [if_neg q]
    by_cases q3 : i = t
    · rw [if_pos q3]; simp [q]
    · rw [if_neg q3]; simp [q]
theorem nI_mod (n : Nat) : nI n = nI (n % 4294967296) := by
  apply b_ext
  intro i hi
  rw [bt_nI hi, bt_nI hi, show (4294967296 : Nat) = 2 ^ 32 by decide, Nat.testBit_mod_two_pow]
  simp [hi]
def ush (x k : Int32) : Int32 := (x.toUInt32 >>> (k.toUInt32 &&& Int32.toUInt32 31)).toInt32
def bc_1 (x : Int32) : Int32 := x - (ush x 1 &&& 1431655765)
def bc_2 (x : Int32) : Int32 := (x &&& 858993459) + (ush x 2 &&& 858993459)
def bc_3 (x : Int32) : Int32 := (x + ush x 4) &&& 252645135
def bc_4 (x : Int32) : Int32 := x + ush x 8
def bc_5 (x : Int32) : Int32 := x + ush x 16
theorem bc_ok : ∀ n, n < 64 → bc_5 (bc_4 (bc_3 (bc_2 (bc_1 (nI n))))) &&& 63 = nI (fb_ct (fun i => n.testBit i) 6) := by decide +kernel
set_option maxHeartbeats 4000000 in
set_option maxRecDepth 100000 in
theorem c_J13_bitCount_95d88 (l : Launch) (dC : Nat → ClassId) (dI : Nat → Nat → Nat) (cy : Nat → ClassId) (x : Int64)  : Met l yJ13_bitCount_95d88 wsJ13_bitCount_95d88 ({ frames := 0, cells := 0, slots := 0, locals := 0 }) (va_Pc [.long x] (fun _ => True)) (vp_Si (fun r => r = nI (fb_ct (fun i => lb x i) 64))) 0 0 (fun _ => False) := by
  refine Met.ofW (cc := cJ13_bitCount_95d88) (maxL := 2) (ret := (some .int)) (by decide) rfl ?_
  intro pp ee ss mm args below meth cc0 s₁ B hml hv
  obtain ⟨rfl, -⟩ := hv
  have hx := B.exec
  have hb := B.bytes
  have hr := B.returns
  have hts := atoms_spec (ws := wsJ13_bitCount_95d88) B.pre
  have hown : ss.vm.findClass RJ13 = some mm.cls := findClass_of_methodNamed B.named
  have hlocks := B.notSynchronized
  have hL0 := hts (.constantLong RJ13 314 (6148914691236517205)) (by decide +kernel)
  have hL1 := hts (.constantLong RJ13 316 (3689348814741910323)) (by decide +kernel)
  have hL2 := hts (.constantLong RJ13 318 (1085102592571150095)) (by decide +kernel)
  have hl := lv_entry ([.long x]) (n := 2) (Nat.le_of_ble_eq_true rfl)
  rw [lg_entry_eq]
  generalize (lg_sl ([.long x]) ++ List.replicate (2 - (lg_sl ([.long x])).length) Slot.unset).toArray = ls at hl ⊢
  have hl : lv_has ls 2 [(0, .long x)] := hl
  refine bw_Q (fun Q hQ => ?_)
  change W pp l ee { frames := 0, cells := 0, slots := 0, locals := 0 } ss mm _ below meth cc0 ss.heap [] 0 0 Q (F0 mm 0 ls [])
  refine lv_lload_n hx hb dJ13_bitCount_95d88_0 rfl (lv_at hl 0 rfl) ?_
  refine lv_lload_n hx hb dJ13_bitCount_95d88_1 rfl (lv_at hl 0 rfl) ?_
  refine lv_iconst (v := 1) hx hb dJ13_bitCount_95d88_2 (by decide) ?_
  refine lv_lushr hx hb dJ13_bitCount_95d88_3 rfl ?_
  refine lv_topl (fun w1 ew1 => ?_)
  refine lv_ldc2 hx hb hown hL0 dJ13_bitCount_95d88_4 ?_
  refine lv_land hx hb dJ13_bitCount_95d88_7 ?_
  refine lv_topl (fun w2 ew2 => ?_)
  refine lv_lsub hx hb dJ13_bitCount_95d88_8 ?_
  refine lv_topl (fun w3 ew3 => ?_)
  refine lv_lstore_n (lv' := [(0, .long w3)]) hx hb dJ13_bitCount_95d88_9 rfl hl (by decide) rfl (fun ls hl => ?_)
  refine lv_lload_n hx hb dJ13_bitCount_95d88_10 rfl (lv_at hl 0 rfl) ?_
  refine lv_ldc2 hx hb hown hL1 dJ13_bitCount_95d88_11 ?_
  refine lv_land hx hb dJ13_bitCount_95d88_14 ?_
  refine lv_topl (fun w4 ew4 => ?_)
  refine lv_lload_n hx hb dJ13_bitCount_95d88_15 rfl (lv_at hl 0 rfl) ?_
  refine lv_iconst (v := 2) hx hb dJ13_bitCount_95d88_16 (by decide) ?_
  refine lv_lushr hx hb dJ13_bitCount_95d88_17 rfl ?_
  refine lv_topl (fun w5 ew5 => ?_)
  refine lv_ldc2 hx hb hown hL1 dJ13_bitCount_95d88_18 ?_
  refine lv_land hx hb dJ13_bitCount_95d88_21 ?_
  refine lv_topl (fun w6 ew6 => ?_)
  refine lv_ladd hx hb dJ13_bitCount_95d88_22 ?_
  refine lv_topl (fun w7 ew7 => ?_)
  refine lv_lstore_n (lv' := [(0, .long w7)]) hx hb dJ13_bitCount_95d88_23 rfl hl (by decide) rfl (fun ls hl => ?_)
  refine lv_lload_n hx hb dJ13_bitCount_95d88_24 rfl (lv_at hl 0 rfl) ?_
  refine lv_lload_n hx hb dJ13_bitCount_95d88_25 rfl (lv_at hl 0 rfl) ?_
  refine lv_iconst (v := 4) hx hb dJ13_bitCount_95d88_26 (by decide) ?_
  refine lv_lushr hx hb dJ13_bitCount_95d88_27 rfl ?_
  refine lv_topl (fun w8 ew8 => ?_)
  refine lv_ladd hx hb dJ13_bitCount_95d88_28 ?_
  refine lv_topl (fun w9 ew9 => ?_)
  refine lv_ldc2 hx hb hown hL2 dJ13_bitCount_95d88_29 ?_
  refine lv_land hx hb dJ13_bitCount_95d88_32 ?_
  refine lv_topl (fun w10 ew10 => ?_)
  refine lv_lstore_n (lv' := [(0, .long w10)]) hx hb dJ13_bitCount_95d88_33 rfl hl (by decide) rfl (fun ls hl => ?_)
  refine lv_lload_n hx hb dJ13_bitCount_95d88_34 rfl (lv_at hl 0 rfl) ?_
  refine lv_lload_n hx hb dJ13_bitCount_95d88_35 rfl (lv_at hl 0 rfl) ?_
  refine lv_bipush (v := 8) hx hb dJ13_bitCount_95d88_36 (by decide) ?_
  refine lv_lushr hx hb dJ13_bitCount_95d88_38 rfl ?_
  refine lv_topl (fun w11 ew11 => ?_)
  refine lv_ladd hx hb dJ13_bitCount_95d88_39 ?_
  refine lv_topl (fun w12 ew12 => ?_)
  refine lv_lstore_n (lv' := [(0, .long w12)]) hx hb dJ13_bitCount_95d88_40 rfl hl (by decide) rfl (fun ls hl => ?_)
  refine lv_lload_n hx hb dJ13_bitCount_95d88_41 rfl (lv_at hl 0 rfl) ?_
  refine lv_lload_n hx hb dJ13_bitCount_95d88_42 rfl (lv_at hl 0 rfl) ?_
  refine lv_bipush (v := 16) hx hb dJ13_bitCount_95d88_43 (by decide) ?_
  refine lv_lushr hx hb dJ13_bitCount_95d88_45 rfl ?_
  refine lv_topl (fun w13 ew13 => ?_)
  refine lv_ladd hx hb dJ13_bitCount_95d88_46 ?_
  refine lv_topl (fun w14 ew14 => ?_)
  refine lv_lstore_n (lv' := [(0, .long w14)]) hx hb dJ13_bitCount_95d88_47 rfl hl (by decide) rfl (fun ls hl => ?_)
  refine lv_lload_n hx hb dJ13_bitCount_95d88_48 rfl (lv_at hl 0 rfl) ?_
  refine lv_lload_n hx hb dJ13_bitCount_95d88_49 rfl (lv_at hl 0 rfl) ?_
  refine lv_bipush (v := 32) hx hb dJ13_bitCount_95d88_50 (by decide) ?_
  refine lv_lushr hx hb dJ13_bitCount_95d88_52 rfl ?_
  refine lv_topl (fun w15 ew15 => ?_)
  refine lv_ladd hx hb dJ13_bitCount_95d88_53 ?_
  refine lv_topl (fun w16 ew16 => ?_)
  refine lv_lstore_n (lv' := [(0, .long w16)]) hx hb dJ13_bitCount_95d88_54 rfl hl (by decide) rfl (fun ls hl => ?_)
  refine lv_lload_n hx hb dJ13_bitCount_95d88_55 rfl (lv_at hl 0 rfl) ?_
  refine lv_l2i hx hb dJ13_bitCount_95d88_56 rfl ?_
  refine lv_topi (fun z1 ez1 => ?_)
  refine lv_bipush (v := 127) hx hb dJ13_bitCount_95d88_57 (by decide) ?_
  refine lv_iand hx hb dJ13_bitCount_95d88_59 ?_
  refine lv_topi (fun z2 ez2 => ?_)
  subst hQ
  have hpost : z2 = nI (fb_ct (fun i => lb x i) 64) := by
    obtain ⟨n, hn, hxn⟩ := wb_of x
    obtain ⟨n1, hn1⟩ : ∃ z, z = n - (n / 2 &&& 6148914691236517205) := ⟨_, rfl⟩
    obtain ⟨n2, hn2⟩ : ∃ z, z = (n1 &&& 3689348814741910323) + (n1 / 4 &&& 3689348814741910323) := ⟨_, rfl⟩
    obtain ⟨n3, hn3⟩ : ∃ z, z = (n2 + n2 / 16) &&& 1085102592571150095 := ⟨_, rfl⟩
    have l1 : n1 < 2 ^ 64 := by omega
    have l2a : (n1 &&& 3689348814741910323) ≤ 3689348814741910323 := Nat.and_le_right
    have l2b : (n1 / 4 &&& 3689348814741910323) ≤ 3689348814741910323 := Nat.and_le_right
    have l2 : n2 ≤ 7378697629483820646 := by omega
    have l3 : n3 ≤ 1085102592571150095 := by rw [hn3]; exact Nat.and_le_right
    have h256 : n < 256 ^ 8 := hn
    have k1 : n1 = bsum pop1 8 n := by rw [hn1, ← bs_1 h256]; rfl
    have k2 : n2 = bsum pop2 8 n := by rw [hn2, k1, ← bs_2]; rfl
    have k3 : n3 = bsum pop3 8 n := by rw [hn3, k2, ← bs_3]; rfl
    have lm : (n / 2 &&& 6148914691236517205) ≤ n := by
      have := bs_1a 8 n
      have q := bs_le (fun b => b / 2 &&& 85) (fun b => b) (fun b hb => (pop_a b hb).1) 8 n
      rw [bs_id 8 n h256, ← this] at q
      exact q
    have a1 : w1 = lN (n / 2) := by rw [ew1, hxn]; exact wb_shr (k := 1) hn (by decide)
    have a2 : w2 = lN (n / 2 &&& 6148914691236517205) := by rw [ew2, a1]; exact wb_and (by omega) (by decide)
    have a3 : w3 = lN n1 := by rw [ew3, a2, hxn, hn1]; exact lN_sub lm
    have a4 : w4 = lN (n1 &&& 3689348814741910323) := by rw [ew4, a3]; exact wb_and l1 (by decide)
    have a5 : w5 = lN (n1 / 4) := by rw [ew5, a3]; exact wb_shr (k := 2) l1 (by decide)
    have a6 : w6 = lN (n1 / 4 &&& 3689348814741910323) := by rw [ew6, a5]; exact wb_and (by omega) (by decide)
    have a7 : w7 = lN n2 := by rw [ew7, a4, a6, hn2]; exact lN_add _ _
    have a8 : w8 = lN (n2 / 16) := by rw [ew8, a7]; exact wb_shr (k := 4) (by omega) (by decide)
    have a9 : w9 = lN (n2 + n2 / 16) := by rw [ew9, a7, a8]; exact lN_add _ _
    have a10 : w10 = lN n3 := by rw [ew10, a9, hn3]; exact wb_and (by omega) (by decide)
    have a11 : w11 = lN (n3 / 256) := by rw [ew11, a10]; exact wb_shr (k := 8) (by omega) (by decide)
    have a12 : w12 = lN (n3 + n3 / 256) := by rw [ew12, a10, a11]; exact lN_add _ _
    have a13 : w13 = lN ((n3 + n3 / 256) / 65536) := by rw [ew13, a12]; exact wb_shr (k := 16) (by omega) (by decide)
    have a14 : w14 = lN (n3 + n3 / 256 + (n3 + n3 / 256) / 65536) := by rw [ew14, a12, a13]; exact lN_add _ _
    have a15 : w15 = lN ((n3 + n3 / 256 + (n3 + n3 / 256) / 65536) / 4294967296) := by rw [ew15, a14]; exact wb_shr (k := 32) (by omega) (by decide)
    have a16 : w16 = lN (n3 + n3 / 256 + (n3 + n3 / 256) / 65536 + (n3 + n3 / 256 + (n3 + n3 / 256) / 65536) / 4294967296) := by rw [ew16, a14, a15]; exact lN_add _ _
    have b1 : z1 = nI (n3 + n3 / 256 + (n3 + n3 / 256) / 65536 + (n3 + n3 / 256 + (n3 + n3 / 256) / 65536) / 4294967296) := by rw [ez1, a16]; exact lN_i _
    rw [ez2, b1, show (127 : Int32) = nI (2 ^ 7 - 1) from rfl, fa_mask, show (2 ^ 7 : Nat) = 128 from rfl, pop_end k3]
    congr 1
    apply fb_ct_cong
    intro i hi
    rw [hxn, lb_lN hn]
  exact W.iret (v := z2) hx hb hr (fun t9 ht hW => ⟨_, rfl, hpost, by rw [ht]⟩) (fun q h => by cases h) dJ13_bitCount_95d88_60

set_option maxHeartbeats 4000000 in
set_option maxRecDepth 100000 in
theorem c_J6_bitCount_0f7a4 (l : Launch) (dC : Nat → ClassId) (dI : Nat → Nat → Nat) (cy : Nat → ClassId) (n : Nat) (hn : n < 64) : Met l yJ6_bitCount_0f7a4 wsJ6_bitCount_0f7a4 ({ frames := 0, cells := 0, slots := 0, locals := 0 }) (va_Pc [.int (nI n)] (fun _ => True)) (vp_Si (fun r => r = nI (fb_ct (fun i => n.testBit i) 6))) 0 0 (fun _ => False) := by
  refine Met.ofW (cc := cJ6_bitCount_0f7a4) (maxL := 1) (ret := (some .int)) (by decide) rfl ?_
  intro pp ee ss mm args below meth cc0 s₁ B hml hv
  obtain ⟨rfl, -⟩ := hv
  have hx := B.exec
  have hb := B.bytes
  have hr := B.returns
  have hts := atoms_spec (ws := wsJ6_bitCount_0f7a4) B.pre
  have hown : ss.vm.findClass RJ6 = some mm.cls := findClass_of_methodNamed B.named
  have hlocks := B.notSynchronized
  have hL0 := hts (.constant RJ6 265 (1431655765)) (by decide +kernel)
  have hL1 := hts (.constant RJ6 266 (858993459)) (by decide +kernel)
  have hL2 := hts (.constant RJ6 267 (252645135)) (by decide +kernel)
  have hl := lv_entry ([.int (nI n)]) (n := 1) (Nat.le_of_ble_eq_true rfl)
  rw [lg_entry_eq]
  generalize (lg_sl ([.int (nI n)]) ++ List.replicate (1 - (lg_sl ([.int (nI n)])).length) Slot.unset).toArray = ls at hl ⊢
  have hl : lv_has ls 1 [(0, .int (nI n))] := hl
  refine bw_Q (fun Q hQ => ?_)
  change W pp l ee { frames := 0, cells := 0, slots := 0, locals := 0 } ss mm _ below meth cc0 ss.heap [] 0 0 Q (F0 mm 0 ls [])
  refine lv_iload_n hx hb dJ6_bitCount_0f7a4_0 rfl (lv_at hl 0 rfl) ?_
  refine lv_iload_n hx hb dJ6_bitCount_0f7a4_1 rfl (lv_at hl 0 rfl) ?_
  refine lv_iconst (v := 1) hx hb dJ6_bitCount_0f7a4_2 (by decide) ?_
  refine lv_iushr hx hb dJ6_bitCount_0f7a4_3 rfl ?_
  refine lv_topi (fun z_1 ez_1 => ?_)
  refine lv_ldcw hx hb hown hL0 dJ6_bitCount_0f7a4_4 ?_
  refine lv_iand hx hb dJ6_bitCount_0f7a4_7 ?_
  refine lv_topi (fun z_2 ez_2 => ?_)
  refine lv_isub hx hb dJ6_bitCount_0f7a4_8 ?_
  refine lv_topi (fun z_3 ez_3 => ?_)
  refine lv_istore_n (lv' := [(0, .int z_3)]) hx hb dJ6_bitCount_0f7a4_9 rfl hl (by decide) rfl (fun ls hl => ?_)
  refine lv_iload_n hx hb dJ6_bitCount_0f7a4_10 rfl (lv_at hl 0 rfl) ?_
  refine lv_ldcw hx hb hown hL1 dJ6_bitCount_0f7a4_11 ?_
  refine lv_iand hx hb dJ6_bitCount_0f7a4_14 ?_
  refine lv_topi (fun z_4 ez_4 => ?_)
  refine lv_iload_n hx hb dJ6_bitCount_0f7a4_15 rfl (lv_at hl 0 rfl) ?_
  refine lv_iconst (v := 2) hx hb dJ6_bitCount_0f7a4_16 (by decide) ?_
  refine lv_iushr hx hb dJ6_bitCount_0f7a4_17 rfl ?_
  refine lv_topi (fun z_5 ez_5 => ?_)
  refine lv_ldcw hx hb hown hL1 dJ6_bitCount_0f7a4_18 ?_
  refine lv_iand hx hb dJ6_bitCount_0f7a4_21 ?_
  refine lv_topi (fun z_6 ez_6 => ?_)
  refine lv_iadd hx hb dJ6_bitCount_0f7a4_22 ?_
  refine lv_topi (fun z_7 ez_7 => ?_)
  refine lv_istore_n (lv' := [(0, .int z_7)]) hx hb dJ6_bitCount_0f7a4_23 rfl hl (by decide) rfl (fun ls hl => ?_)
  refine lv_iload_n hx hb dJ6_bitCount_0f7a4_24 rfl (lv_at hl 0 rfl) ?_
  refine lv_iload_n hx hb dJ6_bitCount_0f7a4_25 rfl (lv_at hl 0 rfl) ?_
  refine lv_iconst (v := 4) hx hb dJ6_bitCount_0f7a4_26 (by decide) ?_
  refine lv_iushr hx hb dJ6_bitCount_0f7a4_27 rfl ?_
  refine lv_topi (fun z_8 ez_8 => ?_)
  refine lv_iadd hx hb dJ6_bitCount_0f7a4_28 ?_
  refine lv_topi (fun z_9 ez_9 => ?_)
  refine lv_ldcw hx hb hown hL2 dJ6_bitCount_0f7a4_29 ?_
  refine lv_iand hx hb dJ6_bitCount_0f7a4_32 ?_
  refine lv_topi (fun z_10 ez_10 => ?_)
  refine lv_istore_n (lv' := [(0, .int z_10)]) hx hb dJ6_bitCount_0f7a4_33 rfl hl (by decide) rfl (fun ls hl => ?_)
  refine lv_iload_n hx hb dJ6_bitCount_0f7a4_34 rfl (lv_at hl 0 rfl) ?_
  refine lv_iload_n hx hb dJ6_bitCount_0f7a4_35 rfl (lv_at hl 0 rfl) ?_
  refine lv_bipush (v := 8) hx hb dJ6_bitCount_0f7a4_36 (by decide) ?_
  refine lv_iushr hx hb dJ6_bitCount_0f7a4_38 rfl ?_
  refine lv_topi (fun z_11 ez_11 => ?_)
  refine lv_iadd hx hb dJ6_bitCount_0f7a4_39 ?_
  refine lv_topi (fun z_12 ez_12 => ?_)
  refine lv_istore_n (lv' := [(0, .int z_12)]) hx hb dJ6_bitCount_0f7a4_40 rfl hl (by decide) rfl (fun ls hl => ?_)
  refine lv_iload_n hx hb dJ6_bitCount_0f7a4_41 rfl (lv_at hl 0 rfl) ?_
  refine lv_iload_n hx hb dJ6_bitCount_0f7a4_42 rfl (lv_at hl 0 rfl) ?_
  refine lv_bipush (v := 16) hx hb dJ6_bitCount_0f7a4_43 (by decide) ?_
  refine lv_iushr hx hb dJ6_bitCount_0f7a4_45 rfl ?_
  refine lv_topi (fun z_13 ez_13 => ?_)
  refine lv_iadd hx hb dJ6_bitCount_0f7a4_46 ?_
  refine lv_topi (fun z_14 ez_14 => ?_)
  refine lv_istore_n (lv' := [(0, .int z_14)]) hx hb dJ6_bitCount_0f7a4_47 rfl hl (by decide) rfl (fun ls hl => ?_)
  refine lv_iload_n hx hb dJ6_bitCount_0f7a4_48 rfl (lv_at hl 0 rfl) ?_
  refine lv_bipush (v := 63) hx hb dJ6_bitCount_0f7a4_49 (by decide) ?_
  refine lv_iand hx hb dJ6_bitCount_0f7a4_51 ?_
  refine lv_topi (fun z_15 ez_15 => ?_)
  subst hQ
  have hpost : z_15 = nI (fb_ct (fun i => n.testBit i) 6) := by
    subst_vars
    exact bc_ok n hn
  exact W.iret (v := z_15) hx hb hr (fun t9 ht hW => ⟨_, rfl, hpost, by rw [ht]⟩) (fun q h => by cases h) dJ6_bitCount_0f7a4_52

set_option maxHeartbeats 4000000 in
set_option maxRecDepth 100000 in
theorem c_J6_numberOfTrailingZeros_0f7a4 (l : Launch) (dC : Nat → ClassId) (dI : Nat → Nat → Nat) (cy : Nat → ClassId) (n : Nat) (t : Nat) (hn : 1 ≤ n) (ht : t < 32) (h1 : n.testBit t = true) (h2 : ∀ i, i < t → n.testBit i = false) : Met l yJ6_numberOfTrailingZeros_0f7a4 wsJ6_numberOfTrailingZeros_0f7a4 ({ frames := 0, cells := 0, slots := 0, locals := 0 }) (va_Pc [.int (nI n)] (fun _ => True)) (vp_Si (fun r => r = nI t)) 0 0 (fun _ => False) := by
  refine Met.ofW (cc := cJ6_numberOfTrailingZeros_0f7a4) (maxL := 2) (ret := (some .int)) (by decide) rfl ?_
  intro pp ee ss mm args below meth cc0 s₁ B hml hv
  obtain ⟨rfl, -⟩ := hv
  have hx := B.exec
  have hb := B.bytes
  have hr := B.returns
  have hts := atoms_spec (ws := wsJ6_numberOfTrailingZeros_0f7a4) B.pre
  have hown : ss.vm.findClass RJ6 = some mm.cls := findClass_of_methodNamed B.named
  have hlocks := B.notSynchronized
  have hL0 := hts (.constant RJ6 264 (65536)) (by decide +kernel)
  have hl := lv_entry ([.int (nI n)]) (n := 2) (Nat.le_of_ble_eq_true rfl)
  rw [lg_entry_eq]
  generalize (lg_sl ([.int (nI n)]) ++ List.replicate (2 - (lg_sl ([.int (nI n)])).length) Slot.unset).toArray = ls at hl ⊢
  have hl : lv_has ls 2 [(0, .int (nI n))] := hl
  refine bw_Q (fun Q hQ => ?_)
  change W pp l ee { frames := 0, cells := 0, slots := 0, locals := 0 } ss mm _ below meth cc0 ss.heap [] 0 0 Q (F0 mm 0 ls [])
  obtain ⟨P, hP2⟩ : ∃ P, P = 2 ^ t := ⟨_, rfl⟩
  have hP3 : P ≤ 2147483648 := by rw [hP2]; exact Nat.pow_le_pow_right (n := 2) (by decide) (show t ≤ 31 by omega)
  have hP4 : 1 ≤ P := by rw [hP2]; exact Nat.one_le_two_pow
  refine lv_iload_n hx hb dJ6_numberOfTrailingZeros_0f7a4_0 rfl (lv_at hl 0 rfl) ?_
  refine lv_iconst (v := (-1)) hx hb dJ6_numberOfTrailingZeros_0f7a4_1 (by decide) ?_
  refine lv_ixor hx hb dJ6_numberOfTrailingZeros_0f7a4_2 ?_
  refine lv_topi (fun za eza => ?_)
  refine lv_iload_n hx hb dJ6_numberOfTrailingZeros_0f7a4_3 rfl (lv_at hl 0 rfl) ?_
  refine lv_iconst (v := 1) hx hb dJ6_numberOfTrailingZeros_0f7a4_4 (by decide) ?_
  refine lv_isub hx hb dJ6_numberOfTrailingZeros_0f7a4_5 ?_
  refine lv_topi (fun zb ezb => ?_)
  refine lv_iand hx hb dJ6_numberOfTrailingZeros_0f7a4_6 ?_
  refine bw_re (show za &&& zb = nI (P - 1) from (by rw [eza, ezb, low_mask hn ht h1 h2, hP2])) ?_
  refine lv_istore_n (lv' := [(0, .int (nI (P - 1)))]) hx hb dJ6_numberOfTrailingZeros_0f7a4_7 rfl hl (by decide) rfl (fun ls hl => ?_)
  refine lv_iload_n hx hb dJ6_numberOfTrailingZeros_0f7a4_8 rfl (lv_at hl 0 rfl) ?_
  refine bw_if_gt (tgt := 17) (a := ((P - 1 : Nat) : Int)) hx hb dJ6_numberOfTrailingZeros_0f7a4_9 (by decide) (nI_toInt (by omega)) (fun c0 => ?_) (fun c0 => ?_)
  · skip
    refine lv_iconst (v := 1) hx hb dJ6_numberOfTrailingZeros_0f7a4_17 (by decide) ?_
    refine lv_istore_n (lv' := [(1, .int 1), (0, .int (nI (P - 1)))]) hx hb dJ6_numberOfTrailingZeros_0f7a4_18 rfl hl (by decide) rfl (fun ls hl => ?_)
    refine lv_iload_n hx hb dJ6_numberOfTrailingZeros_0f7a4_19 rfl (lv_at hl 1 rfl) ?_
    refine lv_ldcw hx hb hown hL0 dJ6_numberOfTrailingZeros_0f7a4_20 ?_
    refine bw_icmp_le (tgt := 34) (a := ((P - 1 : Nat) : Int)) (b := 65536) hx hb dJ6_numberOfTrailingZeros_0f7a4_23 (by decide) (nI_toInt (by omega)) rfl (fun c16 => ?_) (fun c16 => ?_)
    · skip
      refine lv_iload_n hx hb dJ6_numberOfTrailingZeros_0f7a4_34 rfl (lv_at hl 1 rfl) ?_
      refine lv_sipush (v := 256) hx hb dJ6_numberOfTrailingZeros_0f7a4_35 (by decide) ?_
      refine bw_icmp_le (tgt := 49) (a := ((P - 1 : Nat) : Int)) (b := 256) hx hb dJ6_numberOfTrailingZeros_0f7a4_38 (by decide) (nI_toInt (by omega)) rfl (fun c8 => ?_) (fun c8 => ?_)
      · skip
        refine lv_iload_n hx hb dJ6_numberOfTrailingZeros_0f7a4_49 rfl (lv_at hl 1 rfl) ?_
        refine lv_bipush (v := 16) hx hb dJ6_numberOfTrailingZeros_0f7a4_50 (by decide) ?_
        refine bw_icmp_le (tgt := 62) (a := ((P - 1 : Nat) : Int)) (b := 16) hx hb dJ6_numberOfTrailingZeros_0f7a4_52 (by decide) (nI_toInt (by omega)) rfl (fun c4 => ?_) (fun c4 => ?_)
        · skip
          refine lv_iload_n hx hb dJ6_numberOfTrailingZeros_0f7a4_62 rfl (lv_at hl 1 rfl) ?_
          refine lv_iconst (v := 4) hx hb dJ6_numberOfTrailingZeros_0f7a4_63 (by decide) ?_
          refine bw_icmp_le (tgt := 74) (a := ((P - 1 : Nat) : Int)) (b := 4) hx hb dJ6_numberOfTrailingZeros_0f7a4_64 (by decide) (nI_toInt (by omega)) rfl (fun c2 => ?_) (fun c2 => ?_)
          · skip
            refine lv_iload_n hx hb dJ6_numberOfTrailingZeros_0f7a4_74 rfl (lv_at hl 0 rfl) ?_
            refine lv_iload_n hx hb dJ6_numberOfTrailingZeros_0f7a4_75 rfl (lv_at hl 1 rfl) ?_
            refine lv_iconst (v := 1) hx hb dJ6_numberOfTrailingZeros_0f7a4_76 (by decide) ?_
            refine lv_iushr hx hb dJ6_numberOfTrailingZeros_0f7a4_77 rfl ?_
            refine lv_topi (fun z_1 ez_1 => ?_)
            refine lv_iadd hx hb dJ6_numberOfTrailingZeros_0f7a4_78 ?_
            refine lv_topi (fun z_2 ez_2 => ?_)
            subst hQ
            have hpost : z_2 = nI t := by
              have q0 : t ≠ 0 := fun q => by rw [hP2, q] at c0; exact absurd c0 (by decide)
              have q1 : t = 1 ∨ t = 2 ∨ t = 3 ∨ t = 4 ∨ t = 5 ∨ t = 6 ∨ t = 7 ∨ t = 8 ∨ t = 9 ∨ t = 10 ∨ t = 11 ∨ t = 12 ∨ t = 13 ∨ t = 14 ∨ t = 15 ∨ t = 16 ∨ t = 17 ∨ t = 18 ∨ t = 19 ∨ t = 20 ∨ t = 21 ∨ t = 22 ∨ t = 23 ∨ t = 24 ∨ t = 25 ∨ t = 26 ∨ t = 27 ∨ t = 28 ∨ t = 29 ∨ t = 30 ∨ t = 31 := by omega
              clear h1 h2 hn hl hts
              rcases q1 with rfl | rfl | rfl | rfl | rfl | rfl | rfl | rfl | rfl | rfl | rfl | rfl | rfl | rfl | rfl | rfl | rfl | rfl | rfl | rfl | rfl | rfl | rfl | rfl | rfl | rfl | rfl | rfl | rfl | rfl | rfl <;> (subst_vars; first | exact absurd c16 (by decide) | exact absurd c8 (by decide) | exact absurd c4 (by decide) | exact absurd c2 (by decide) | decide)
            exact W.iret (v := z_2) hx hb hr (fun t9 ht hW => ⟨_, rfl, hpost, by rw [ht]⟩) (fun q h => by cases h) dJ6_numberOfTrailingZeros_0f7a4_79
          · skip
            refine lv_iinc (v := 3) (lv' := [(1, .int 3), (0, .int (nI (P - 1)))]) hx hb dJ6_numberOfTrailingZeros_0f7a4_67 hl (k := 0) rfl (by decide) (by decide) rfl (fun ls hl => ?_)
            refine lv_iload_n hx hb dJ6_numberOfTrailingZeros_0f7a4_70 rfl (lv_at hl 1 rfl) ?_
            refine lv_iconst (v := 2) hx hb dJ6_numberOfTrailingZeros_0f7a4_71 (by decide) ?_
            refine lv_iushr hx hb dJ6_numberOfTrailingZeros_0f7a4_72 rfl ?_
            refine lv_topi (fun z_3 ez_3 => ?_)
            refine lv_istore_n (lv' := [(0, .int z_3), (1, .int 3)]) hx hb dJ6_numberOfTrailingZeros_0f7a4_73 rfl hl (by decide) rfl (fun ls hl => ?_)
            refine lv_iload_n hx hb dJ6_numberOfTrailingZeros_0f7a4_74 rfl (lv_at hl 1 rfl) ?_
            refine lv_iload_n hx hb dJ6_numberOfTrailingZeros_0f7a4_75 rfl (lv_at hl 0 rfl) ?_
            refine lv_iconst (v := 1) hx hb dJ6_numberOfTrailingZeros_0f7a4_76 (by decide) ?_
            refine lv_iushr hx hb dJ6_numberOfTrailingZeros_0f7a4_77 rfl ?_
            refine lv_topi (fun z_4 ez_4 => ?_)
            refine lv_iadd hx hb dJ6_numberOfTrailingZeros_0f7a4_78 ?_
            refine lv_topi (fun z_5 ez_5 => ?_)
            subst hQ
            have hpost : z_5 = nI t := by
              have q0 : t ≠ 0 := fun q => by rw [hP2, q] at c0; exact absurd c0 (by decide)
              have q1 : t = 1 ∨ t = 2 ∨ t = 3 ∨ t = 4 ∨ t = 5 ∨ t = 6 ∨ t = 7 ∨ t = 8 ∨ t = 9 ∨ t = 10 ∨ t = 11 ∨ t = 12 ∨ t = 13 ∨ t = 14 ∨ t = 15 ∨ t = 16 ∨ t = 17 ∨ t = 18 ∨ t = 19 ∨ t = 20 ∨ t = 21 ∨ t = 22 ∨ t = 23 ∨ t = 24 ∨ t = 25 ∨ t = 26 ∨ t = 27 ∨ t = 28 ∨ t = 29 ∨ t = 30 ∨ t = 31 := by omega
              clear h1 h2 hn hl hts
              rcases q1 with rfl | rfl | rfl | rfl | rfl | rfl | rfl | rfl | rfl | rfl | rfl | rfl | rfl | rfl | rfl | rfl | rfl | rfl | rfl | rfl | rfl | rfl | rfl | rfl | rfl | rfl | rfl | rfl | rfl | rfl | rfl <;> (subst_vars; first | exact absurd c16 (by decide) | exact absurd c8 (by decide) | exact absurd c4 (by decide) | exact absurd c2 (by decide) | decide)
            exact W.iret (v := z_5) hx hb hr (fun t9 ht hW => ⟨_, rfl, hpost, by rw [ht]⟩) (fun q h => by cases h) dJ6_numberOfTrailingZeros_0f7a4_79
        · skip
          refine lv_iinc (v := 5) (lv' := [(1, .int 5), (0, .int (nI (P - 1)))]) hx hb dJ6_numberOfTrailingZeros_0f7a4_55 hl (k := 0) rfl (by decide) (by decide) rfl (fun ls hl => ?_)
          refine lv_iload_n hx hb dJ6_numberOfTrailingZeros_0f7a4_58 rfl (lv_at hl 1 rfl) ?_
          refine lv_iconst (v := 4) hx hb dJ6_numberOfTrailingZeros_0f7a4_59 (by decide) ?_
          refine lv_iushr hx hb dJ6_numberOfTrailingZeros_0f7a4_60 rfl ?_
          refine lv_topi (fun z_6 ez_6 => ?_)
          refine lv_istore_n (lv' := [(0, .int z_6), (1, .int 5)]) hx hb dJ6_numberOfTrailingZeros_0f7a4_61 rfl hl (by decide) rfl (fun ls hl => ?_)
          refine lv_iload_n hx hb dJ6_numberOfTrailingZeros_0f7a4_62 rfl (lv_at hl 0 rfl) ?_
          refine lv_iconst (v := 4) hx hb dJ6_numberOfTrailingZeros_0f7a4_63 (by decide) ?_
          refine bw_icmp_le (tgt := 74) (a := z_6.toInt) (b := 4) hx hb dJ6_numberOfTrailingZeros_0f7a4_64 (by decide) rfl rfl (fun c2 => ?_) (fun c2 => ?_)
          · skip
            refine lv_iload_n hx hb dJ6_numberOfTrailingZeros_0f7a4_74 rfl (lv_at hl 1 rfl) ?_
            refine lv_iload_n hx hb dJ6_numberOfTrailingZeros_0f7a4_75 rfl (lv_at hl 0 rfl) ?_
            refine lv_iconst (v := 1) hx hb dJ6_numberOfTrailingZeros_0f7a4_76 (by decide) ?_
            refine lv_iushr hx hb dJ6_numberOfTrailingZeros_0f7a4_77 rfl ?_
            refine lv_topi (fun z_7 ez_7 => ?_)
            refine lv_iadd hx hb dJ6_numberOfTrailingZeros_0f7a4_78 ?_
            refine lv_topi (fun z_8 ez_8 => ?_)
            subst hQ
            have hpost : z_8 = nI t := by
              have q0 : t ≠ 0 := fun q => by rw [hP2, q] at c0; exact absurd c0 (by decide)
              have q1 : t = 1 ∨ t = 2 ∨ t = 3 ∨ t = 4 ∨ t = 5 ∨ t = 6 ∨ t = 7 ∨ t = 8 ∨ t = 9 ∨ t = 10 ∨ t = 11 ∨ t = 12 ∨ t = 13 ∨ t = 14 ∨ t = 15 ∨ t = 16 ∨ t = 17 ∨ t = 18 ∨ t = 19 ∨ t = 20 ∨ t = 21 ∨ t = 22 ∨ t = 23 ∨ t = 24 ∨ t = 25 ∨ t = 26 ∨ t = 27 ∨ t = 28 ∨ t = 29 ∨ t = 30 ∨ t = 31 := by omega
              clear h1 h2 hn hl hts
              rcases q1 with rfl | rfl | rfl | rfl | rfl | rfl | rfl | rfl | rfl | rfl | rfl | rfl | rfl | rfl | rfl | rfl | rfl | rfl | rfl | rfl | rfl | rfl | rfl | rfl | rfl | rfl | rfl | rfl | rfl | rfl | rfl <;> (subst_vars; first | exact absurd c16 (by decide) | exact absurd c8 (by decide) | exact absurd c4 (by decide) | exact absurd c2 (by decide) | decide)
            exact W.iret (v := z_8) hx hb hr (fun t9 ht hW => ⟨_, rfl, hpost, by rw [ht]⟩) (fun q h => by cases h) dJ6_numberOfTrailingZeros_0f7a4_79
          · skip
            refine lv_iinc (v := 7) (lv' := [(1, .int 7), (0, .int z_6)]) hx hb dJ6_numberOfTrailingZeros_0f7a4_67 hl (k := 1) rfl (by decide) (by decide) rfl (fun ls hl => ?_)
            refine lv_iload_n hx hb dJ6_numberOfTrailingZeros_0f7a4_70 rfl (lv_at hl 1 rfl) ?_
            refine lv_iconst (v := 2) hx hb dJ6_numberOfTrailingZeros_0f7a4_71 (by decide) ?_
            refine lv_iushr hx hb dJ6_numberOfTrailingZeros_0f7a4_72 rfl ?_
            refine lv_topi (fun z_9 ez_9 => ?_)
            refine lv_istore_n (lv' := [(0, .int z_9), (1, .int 7)]) hx hb dJ6_numberOfTrailingZeros_0f7a4_73 rfl hl (by decide) rfl (fun ls hl => ?_)
            refine lv_iload_n hx hb dJ6_numberOfTrailingZeros_0f7a4_74 rfl (lv_at hl 1 rfl) ?_
            refine lv_iload_n hx hb dJ6_numberOfTrailingZeros_0f7a4_75 rfl (lv_at hl 0 rfl) ?_
            refine lv_iconst (v := 1) hx hb dJ6_numberOfTrailingZeros_0f7a4_76 (by decide) ?_
            refine lv_iushr hx hb dJ6_numberOfTrailingZeros_0f7a4_77 rfl ?_
            refine lv_topi (fun z_10 ez_10 => ?_)
            refine lv_iadd hx hb dJ6_numberOfTrailingZeros_0f7a4_78 ?_
            refine lv_topi (fun z_11 ez_11 => ?_)
            subst hQ
            have hpost : z_11 = nI t := by
              have q0 : t ≠ 0 := fun q => by rw [hP2, q] at c0; exact absurd c0 (by decide)
              have q1 : t = 1 ∨ t = 2 ∨ t = 3 ∨ t = 4 ∨ t = 5 ∨ t = 6 ∨ t = 7 ∨ t = 8 ∨ t = 9 ∨ t = 10 ∨ t = 11 ∨ t = 12 ∨ t = 13 ∨ t = 14 ∨ t = 15 ∨ t = 16 ∨ t = 17 ∨ t = 18 ∨ t = 19 ∨ t = 20 ∨ t = 21 ∨ t = 22 ∨ t = 23 ∨ t = 24 ∨ t = 25 ∨ t = 26 ∨ t = 27 ∨ t = 28 ∨ t = 29 ∨ t = 30 ∨ t = 31 := by omega
              clear h1 h2 hn hl hts
              rcases q1 with rfl | rfl | rfl | rfl | rfl | rfl | rfl | rfl | rfl | rfl | rfl | rfl | rfl | rfl | rfl | rfl | rfl | rfl | rfl | rfl | rfl | rfl | rfl | rfl | rfl | rfl | rfl | rfl | rfl | rfl | rfl <;> (subst_vars; first | exact absurd c16 (by decide) | exact absurd c8 (by decide) | exact absurd c4 (by decide) | exact absurd c2 (by decide) | decide)
            exact W.iret (v := z_11) hx hb hr (fun t9 ht hW => ⟨_, rfl, hpost, by rw [ht]⟩) (fun q h => by cases h) dJ6_numberOfTrailingZeros_0f7a4_79
      · skip
        refine lv_iinc (v := 9) (lv' := [(1, .int 9), (0, .int (nI (P - 1)))]) hx hb dJ6_numberOfTrailingZeros_0f7a4_41 hl (k := 0) rfl (by decide) (by decide) rfl (fun ls hl => ?_)
        refine lv_iload_n hx hb dJ6_numberOfTrailingZeros_0f7a4_44 rfl (lv_at hl 1 rfl) ?_
        refine lv_bipush (v := 8) hx hb dJ6_numberOfTrailingZeros_0f7a4_45 (by decide) ?_
        refine lv_iushr hx hb dJ6_numberOfTrailingZeros_0f7a4_47 rfl ?_
        refine lv_topi (fun z_12 ez_12 => ?_)
        refine lv_istore_n (lv' := [(0, .int z_12), (1, .int 9)]) hx hb dJ6_numberOfTrailingZeros_0f7a4_48 rfl hl (by decide) rfl (fun ls hl => ?_)
        refine lv_iload_n hx hb dJ6_numberOfTrailingZeros_0f7a4_49 rfl (lv_at hl 0 rfl) ?_
        refine lv_bipush (v := 16) hx hb dJ6_numberOfTrailingZeros_0f7a4_50 (by decide) ?_
        refine bw_icmp_le (tgt := 62) (a := z_12.toInt) (b := 16) hx hb dJ6_numberOfTrailingZeros_0f7a4_52 (by decide) rfl rfl (fun c4 => ?_) (fun c4 => ?_)
        · skip
          refine lv_iload_n hx hb dJ6_numberOfTrailingZeros_0f7a4_62 rfl (lv_at hl 0 rfl) ?_
          refine lv_iconst (v := 4) hx hb dJ6_numberOfTrailingZeros_0f7a4_63 (by decide) ?_
          refine bw_icmp_le (tgt := 74) (a := z_12.toInt) (b := 4) hx hb dJ6_numberOfTrailingZeros_0f7a4_64 (by decide) rfl rfl (fun c2 => ?_) (fun c2 => ?_)
          · skip
            refine lv_iload_n hx hb dJ6_numberOfTrailingZeros_0f7a4_74 rfl (lv_at hl 1 rfl) ?_
            refine lv_iload_n hx hb dJ6_numberOfTrailingZeros_0f7a4_75 rfl (lv_at hl 0 rfl) ?_
            refine lv_iconst (v := 1) hx hb dJ6_numberOfTrailingZeros_0f7a4_76 (by decide) ?_
            refine lv_iushr hx hb dJ6_numberOfTrailingZeros_0f7a4_77 rfl ?_
            refine lv_topi (fun z_13 ez_13 => ?_)
            refine lv_iadd hx hb dJ6_numberOfTrailingZeros_0f7a4_78 ?_
            refine lv_topi (fun z_14 ez_14 => ?_)
            subst hQ
            have hpost : z_14 = nI t := by
              have q0 : t ≠ 0 := fun q => by rw [hP2, q] at c0; exact absurd c0 (by decide)
              have q1 : t = 1 ∨ t = 2 ∨ t = 3 ∨ t = 4 ∨ t = 5 ∨ t = 6 ∨ t = 7 ∨ t = 8 ∨ t = 9 ∨ t = 10 ∨ t = 11 ∨ t = 12 ∨ t = 13 ∨ t = 14 ∨ t = 15 ∨ t = 16 ∨ t = 17 ∨ t = 18 ∨ t = 19 ∨ t = 20 ∨ t = 21 ∨ t = 22 ∨ t = 23 ∨ t = 24 ∨ t = 25 ∨ t = 26 ∨ t = 27 ∨ t = 28 ∨ t = 29 ∨ t = 30 ∨ t = 31 := by omega
              clear h1 h2 hn hl hts
              rcases q1 with rfl | rfl | rfl | rfl | rfl | rfl | rfl | rfl | rfl | rfl | rfl | rfl | rfl | rfl | rfl | rfl | rfl | rfl | rfl | rfl | rfl | rfl | rfl | rfl | rfl | rfl | rfl | rfl | rfl | rfl | rfl <;> (subst_vars; first | exact absurd c16 (by decide) | exact absurd c8 (by decide) | exact absurd c4 (by decide) | exact absurd c2 (by decide) | decide)
            exact W.iret (v := z_14) hx hb hr (fun t9 ht hW => ⟨_, rfl, hpost, by rw [ht]⟩) (fun q h => by cases h) dJ6_numberOfTrailingZeros_0f7a4_79
          · skip
            refine lv_iinc (v := 11) (lv' := [(1, .int 11), (0, .int z_12)]) hx hb dJ6_numberOfTrailingZeros_0f7a4_67 hl (k := 1) rfl (by decide) (by decide) rfl (fun ls hl => ?_)
            refine lv_iload_n hx hb dJ6_numberOfTrailingZeros_0f7a4_70 rfl (lv_at hl 1 rfl) ?_
            refine lv_iconst (v := 2) hx hb dJ6_numberOfTrailingZeros_0f7a4_71 (by decide) ?_
            refine lv_iushr hx hb dJ6_numberOfTrailingZeros_0f7a4_72 rfl ?_
            refine lv_topi (fun z_15 ez_15 => ?_)
            refine lv_istore_n (lv' := [(0, .int z_15), (1, .int 11)]) hx hb dJ6_numberOfTrailingZeros_0f7a4_73 rfl hl (by decide) rfl (fun ls hl => ?_)
            refine lv_iload_n hx hb dJ6_numberOfTrailingZeros_0f7a4_74 rfl (lv_at hl 1 rfl) ?_
            refine lv_iload_n hx hb dJ6_numberOfTrailingZeros_0f7a4_75 rfl (lv_at hl 0 rfl) ?_
            refine lv_iconst (v := 1) hx hb dJ6_numberOfTrailingZeros_0f7a4_76 (by decide) ?_
            refine lv_iushr hx hb dJ6_numberOfTrailingZeros_0f7a4_77 rfl ?_
            refine lv_topi (fun z_16 ez_16 => ?_)
            refine lv_iadd hx hb dJ6_numberOfTrailingZeros_0f7a4_78 ?_
            refine lv_topi (fun z_17 ez_17 => ?_)
            subst hQ
            have hpost : z_17 = nI t := by
              have q0 : t ≠ 0 := fun q => by rw [hP2, q] at c0; exact absurd c0 (by decide)
              have q1 : t = 1 ∨ t = 2 ∨ t = 3 ∨ t = 4 ∨ t = 5 ∨ t = 6 ∨ t = 7 ∨ t = 8 ∨ t = 9 ∨ t = 10 ∨ t = 11 ∨ t = 12 ∨ t = 13 ∨ t = 14 ∨ t = 15 ∨ t = 16 ∨ t = 17 ∨ t = 18 ∨ t = 19 ∨ t = 20 ∨ t = 21 ∨ t = 22 ∨ t = 23 ∨ t = 24 ∨ t = 25 ∨ t = 26 ∨ t = 27 ∨ t = 28 ∨ t = 29 ∨ t = 30 ∨ t = 31 := by omega
              clear h1 h2 hn hl hts
              rcases q1 with rfl | rfl | rfl | rfl | rfl | rfl | rfl | rfl | rfl | rfl | rfl | rfl | rfl | rfl | rfl | rfl | rfl | rfl | rfl | rfl | rfl | rfl | rfl | rfl | rfl | rfl | rfl | rfl | rfl | rfl | rfl <;> (subst_vars; first | exact absurd c16 (by decide) | exact absurd c8 (by decide) | exact absurd c4 (by decide) | exact absurd c2 (by decide) | decide)
            exact W.iret (v := z_17) hx hb hr (fun t9 ht hW => ⟨_, rfl, hpost, by rw [ht]⟩) (fun q h => by cases h) dJ6_numberOfTrailingZeros_0f7a4_79
        · skip
          refine lv_iinc (v := 13) (lv' := [(1, .int 13), (0, .int z_12)]) hx hb dJ6_numberOfTrailingZeros_0f7a4_55 hl (k := 1) rfl (by decide) (by decide) rfl (fun ls hl => ?_)
          refine lv_iload_n hx hb dJ6_numberOfTrailingZeros_0f7a4_58 rfl (lv_at hl 1 rfl) ?_
          refine lv_iconst (v := 4) hx hb dJ6_numberOfTrailingZeros_0f7a4_59 (by decide) ?_
          refine lv_iushr hx hb dJ6_numberOfTrailingZeros_0f7a4_60 rfl ?_
          refine lv_topi (fun z_18 ez_18 => ?_)
          refine lv_istore_n (lv' := [(0, .int z_18), (1, .int 13)]) hx hb dJ6_numberOfTrailingZeros_0f7a4_61 rfl hl (by decide) rfl (fun ls hl => ?_)
          refine lv_iload_n hx hb dJ6_numberOfTrailingZeros_0f7a4_62 rfl (lv_at hl 0 rfl) ?_
          refine lv_iconst (v := 4) hx hb dJ6_numberOfTrailingZeros_0f7a4_63 (by decide) ?_
          refine bw_icmp_le (tgt := 74) (a := z_18.toInt) (b := 4) hx hb dJ6_numberOfTrailingZeros_0f7a4_64 (by decide) rfl rfl (fun c2 => ?_) (fun c2 => ?_)
          · skip
            refine lv_iload_n hx hb dJ6_numberOfTrailingZeros_0f7a4_74 rfl (lv_at hl 1 rfl) ?_
            refine lv_iload_n hx hb dJ6_numberOfTrailingZeros_0f7a4_75 rfl (lv_at hl 0 rfl) ?_
            refine lv_iconst (v := 1) hx hb dJ6_numberOfTrailingZeros_0f7a4_76 (by decide) ?_
            refine lv_iushr hx hb dJ6_numberOfTrailingZeros_0f7a4_77 rfl ?_
            refine lv_topi (fun z_19 ez_19 => ?_)
            refine lv_iadd hx hb dJ6_numberOfTrailingZeros_0f7a4_78 ?_
            refine lv_topi (fun z_20 ez_20 => ?_)
            subst hQ
            have hpost : z_20 = nI t := by
              have q0 : t ≠ 0 := fun q => by rw [hP2, q] at c0; exact absurd c0 (by decide)
              have q1 : t = 1 ∨ t = 2 ∨ t = 3 ∨ t = 4 ∨ t = 5 ∨ t = 6 ∨ t = 7 ∨ t = 8 ∨ t = 9 ∨ t = 10 ∨ t = 11 ∨ t = 12 ∨ t = 13 ∨ t = 14 ∨ t = 15 ∨ t = 16 ∨ t = 17 ∨ t = 18 ∨ t = 19 ∨ t = 20 ∨ t = 21 ∨ t = 22 ∨ t = 23 ∨ t = 24 ∨ t = 25 ∨ t = 26 ∨ t = 27 ∨ t = 28 ∨ t = 29 ∨ t = 30 ∨ t = 31 := by omega
              clear h1 h2 hn hl hts
              rcases q1 with rfl | rfl | rfl | rfl | rfl | rfl | rfl | rfl | rfl | rfl | rfl | rfl | rfl | rfl | rfl | rfl | rfl | rfl | rfl | rfl | rfl | rfl | rfl | rfl | rfl | rfl | rfl | rfl | rfl | rfl | rfl <;> (subst_vars; first | exact absurd c16 (by decide) | exact absurd c8 (by decide) | exact absurd c4 (by decide) | exact absurd c2 (by decide) | decide)
            exact W.iret (v := z_20) hx hb hr (fun t9 ht hW => ⟨_, rfl, hpost, by rw [ht]⟩) (fun q h => by cases h) dJ6_numberOfTrailingZeros_0f7a4_79
          · skip
            refine lv_iinc (v := 15) (lv' := [(1, .int 15), (0, .int z_18)]) hx hb dJ6_numberOfTrailingZeros_0f7a4_67 hl (k := 1) rfl (by decide) (by decide) rfl (fun ls hl => ?_)
            refine lv_iload_n hx hb dJ6_numberOfTrailingZeros_0f7a4_70 rfl (lv_at hl 1 rfl) ?_
            refine lv_iconst (v := 2) hx hb dJ6_numberOfTrailingZeros_0f7a4_71 (by decide) ?_
            refine lv_iushr hx hb dJ6_numberOfTrailingZeros_0f7a4_72 rfl ?_
            refine lv_topi (fun z_21 ez_21 => ?_)
            refine lv_istore_n (lv' := [(0, .int z_21), (1, .int 15)]) hx hb dJ6_numberOfTrailingZeros_0f7a4_73 rfl hl (by decide) rfl (fun ls hl => ?_)
            refine lv_iload_n hx hb dJ6_numberOfTrailingZeros_0f7a4_74 rfl (lv_at hl 1 rfl) ?_
            refine lv_iload_n hx hb dJ6_numberOfTrailingZeros_0f7a4_75 rfl (lv_at hl 0 rfl) ?_
            refine lv_iconst (v := 1) hx hb dJ6_numberOfTrailingZeros_0f7a4_76 (by decide) ?_
            refine lv_iushr hx hb dJ6_numberOfTrailingZeros_0f7a4_77 rfl ?_
            refine lv_topi (fun z_22 ez_22 => ?_)
            refine lv_iadd hx hb dJ6_numberOfTrailingZeros_0f7a4_78 ?_
            refine lv_topi (fun z_23 ez_23 => ?_)
            subst hQ
            have hpost : z_23 = nI t := by
              have q0 : t ≠ 0 := fun q => by rw [hP2, q] at c0; exact absurd c0 (by decide)
              have q1 : t = 1 ∨ t = 2 ∨ t = 3 ∨ t = 4 ∨ t = 5 ∨ t = 6 ∨ t = 7 ∨ t = 8 ∨ t = 9 ∨ t = 10 ∨ t = 11 ∨ t = 12 ∨ t = 13 ∨ t = 14 ∨ t = 15 ∨ t = 16 ∨ t = 17 ∨ t = 18 ∨ t = 19 ∨ t = 20 ∨ t = 21 ∨ t = 22 ∨ t = 23 ∨ t = 24 ∨ t = 25 ∨ t = 26 ∨ t = 27 ∨ t = 28 ∨ t = 29 ∨ t = 30 ∨ t = 31 := by omega
              clear h1 h2 hn hl hts
              rcases q1 with rfl | rfl | rfl | rfl | rfl | rfl | rfl | rfl | rfl | rfl | rfl | rfl | rfl | rfl | rfl | rfl | rfl | rfl | rfl | rfl | rfl | rfl | rfl | rfl | rfl | rfl | rfl | rfl | rfl | rfl | rfl <;> (subst_vars; first | exact absurd c16 (by decide) | exact absurd c8 (by decide) | exact absurd c4 (by decide) | exact absurd c2 (by decide) | decide)
            exact W.iret (v := z_23) hx hb hr (fun t9 ht hW => ⟨_, rfl, hpost, by rw [ht]⟩) (fun q h => by cases h) dJ6_numberOfTrailingZeros_0f7a4_79
    · skip
      refine lv_iinc (v := 17) (lv' := [(1, .int 17), (0, .int (nI (P - 1)))]) hx hb dJ6_numberOfTrailingZeros_0f7a4_26 hl (k := 0) rfl (by decide) (by decide) rfl (fun ls hl => ?_)
      refine lv_iload_n hx hb dJ6_numberOfTrailingZeros_0f7a4_29 rfl (lv_at hl 1 rfl) ?_
      refine lv_bipush (v := 16) hx hb dJ6_numberOfTrailingZeros_0f7a4_30 (by decide) ?_
      refine lv_iushr hx hb dJ6_numberOfTrailingZeros_0f7a4_32 rfl ?_
      refine lv_topi (fun z_24 ez_24 => ?_)
      refine lv_istore_n (lv' := [(0, .int z_24), (1, .int 17)]) hx hb dJ6_numberOfTrailingZeros_0f7a4_33 rfl hl (by decide) rfl (fun ls hl => ?_)
      refine lv_iload_n hx hb dJ6_numberOfTrailingZeros_0f7a4_34 rfl (lv_at hl 0 rfl) ?_
      refine lv_sipush (v := 256) hx hb dJ6_numberOfTrailingZeros_0f7a4_35 (by decide) ?_
      refine bw_icmp_le (tgt := 49) (a := z_24.toInt) (b := 256) hx hb dJ6_numberOfTrailingZeros_0f7a4_38 (by decide) rfl rfl (fun c8 => ?_) (fun c8 => ?_)
      · skip
        refine lv_iload_n hx hb dJ6_numberOfTrailingZeros_0f7a4_49 rfl (lv_at hl 0 rfl) ?_
        refine lv_bipush (v := 16) hx hb dJ6_numberOfTrailingZeros_0f7a4_50 (by decide) ?_
        refine bw_icmp_le (tgt := 62) (a := z_24.toInt) (b := 16) hx hb dJ6_numberOfTrailingZeros_0f7a4_52 (by decide) rfl rfl (fun c4 => ?_) (fun c4 => ?_)
        · skip
          refine lv_iload_n hx hb dJ6_numberOfTrailingZeros_0f7a4_62 rfl (lv_at hl 0 rfl) ?_
          refine lv_iconst (v := 4) hx hb dJ6_numberOfTrailingZeros_0f7a4_63 (by decide) ?_
          refine bw_icmp_le (tgt := 74) (a := z_24.toInt) (b := 4) hx hb dJ6_numberOfTrailingZeros_0f7a4_64 (by decide) rfl rfl (fun c2 => ?_) (fun c2 => ?_)
          · skip
            refine lv_iload_n hx hb dJ6_numberOfTrailingZeros_0f7a4_74 rfl (lv_at hl 1 rfl) ?_
            refine lv_iload_n hx hb dJ6_numberOfTrailingZeros_0f7a4_75 rfl (lv_at hl 0 rfl) ?_
            refine lv_iconst (v := 1) hx hb dJ6_numberOfTrailingZeros_0f7a4_76 (by decide) ?_
            refine lv_iushr hx hb dJ6_numberOfTrailingZeros_0f7a4_77 rfl ?_
            refine lv_topi (fun z_25 ez_25 => ?_)
            refine lv_iadd hx hb dJ6_numberOfTrailingZeros_0f7a4_78 ?_
            refine lv_topi (fun z_26 ez_26 => ?_)
            subst hQ
            have hpost : z_26 = nI t := by
              have q0 : t ≠ 0 := fun q => by rw [hP2, q] at c0; exact absurd c0 (by decide)
              have q1 : t = 1 ∨ t = 2 ∨ t = 3 ∨ t = 4 ∨ t = 5 ∨ t = 6 ∨ t = 7 ∨ t = 8 ∨ t = 9 ∨ t = 10 ∨ t = 11 ∨ t = 12 ∨ t = 13 ∨ t = 14 ∨ t = 15 ∨ t = 16 ∨ t = 17 ∨ t = 18 ∨ t = 19 ∨ t = 20 ∨ t = 21 ∨ t = 22 ∨ t = 23 ∨ t = 24 ∨ t = 25 ∨ t = 26 ∨ t = 27 ∨ t = 28 ∨ t = 29 ∨ t = 30 ∨ t = 31 := by omega
              clear h1 h2 hn hl hts
              rcases q1 with rfl | rfl | rfl | rfl | rfl | rfl | rfl | rfl | rfl | rfl | rfl | rfl | rfl | rfl | rfl | rfl | rfl | rfl | rfl | rfl | rfl | rfl | rfl | rfl | rfl | rfl | rfl | rfl | rfl | rfl | rfl <;> (subst_vars; first | exact absurd c16 (by decide) | exact absurd c8 (by decide) | exact absurd c4 (by decide) | exact absurd c2 (by decide) | decide)
            exact W.iret (v := z_26) hx hb hr (fun t9 ht hW => ⟨_, rfl, hpost, by rw [ht]⟩) (fun q h => by cases h) dJ6_numberOfTrailingZeros_0f7a4_79
          · skip
            refine lv_iinc (v := 19) (lv' := [(1, .int 19), (0, .int z_24)]) hx hb dJ6_numberOfTrailingZeros_0f7a4_67 hl (k := 1) rfl (by decide) (by decide) rfl (fun ls hl => ?_)
            refine lv_iload_n hx hb dJ6_numberOfTrailingZeros_0f7a4_70 rfl (lv_at hl 1 rfl) ?_
            refine lv_iconst (v := 2) hx hb dJ6_numberOfTrailingZeros_0f7a4_71 (by decide) ?_
            refine lv_iushr hx hb dJ6_numberOfTrailingZeros_0f7a4_72 rfl ?_
            refine lv_topi (fun z_27 ez_27 => ?_)
            refine lv_istore_n (lv' := [(0, .int z_27), (1, .int 19)]) hx hb dJ6_numberOfTrailingZeros_0f7a4_73 rfl hl (by decide) rfl (fun ls hl => ?_)
            refine lv_iload_n hx hb dJ6_numberOfTrailingZeros_0f7a4_74 rfl (lv_at hl 1 rfl) ?_
            refine lv_iload_n hx hb dJ6_numberOfTrailingZeros_0f7a4_75 rfl (lv_at hl 0 rfl) ?_
            refine lv_iconst (v := 1) hx hb dJ6_numberOfTrailingZeros_0f7a4_76 (by decide) ?_
            refine lv_iushr hx hb dJ6_numberOfTrailingZeros_0f7a4_77 rfl ?_
            refine lv_topi (fun z_28 ez_28 => ?_)
            refine lv_iadd hx hb dJ6_numberOfTrailingZeros_0f7a4_78 ?_
            refine lv_topi (fun z_29 ez_29 => ?_)
            subst hQ
            have hpost : z_29 = nI t := by
              have q0 : t ≠ 0 := fun q => by rw [hP2, q] at c0; exact absurd c0 (by decide)
              have q1 : t = 1 ∨ t = 2 ∨ t = 3 ∨ t = 4 ∨ t = 5 ∨ t = 6 ∨ t = 7 ∨ t = 8 ∨ t = 9 ∨ t = 10 ∨ t = 11 ∨ t = 12 ∨ t = 13 ∨ t = 14 ∨ t = 15 ∨ t = 16 ∨ t = 17 ∨ t = 18 ∨ t = 19 ∨ t = 20 ∨ t = 21 ∨ t = 22 ∨ t = 23 ∨ t = 24 ∨ t = 25 ∨ t = 26 ∨ t = 27 ∨ t = 28 ∨ t = 29 ∨ t = 30 ∨ t = 31 := by omega
              clear h1 h2 hn hl hts
              rcases q1 with rfl | rfl | rfl | rfl | rfl | rfl | rfl | rfl | rfl | rfl | rfl | rfl | rfl | rfl | rfl | rfl | rfl | rfl | rfl | rfl | rfl | rfl | rfl | rfl | rfl | rfl | rfl | rfl | rfl | rfl | rfl <;> (subst_vars; first | exact absurd c16 (by decide) | exact absurd c8 (by decide) | exact absurd c4 (by decide) | exact absurd c2 (by decide) | decide)
            exact W.iret (v := z_29) hx hb hr (fun t9 ht hW => ⟨_, rfl, hpost, by rw [ht]⟩) (fun q h => by cases h) dJ6_numberOfTrailingZeros_0f7a4_79
        · skip
          refine lv_iinc (v := 21) (lv' := [(1, .int 21), (0, .int z_24)]) hx hb dJ6_numberOfTrailingZeros_0f7a4_55 hl (k := 1) rfl (by decide) (by decide) rfl (fun ls hl => ?_)
          refine lv_iload_n hx hb dJ6_numberOfTrailingZeros_0f7a4_58 rfl (lv_at hl 1 rfl) ?_
          refine lv_iconst (v := 4) hx hb dJ6_numberOfTrailingZeros_0f7a4_59 (by decide) ?_
          refine lv_iushr hx hb dJ6_numberOfTrailingZeros_0f7a4_60 rfl ?_
          refine lv_topi (fun z_30 ez_30 => ?_)
          refine lv_istore_n (lv' := [(0, .int z_30), (1, .int 21)]) hx hb dJ6_numberOfTrailingZeros_0f7a4_61 rfl hl (by decide) rfl (fun ls hl => ?_)
          refine lv_iload_n hx hb dJ6_numberOfTrailingZeros_0f7a4_62 rfl (lv_at hl 0 rfl) ?_
          refine lv_iconst (v := 4) hx hb dJ6_numberOfTrailingZeros_0f7a4_63 (by decide) ?_
          refine bw_icmp_le (tgt := 74) (a := z_30.toInt) (b := 4) hx hb dJ6_numberOfTrailingZeros_0f7a4_64 (by decide) rfl rfl (fun c2 => ?_) (fun c2 => ?_)
          · skip
            refine lv_iload_n hx hb dJ6_numberOfTrailingZeros_0f7a4_74 rfl (lv_at hl 1 rfl) ?_
            refine lv_iload_n hx hb dJ6_numberOfTrailingZeros_0f7a4_75 rfl (lv_at hl 0 rfl) ?_
            refine lv_iconst (v := 1) hx hb dJ6_numberOfTrailingZeros_0f7a4_76 (by decide) ?_
            refine lv_iushr hx hb dJ6_numberOfTrailingZeros_0f7a4_77 rfl ?_
            refine lv_topi (fun z_31 ez_31 => ?_)
            refine lv_iadd hx hb dJ6_numberOfTrailingZeros_0f7a4_78 ?_
            refine lv_topi (fun z_32 ez_32 => ?_)
            subst hQ
            have hpost : z_32 = nI t := by
              have q0 : t ≠ 0 := fun q => by rw [hP2, q] at c0; exact absurd c0 (by decide)
              have q1 : t = 1 ∨ t = 2 ∨ t = 3 ∨ t = 4 ∨ t = 5 ∨ t = 6 ∨ t = 7 ∨ t = 8 ∨ t = 9 ∨ t = 10 ∨ t = 11 ∨ t = 12 ∨ t = 13 ∨ t = 14 ∨ t = 15 ∨ t = 16 ∨ t = 17 ∨ t = 18 ∨ t = 19 ∨ t = 20 ∨ t = 21 ∨ t = 22 ∨ t = 23 ∨ t = 24 ∨ t = 25 ∨ t = 26 ∨ t = 27 ∨ t = 28 ∨ t = 29 ∨ t = 30 ∨ t = 31 := by omega
              clear h1 h2 hn hl hts
              rcases q1 with rfl | rfl | rfl | rfl | rfl | rfl | rfl | rfl | rfl | rfl | rfl | rfl | rfl | rfl | rfl | rfl | rfl | rfl | rfl | rfl | rfl | rfl | rfl | rfl | rfl | rfl | rfl | rfl | rfl | rfl | rfl <;> (subst_vars; first | exact absurd c16 (by decide) | exact absurd c8 (by decide) | exact absurd c4 (by decide) | exact absurd c2 (by decide) | decide)
            exact W.iret (v := z_32) hx hb hr (fun t9 ht hW => ⟨_, rfl, hpost, by rw [ht]⟩) (fun q h => by cases h) dJ6_numberOfTrailingZeros_0f7a4_79
          · skip
            refine lv_iinc (v := 23) (lv' := [(1, .int 23), (0, .int z_30)]) hx hb dJ6_numberOfTrailingZeros_0f7a4_67 hl (k := 1) rfl (by decide) (by decide) rfl (fun ls hl => ?_)
            refine lv_iload_n hx hb dJ6_numberOfTrailingZeros_0f7a4_70 rfl (lv_at hl 1 rfl) ?_
            refine lv_iconst (v := 2) hx hb dJ6_numberOfTrailingZeros_0f7a4_71 (by decide) ?_
            refine lv_iushr hx hb dJ6_numberOfTrailingZeros_0f7a4_72 rfl ?_
            refine lv_topi (fun z_33 ez_33 => ?_)
            refine lv_istore_n (lv' := [(0, .int z_33), (1, .int 23)]) hx hb dJ6_numberOfTrailingZeros_0f7a4_73 rfl hl (by decide) rfl (fun ls hl => ?_)
            refine lv_iload_n hx hb dJ6_numberOfTrailingZeros_0f7a4_74 rfl (lv_at hl 1 rfl) ?_
            refine lv_iload_n hx hb dJ6_numberOfTrailingZeros_0f7a4_75 rfl (lv_at hl 0 rfl) ?_
            refine lv_iconst (v := 1) hx hb dJ6_numberOfTrailingZeros_0f7a4_76 (by decide) ?_
            refine lv_iushr hx hb dJ6_numberOfTrailingZeros_0f7a4_77 rfl ?_
            refine lv_topi (fun z_34 ez_34 => ?_)
            refine lv_iadd hx hb dJ6_numberOfTrailingZeros_0f7a4_78 ?_
            refine lv_topi (fun z_35 ez_35 => ?_)
            subst hQ
            have hpost : z_35 = nI t := by
              have q0 : t ≠ 0 := fun q => by rw [hP2, q] at c0; exact absurd c0 (by decide)
              have q1 : t = 1 ∨ t = 2 ∨ t = 3 ∨ t = 4 ∨ t = 5 ∨ t = 6 ∨ t = 7 ∨ t = 8 ∨ t = 9 ∨ t = 10 ∨ t = 11 ∨ t = 12 ∨ t = 13 ∨ t = 14 ∨ t = 15 ∨ t = 16 ∨ t = 17 ∨ t = 18 ∨ t = 19 ∨ t = 20 ∨ t = 21 ∨ t = 22 ∨ t = 23 ∨ t = 24 ∨ t = 25 ∨ t = 26 ∨ t = 27 ∨ t = 28 ∨ t = 29 ∨ t = 30 ∨ t = 31 := by omega
              clear h1 h2 hn hl hts
              rcases q1 with rfl | rfl | rfl | rfl | rfl | rfl | rfl | rfl | rfl | rfl | rfl | rfl | rfl | rfl | rfl | rfl | rfl | rfl | rfl | rfl | rfl | rfl | rfl | rfl | rfl | rfl | rfl | rfl | rfl | rfl | rfl <;> (subst_vars; first | exact absurd c16 (by decide) | exact absurd c8 (by decide) | exact absurd c4 (by decide) | exact absurd c2 (by decide) | decide)
            exact W.iret (v := z_35) hx hb hr (fun t9 ht hW => ⟨_, rfl, hpost, by rw [ht]⟩) (fun q h => by cases h) dJ6_numberOfTrailingZeros_0f7a4_79
      · skip
        refine lv_iinc (v := 25) (lv' := [(1, .int 25), (0, .int z_24)]) hx hb dJ6_numberOfTrailingZeros_0f7a4_41 hl (k := 1) rfl (by decide) (by decide) rfl (fun ls hl => ?_)
        refine lv_iload_n hx hb dJ6_numberOfTrailingZeros_0f7a4_44 rfl (lv_at hl 1 rfl) ?_
        refine lv_bipush (v := 8) hx hb dJ6_numberOfTrailingZeros_0f7a4_45 (by decide) ?_
        refine lv_iushr hx hb dJ6_numberOfTrailingZeros_0f7a4_47 rfl ?_
        refine lv_topi (fun z_36 ez_36 => ?_)
        refine lv_istore_n (lv' := [(0, .int z_36), (1, .int 25)]) hx hb dJ6_numberOfTrailingZeros_0f7a4_48 rfl hl (by decide) rfl (fun ls hl => ?_)
        refine lv_iload_n hx hb dJ6_numberOfTrailingZeros_0f7a4_49 rfl (lv_at hl 0 rfl) ?_
        refine lv_bipush (v := 16) hx hb dJ6_numberOfTrailingZeros_0f7a4_50 (by decide) ?_
        refine bw_icmp_le (tgt := 62) (a := z_36.toInt) (b := 16) hx hb dJ6_numberOfTrailingZeros_0f7a4_52 (by decide) rfl rfl (fun c4 => ?_) (fun c4 => ?_)
        · skip
          refine lv_iload_n hx hb dJ6_numberOfTrailingZeros_0f7a4_62 rfl (lv_at hl 0 rfl) ?_
          refine lv_iconst (v := 4) hx hb dJ6_numberOfTrailingZeros_0f7a4_63 (by decide) ?_
          refine bw_icmp_le (tgt := 74) (a := z_36.toInt) (b := 4) hx hb dJ6_numberOfTrailingZeros_0f7a4_64 (by decide) rfl rfl (fun c2 => ?_) (fun c2 => ?_)
          · skip
            refine lv_iload_n hx hb dJ6_numberOfTrailingZeros_0f7a4_74 rfl (lv_at hl 1 rfl) ?_
            refine lv_iload_n hx hb dJ6_numberOfTrailingZeros_0f7a4_75 rfl (lv_at hl 0 rfl) ?_
            refine lv_iconst (v := 1) hx hb dJ6_numberOfTrailingZeros_0f7a4_76 (by decide) ?_
            refine lv_iushr hx hb dJ6_numberOfTrailingZeros_0f7a4_77 rfl ?_
            refine lv_topi (fun z_37 ez_37 => ?_)
            refine lv_iadd hx hb dJ6_numberOfTrailingZeros_0f7a4_78 ?_
            refine lv_topi (fun z_38 ez_38 => ?_)
            subst hQ
            have hpost : z_38 = nI t := by
              have q0 : t ≠ 0 := fun q => by rw [hP2, q] at c0; exact absurd c0 (by decide)
              have q1 : t = 1 ∨ t = 2 ∨ t = 3 ∨ t = 4 ∨ t = 5 ∨ t = 6 ∨ t = 7 ∨ t = 8 ∨ t = 9 ∨ t = 10 ∨ t = 11 ∨ t = 12 ∨ t = 13 ∨ t = 14 ∨ t = 15 ∨ t = 16 ∨ t = 17 ∨ t = 18 ∨ t = 19 ∨ t = 20 ∨ t = 21 ∨ t = 22 ∨ t = 23 ∨ t = 24 ∨ t = 25 ∨ t = 26 ∨ t = 27 ∨ t = 28 ∨ t = 29 ∨ t = 30 ∨ t = 31 := by omega
              clear h1 h2 hn hl hts
              rcases q1 with rfl | rfl | rfl | rfl | rfl | rfl | rfl | rfl | rfl | rfl | rfl | rfl | rfl | rfl | rfl | rfl | rfl | rfl | rfl | rfl | rfl | rfl | rfl | rfl | rfl | rfl | rfl | rfl | rfl | rfl | rfl <;> (subst_vars; first | exact absurd c16 (by decide) | exact absurd c8 (by decide) | exact absurd c4 (by decide) | exact absurd c2 (by decide) | decide)
            exact W.iret (v := z_38) hx hb hr (fun t9 ht hW => ⟨_, rfl, hpost, by rw [ht]⟩) (fun q h => by cases h) dJ6_numberOfTrailingZeros_0f7a4_79
          · skip
            refine lv_iinc (v := 27) (lv' := [(1, .int 27), (0, .int z_36)]) hx hb dJ6_numberOfTrailingZeros_0f7a4_67 hl (k := 1) rfl (by decide) (by decide) rfl (fun ls hl => ?_)
            refine lv_iload_n hx hb dJ6_numberOfTrailingZeros_0f7a4_70 rfl (lv_at hl 1 rfl) ?_
            refine lv_iconst (v := 2) hx hb dJ6_numberOfTrailingZeros_0f7a4_71 (by decide) ?_
            refine lv_iushr hx hb dJ6_numberOfTrailingZeros_0f7a4_72 rfl ?_
            refine lv_topi (fun z_39 ez_39 => ?_)
            refine lv_istore_n (lv' := [(0, .int z_39), (1, .int 27)]) hx hb dJ6_numberOfTrailingZeros_0f7a4_73 rfl hl (by decide) rfl (fun ls hl => ?_)
            refine lv_iload_n hx hb dJ6_numberOfTrailingZeros_0f7a4_74 rfl (lv_at hl 1 rfl) ?_
            refine lv_iload_n hx hb dJ6_numberOfTrailingZeros_0f7a4_75 rfl (lv_at hl 0 rfl) ?_
            refine lv_iconst (v := 1) hx hb dJ6_numberOfTrailingZeros_0f7a4_76 (by decide) ?_
            refine lv_iushr hx hb dJ6_numberOfTrailingZeros_0f7a4_77 rfl ?_
            refine lv_topi (fun z_40 ez_40 => ?_)
            refine lv_iadd hx hb dJ6_numberOfTrailingZeros_0f7a4_78 ?_
            refine lv_topi (fun z_41 ez_41 => ?_)
            subst hQ
            have hpost : z_41 = nI t := by
              have q0 : t ≠ 0 := fun q => by rw [hP2, q] at c0; exact absurd c0 (by decide)
              have q1 : t = 1 ∨ t = 2 ∨ t = 3 ∨ t = 4 ∨ t = 5 ∨ t = 6 ∨ t = 7 ∨ t = 8 ∨ t = 9 ∨ t = 10 ∨ t = 11 ∨ t = 12 ∨ t = 13 ∨ t = 14 ∨ t = 15 ∨ t = 16 ∨ t = 17 ∨ t = 18 ∨ t = 19 ∨ t = 20 ∨ t = 21 ∨ t = 22 ∨ t = 23 ∨ t = 24 ∨ t = 25 ∨ t = 26 ∨ t = 27 ∨ t = 28 ∨ t = 29 ∨ t = 30 ∨ t = 31 := by omega
              clear h1 h2 hn hl hts
              rcases q1 with rfl | rfl | rfl | rfl | rfl | rfl | rfl | rfl | rfl | rfl | rfl | rfl | rfl | rfl | rfl | rfl | rfl | rfl | rfl | rfl | rfl | rfl | rfl | rfl | rfl | rfl | rfl | rfl | rfl | rfl | rfl <;> (subst_vars; first | exact absurd c16 (by decide) | exact absurd c8 (by decide) | exact absurd c4 (by decide) | exact absurd c2 (by decide) | decide)
            exact W.iret (v := z_41) hx hb hr (fun t9 ht hW => ⟨_, rfl, hpost, by rw [ht]⟩) (fun q h => by cases h) dJ6_numberOfTrailingZeros_0f7a4_79
        · skip
          refine lv_iinc (v := 29) (lv' := [(1, .int 29), (0, .int z_36)]) hx hb dJ6_numberOfTrailingZeros_0f7a4_55 hl (k := 1) rfl (by decide) (by decide) rfl (fun ls hl => ?_)
          refine lv_iload_n hx hb dJ6_numberOfTrailingZeros_0f7a4_58 rfl (lv_at hl 1 rfl) ?_
          refine lv_iconst (v := 4) hx hb dJ6_numberOfTrailingZeros_0f7a4_59 (by decide) ?_
          refine lv_iushr hx hb dJ6_numberOfTrailingZeros_0f7a4_60 rfl ?_
          refine lv_topi (fun z_42 ez_42 => ?_)
          refine lv_istore_n (lv' := [(0, .int z_42), (1, .int 29)]) hx hb dJ6_numberOfTrailingZeros_0f7a4_61 rfl hl (by decide) rfl (fun ls hl => ?_)
          refine lv_iload_n hx hb dJ6_numberOfTrailingZeros_0f7a4_62 rfl (lv_at hl 0 rfl) ?_
          refine lv_iconst (v := 4) hx hb dJ6_numberOfTrailingZeros_0f7a4_63 (by decide) ?_
          refine bw_icmp_le (tgt := 74) (a := z_42.toInt) (b := 4) hx hb dJ6_numberOfTrailingZeros_0f7a4_64 (by decide) rfl rfl (fun c2 => ?_) (fun c2 => ?_)
          · skip
            refine lv_iload_n hx hb dJ6_numberOfTrailingZeros_0f7a4_74 rfl (lv_at hl 1 rfl) ?_
            refine lv_iload_n hx hb dJ6_numberOfTrailingZeros_0f7a4_75 rfl (lv_at hl 0 rfl) ?_
            refine lv_iconst (v := 1) hx hb dJ6_numberOfTrailingZeros_0f7a4_76 (by decide) ?_
            refine lv_iushr hx hb dJ6_numberOfTrailingZeros_0f7a4_77 rfl ?_
            refine lv_topi (fun z_43 ez_43 => ?_)
            refine lv_iadd hx hb dJ6_numberOfTrailingZeros_0f7a4_78 ?_
            refine lv_topi (fun z_44 ez_44 => ?_)
            subst hQ
            have hpost : z_44 = nI t := by
              have q0 : t ≠ 0 := fun q => by rw [hP2, q] at c0; exact absurd c0 (by decide)
              have q1 : t = 1 ∨ t = 2 ∨ t = 3 ∨ t = 4 ∨ t = 5 ∨ t = 6 ∨ t = 7 ∨ t = 8 ∨ t = 9 ∨ t = 10 ∨ t = 11 ∨ t = 12 ∨ t = 13 ∨ t = 14 ∨ t = 15 ∨ t = 16 ∨ t = 17 ∨ t = 18 ∨ t = 19 ∨ t = 20 ∨ t = 21 ∨ t = 22 ∨ t = 23 ∨ t = 24 ∨ t = 25 ∨ t = 26 ∨ t = 27 ∨ t = 28 ∨ t = 29 ∨ t = 30 ∨ t = 31 := by omega
              clear h1 h2 hn hl hts
              rcases q1 with rfl | rfl | rfl | rfl | rfl | rfl | rfl | rfl | rfl | rfl | rfl | rfl | rfl | rfl | rfl | rfl | rfl | rfl | rfl | rfl | rfl | rfl | rfl | rfl | rfl | rfl | rfl | rfl | rfl | rfl | rfl <;> (subst_vars; first | exact absurd c16 (by decide) | exact absurd c8 (by decide) | exact absurd c4 (by decide) | exact absurd c2 (by decide) | decide)
            exact W.iret (v := z_44) hx hb hr (fun t9 ht hW => ⟨_, rfl, hpost, by rw [ht]⟩) (fun q h => by cases h) dJ6_numberOfTrailingZeros_0f7a4_79
          · skip
            refine lv_iinc (v := 31) (lv' := [(1, .int 31), (0, .int z_42)]) hx hb dJ6_numberOfTrailingZeros_0f7a4_67 hl (k := 1) rfl (by decide) (by decide) rfl (fun ls hl => ?_)
            refine lv_iload_n hx hb dJ6_numberOfTrailingZeros_0f7a4_70 rfl (lv_at hl 1 rfl) ?_
            refine lv_iconst (v := 2) hx hb dJ6_numberOfTrailingZeros_0f7a4_71 (by decide) ?_
            refine lv_iushr hx hb dJ6_numberOfTrailingZeros_0f7a4_72 rfl ?_
            refine lv_topi (fun z_45 ez_45 => ?_)
            refine lv_istore_n (lv' := [(0, .int z_45), (1, .int 31)]) hx hb dJ6_numberOfTrailingZeros_0f7a4_73 rfl hl (by decide) rfl (fun ls hl => ?_)
            refine lv_iload_n hx hb dJ6_numberOfTrailingZeros_0f7a4_74 rfl (lv_at hl 1 rfl) ?_
            refine lv_iload_n hx hb dJ6_numberOfTrailingZeros_0f7a4_75 rfl (lv_at hl 0 rfl) ?_
            refine lv_iconst (v := 1) hx hb dJ6_numberOfTrailingZeros_0f7a4_76 (by decide) ?_
            refine lv_iushr hx hb dJ6_numberOfTrailingZeros_0f7a4_77 rfl ?_
            refine lv_topi (fun z_46 ez_46 => ?_)
            refine lv_iadd hx hb dJ6_numberOfTrailingZeros_0f7a4_78 ?_
            refine lv_topi (fun z_47 ez_47 => ?_)
            subst hQ
            have hpost : z_47 = nI t := by
              have q0 : t ≠ 0 := fun q => by rw [hP2, q] at c0; exact absurd c0 (by decide)
              have q1 : t = 1 ∨ t = 2 ∨ t = 3 ∨ t = 4 ∨ t = 5 ∨ t = 6 ∨ t = 7 ∨ t = 8 ∨ t = 9 ∨ t = 10 ∨ t = 11 ∨ t = 12 ∨ t = 13 ∨ t = 14 ∨ t = 15 ∨ t = 16 ∨ t = 17 ∨ t = 18 ∨ t = 19 ∨ t = 20 ∨ t = 21 ∨ t = 22 ∨ t = 23 ∨ t = 24 ∨ t = 25 ∨ t = 26 ∨ t = 27 ∨ t = 28 ∨ t = 29 ∨ t = 30 ∨ t = 31 := by omega
              clear h1 h2 hn hl hts
              rcases q1 with rfl | rfl | rfl | rfl | rfl | rfl | rfl | rfl | rfl | rfl | rfl | rfl | rfl | rfl | rfl | rfl | rfl | rfl | rfl | rfl | rfl | rfl | rfl | rfl | rfl | rfl | rfl | rfl | rfl | rfl | rfl <;> (subst_vars; first | exact absurd c16 (by decide) | exact absurd c8 (by decide) | exact absurd c4 (by decide) | exact absurd c2 (by decide) | decide)
            exact W.iret (v := z_47) hx hb hr (fun t9 ht hW => ⟨_, rfl, hpost, by rw [ht]⟩) (fun q h => by cases h) dJ6_numberOfTrailingZeros_0f7a4_79
  · skip
    refine lv_iload_n hx hb dJ6_numberOfTrailingZeros_0f7a4_12 rfl (lv_at hl 0 rfl) ?_
    refine lv_bipush (v := 32) hx hb dJ6_numberOfTrailingZeros_0f7a4_13 (by decide) ?_
    refine lv_iand hx hb dJ6_numberOfTrailingZeros_0f7a4_15 ?_
    refine lv_topi (fun z_48 ez_48 => ?_)
    subst hQ
    have hpost : z_48 = nI t := by
      have q0 : P = 1 := by omega
      have q1 : t = 0 := by
        rcases Nat.eq_zero_or_pos t with q | q
        · exact q
        · have := Nat.pow_le_pow_right (n := 2) (by decide) q
          omega
      rw [ez_48, q0, q1]; decide
    exact W.iret (v := z_48) hx hb hr (fun t9 ht hW => ⟨_, rfl, hpost, by rw [ht]⟩) (fun q h => by cases h) dJ6_numberOfTrailingZeros_0f7a4_16

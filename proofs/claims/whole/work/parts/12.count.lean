/-! ===== how many places have a property ===== -/
def fb_ct (p : Nat → Bool) : Nat → Nat
  | 0 => 0
  | n + 1 => fb_ct p n + (if p n then 1 else 0)
theorem fb_ct_succ (p : Nat → Bool) (n : Nat) : fb_ct p (n + 1) = fb_ct p n + (if p n then 1 else 0) := rfl
theorem fb_ct_le (p : Nat → Bool) : ∀ n, fb_ct p n ≤ n
  | 0 => Nat.le_refl _
  | n + 1 => by
    have h := fb_ct_le p n
    rw [fb_ct_succ]
    split <;> omega
theorem fb_ct_step (p : Nat → Bool) (m : Nat) : ∀ n, fb_ct p m ≤ fb_ct p (m + n)
  | 0 => Nat.le_refl _
  | n + 1 => by
    have h := fb_ct_step p m n
    show fb_ct p m ≤ fb_ct p (m + n + 1)
    rw [fb_ct_succ]
    omega
theorem fb_ct_mono (p : Nat → Bool) {m n : Nat} (h : m ≤ n) : fb_ct p m ≤ fb_ct p n := by
  have := fb_ct_step p m (n - m)
  rwa [Nat.add_sub_cancel' h] at this
theorem fb_ct_cong {p q : Nat → Bool} : ∀ {n : Nat}, (∀ k, k < n → p k = q k) → fb_ct p n = fb_ct q n
  | 0, _ => rfl
  | n + 1, h => by
    rw [fb_ct_succ, fb_ct_succ, fb_ct_cong (fun k hk => h k (by omega)), h n (by omega)]
/-- one place changed -/
theorem fb_ct_out (p : Nat → Bool) (b : Bool) {i n : Nat} (h : n ≤ i) : fb_ct (fun k => if k = i then b else p k) n = fb_ct p n :=
  fb_ct_cong fun k hk => if_neg (by omega)
theorem fb_ct_upd (p : Nat → Bool) (b : Bool) {i : Nat} : ∀ {n : Nat}, i < n → fb_ct (fun k => if k = i then b else p k) n + (if p i then 1 else 0) = fb_ct p n + (if b then 1 else 0)
  | 0, h => absurd h (Nat.not_lt_zero i)
  | n + 1, h => by
    rw [fb_ct_succ, fb_ct_succ]
    rcases Nat.lt_or_ge i n with q | q
    · have := fb_ct_upd p b q
      have e : (if n = i then b else p n) = p n := if_neg (by omega)
      rw [e]
      omega
    · have e : i = n := by omega
      subst e
      rw [fb_ct_out p b (Nat.le_refl _)]
      simp only [if_true]
      omega
theorem fb_ct_sub {p q : Nat → Bool} : ∀ {n : Nat}, (∀ k, k < n → p k = true → q k = true) → fb_ct p n ≤ fb_ct q n
  | 0, _ => Nat.le_refl _
  | n + 1, h => by
    have h1 := fb_ct_sub (n := n) (p := p) (q := q) (fun k hk => h k (by omega))
    have h2 := h n (by omega)
    rw [fb_ct_succ, fb_ct_succ]
    cases hp : p n <;> cases hq : q n <;> simp_all <;> omega
theorem fb_ct_or {p q : Nat → Bool} : ∀ {n : Nat}, (∀ k, k < n → ¬ (p k = true ∧ q k = true)) → fb_ct (fun k => p k || q k) n = fb_ct p n + fb_ct q n
  | 0, _ => rfl
  | n + 1, h => by
    have h1 := fb_ct_or (n := n) (p := p) (q := q) (fun k hk => h k (by omega))
    have h2 := h n (by omega)
    rw [fb_ct_succ, fb_ct_succ, fb_ct_succ, h1]
    cases hp : p n <;> cases hq : q n <;> simp_all <;> omega
theorem fb_ct_not (p : Nat → Bool) : ∀ n, fb_ct p n + fb_ct (fun k => !p k) n = n
  | 0 => rfl
  | n + 1 => by
    have h := fb_ct_not p n
    rw [fb_ct_succ, fb_ct_succ]
    cases p n <;> simp <;> omega
theorem fb_ct_split (p : Nat → Bool) (m : Nat) : ∀ n, fb_ct p (m + n) = fb_ct p m + fb_ct (fun k => p (m + k)) n
  | 0 => rfl
  | n + 1 => by
    have h := fb_ct_split p m n
    show fb_ct p (m + n + 1) = _
    rw [fb_ct_succ, fb_ct_succ, h, Nat.add_assoc]
theorem fb_ct_zero {p : Nat → Bool} : ∀ {n : Nat}, fb_ct p n = 0 ↔ ∀ k, k < n → p k = false
  | 0 => ⟨fun _ k hk => absurd hk (Nat.not_lt_zero k), fun _ => rfl⟩
  | n + 1 => by
    have h := fb_ct_zero (p := p) (n := n)
    rw [fb_ct_succ]
    constructor
    · intro e k hk
      have e1 : fb_ct p n = 0 := by omega
      rcases Nat.lt_or_ge k n with q | q
      · exact h.mp e1 k q
      · have ek : k = n := by omega
        subst ek
        cases hp : p k
        · rfl
        · simp [hp] at e
    · intro a
      rw [h.mpr (fun k hk => a k (by omega)), a n (by omega)]
      rfl
theorem fb_ct_pos {p : Nat → Bool} {n : Nat} : 0 < fb_ct p n ↔ ∃ k, k < n ∧ p k = true := by
  constructor
  · intro h
    refine Classical.byContradiction fun hx => ?_
    have := fb_ct_zero.mpr (fun k hk => by
      cases hp : p k
      · rfl
      · exact absurd ⟨k, hk, hp⟩ hx : ∀ k, k < n → p k = false)
    omega
  · rintro ⟨k, hk, hp⟩
    rcases Nat.eq_zero_or_pos (fb_ct p n) with e | e
    · have := fb_ct_zero.mp e k hk
      rw [this] at hp
      cases hp
    · exact e
theorem fb_ct_all {p : Nat → Bool} {n : Nat} : fb_ct p n = n ↔ ∀ k, k < n → p k = true := by
  have h := fb_ct_not p n
  constructor
  · intro e k hk
    have z : fb_ct (fun k => !p k) n = 0 := by omega
    have := fb_ct_zero.mp z k hk
    cases hp : p k
    · simp [hp] at this
    · rfl
  · intro a
    have z : fb_ct (fun k => !p k) n = 0 := fb_ct_zero.mpr (fun k hk => by simp [a k hk])
    omega
/-- the k-th place with the property -/
theorem fb_ct_kth {p : Nat → Bool} {k : Nat} : ∀ {n : Nat}, k < fb_ct p n → ∃ i, i < n ∧ p i = true ∧ fb_ct p i = k
  | 0, h => absurd h (Nat.not_lt_zero k)
  | n + 1, h => by
    rcases Nat.lt_or_ge k (fb_ct p n) with q | q
    · obtain ⟨i, h1, h2⟩ := fb_ct_kth q
      exact ⟨i, by omega, h2⟩
    · rw [fb_ct_succ] at h
      cases hp : p n
      · simp [hp] at h; omega
      · simp [hp] at h
        exact ⟨n, by omega, hp, by omega⟩
theorem fb_ct_kth_one {p : Nat → Bool} {i j : Nat} (hi : p i = true) (hj : p j = true) (e : fb_ct p i = fb_ct p j) : i = j := by
  have key : ∀ a b : Nat, a < b → p a = true → fb_ct p a < fb_ct p b := by
    intro a b hab ha
    have h := fb_ct_mono p (show a + 1 ≤ b from hab)
    rw [fb_ct_succ, ha] at h
    simp at h
    omega
  rcases Nat.lt_trichotomy i j with q | q | q
  · have := key i j q hi; omega
  · exact q
  · have := key j i q hj; omega
/-! ===== the number of bits, as the JDK counts them ===== -/
def bc (x : Int32) : Int32 :=
  let i1 := x - ((x.toUInt32 >>> ((nI 1).toUInt32 &&& Int32.toUInt32 31)).toInt32 &&& 1431655765)
  let i2 := (i1 &&& 858993459) + ((i1.toUInt32 >>> ((nI 2).toUInt32 &&& Int32.toUInt32 31)).toInt32 &&& 858993459)
  let i3 := (i2 + (i2.toUInt32 >>> ((nI 4).toUInt32 &&& Int32.toUInt32 31)).toInt32) &&& 252645135
  let i4 := i3 + (i3.toUInt32 >>> ((nI 8).toUInt32 &&& Int32.toUInt32 31)).toInt32
  let i5 := i4 + (i4.toUInt32 >>> ((nI 16).toUInt32 &&& Int32.toUInt32 31)).toInt32
  i5 &&& nI 63
theorem and256 {u m r t : Nat} (hr : r < 256) (ht : t < 256) : (256 * u + r) &&& (256 * m + t) = 256 * (u &&& m) + (r &&& t) := by
  apply Nat.eq_of_testBit_eq
  intro i
  have hrt : (r &&& t) < 2 ^ 8 := Nat.lt_of_le_of_lt Nat.and_le_right ht
  rw [Nat.testBit_and, show 256 * u + r = 2 ^ 8 * u + r from rfl, show 256 * m + t = 2 ^ 8 * m + t from rfl, show 256 * (u &&& m) + (r &&& t) = 2 ^ 8 * (u &&& m) + (r &&& t) from rfl, Nat.testBit_two_pow_mul_add _ hr, Nat.testBit_two_pow_mul_add _ ht, Nat.testBit_two_pow_mul_add _ hrt]
  by_cases h : i < 8
  · rw [if_pos h, if_pos h, if_pos h, Nat.testBit_and]
  · rw [if_neg h, if_neg h, if_neg h, Nat.testBit_and]
theorem and4 {b0 b1 b2 b3 t : Nat} (h0 : b0 < 256) (h1 : b1 < 256) (h2 : b2 < 256) (ht : t < 256) : (b0 + 256 * b1 + 65536 * b2 + 16777216 * b3) &&& (t + 256 * t + 65536 * t + 16777216 * t) = (b0 &&& t) + 256 * (b1 &&& t) + 65536 * (b2 &&& t) + 16777216 * (b3 &&& t) := by
  rw [show b0 + 256 * b1 + 65536 * b2 + 16777216 * b3 = 256 * (256 * (256 * b3 + b2) + b1) + b0 by omega, show t + 256 * t + 65536 * t + 16777216 * t = 256 * (256 * (256 * t + t) + t) + t by omega, and256 h0 ht, and256 h1 ht, and256 h2 ht]
  omega
theorem ar_sub {b0 b1 b2 b3 s0 s1 s2 s3 : Nat} (h0 : s0 ≤ b0) (h1 : s1 ≤ b1) (h2 : s2 ≤ b2) (h3 : s3 ≤ b3) : (s0 + 256 * s1 + 65536 * s2 + 16777216 * s3 ≤ b0 + 256 * b1 + 65536 * b2 + 16777216 * b3) ∧ (b0 + 256 * b1 + 65536 * b2 + 16777216 * b3) - (s0 + 256 * s1 + 65536 * s2 + 16777216 * s3) = (b0 - s0) + 256 * (b1 - s1) + 65536 * (b2 - s2) + 16777216 * (b3 - s3) := by
  obtain ⟨d0, rfl⟩ := Nat.le.dest h0
  obtain ⟨d1, rfl⟩ := Nat.le.dest h1
  obtain ⟨d2, rfl⟩ := Nat.le.dest h2
  obtain ⟨d3, rfl⟩ := Nat.le.dest h3
  rw [Nat.add_sub_cancel_left, Nat.add_sub_cancel_left, Nat.add_sub_cancel_left, Nat.add_sub_cancel_left]
  clear h0 h1 h2 h3
  constructor <;> omega
theorem ar_add {a0 a1 a2 a3 c0 c1 c2 c3 : Nat} (h0 : a0 + c0 ≤ 255) (h1 : a1 + c1 ≤ 255) (h2 : a2 + c2 ≤ 255) (h3 : a3 + c3 ≤ 255) : ((a0 + 256 * a1 + 65536 * a2 + 16777216 * a3) + (c0 + 256 * c1 + 65536 * c2 + 16777216 * c3)) % 4294967296 = (a0 + c0) + 256 * (a1 + c1) + 65536 * (a2 + c2) + 16777216 * (a3 + c3) := by
  rw [show (a0 + 256 * a1 + 65536 * a2 + 16777216 * a3) + (c0 + 256 * c1 + 65536 * c2 + 16777216 * c3) = (a0 + c0) + 256 * (a1 + c1) + 65536 * (a2 + c2) + 16777216 * (a3 + c3) by omega]
  exact Nat.mod_eq_of_lt (by omega)
theorem ar_div {d q r : Nat} (hd : 0 < d) (hr : r < d) : (d * q + r) / d = q := by rw [Nat.mul_add_div hd, Nat.div_eq_of_lt hr, Nat.add_zero]
theorem ar_8 {k0 k1 k2 k3 : Nat} (h0 : k0 ≤ 8) (h1 : k1 ≤ 8) (h2 : k2 ≤ 8) (h3 : k3 ≤ 8) : ((k0 + 256 * k1 + 65536 * k2 + 16777216 * k3) + (k0 + 256 * k1 + 65536 * k2 + 16777216 * k3) / 256) % 4294967296 = (k0 + k1) + 256 * (k1 + k2) + 65536 * (k2 + k3) + 16777216 * k3 := by
  rw [show (k0 + 256 * k1 + 65536 * k2 + 16777216 * k3) / 256 = k1 + 256 * k2 + 65536 * k3 by rw [show k0 + 256 * k1 + 65536 * k2 + 16777216 * k3 = 256 * (k1 + 256 * k2 + 65536 * k3) + k0 by omega, ar_div (by decide) (by omega)]]
  rw [Nat.mod_eq_of_lt (by omega)]
  omega
theorem ar_16 {k0 k1 k2 k3 : Nat} (h0 : k0 ≤ 8) (h1 : k1 ≤ 8) (h2 : k2 ≤ 8) (h3 : k3 ≤ 8) : (((k0 + k1) + 256 * (k1 + k2) + 65536 * (k2 + k3) + 16777216 * k3) + ((k0 + k1) + 256 * (k1 + k2) + 65536 * (k2 + k3) + 16777216 * k3) / 65536) % 4294967296 % 64 = k0 + k1 + k2 + k3 := by
  rw [show ((k0 + k1) + 256 * (k1 + k2) + 65536 * (k2 + k3) + 16777216 * k3) / 65536 = (k2 + k3) + 256 * k3 by rw [show (k0 + k1) + 256 * (k1 + k2) + 65536 * (k2 + k3) + 16777216 * k3 = 65536 * ((k2 + k3) + 256 * k3) + ((k0 + k1) + 256 * (k1 + k2)) by omega, ar_div (by decide) (by omega)]]
  rw [Nat.mod_eq_of_lt (show _ < 4294967296 by omega)]
  rw [show (k0 + k1) + 256 * (k1 + k2) + 65536 * (k2 + k3) + 16777216 * k3 + (k2 + k3 + 256 * k3) = 64 * (4 * (k1 + k2) + 1024 * (k2 + k3) + 262144 * k3 + 4 * k3) + (k0 + k1 + k2 + k3) by omega, Nat.mul_add_mod, Nat.mod_eq_of_lt (by omega)]
theorem ar_h {d e b0 b1 b2 b3 : Nat} (he : 0 < e) (hde : d * e = 256) : (b0 + 256 * b1 + 65536 * b2 + 16777216 * b3) / e = (d * (b1 % e) + b0 / e) + 256 * (d * (b2 % e) + b1 / e) + 65536 * (d * (b3 % e) + b2 / e) + 16777216 * (b3 / e) := by
  have k0 := Nat.div_add_mod b0 e
  have k1 := Nat.div_add_mod b1 e
  have k2 := Nat.div_add_mod b2 e
  have k3 := Nat.div_add_mod b3 e
  have m0 := Nat.mod_lt b0 he
  generalize b0 / e = q0 at *
  generalize b1 / e = q1 at *
  generalize b2 / e = q2 at *
  generalize b3 / e = q3 at *
  generalize b0 % e = r0 at *
  generalize b1 % e = r1 at *
  generalize b2 % e = r2 at *
  generalize b3 % e = r3 at *
  subst k0 k1 k2 k3
  have key : e * q0 + r0 + 256 * (e * q1 + r1) + 65536 * (e * q2 + r2) + 16777216 * (e * q3 + r3) = e * ((d * r1 + q0) + 256 * (d * r2 + q1) + 65536 * (d * r3 + q2) + 16777216 * q3) + r0 := by
    have x1 : d * (e * r1) = 256 * r1 := by rw [← Nat.mul_assoc, hde]
    have x2 : d * (e * r2) = 256 * r2 := by rw [← Nat.mul_assoc, hde]
    have x3 : d * (e * r3) = 256 * r3 := by rw [← Nat.mul_assoc, hde]
    simp only [Nat.mul_add, Nat.mul_left_comm e, x1, x2, x3]
    omega
  rw [key, ar_div he m0]
theorem bc_s1 {b0 b1 b2 b3 : Nat} (h0 : b0 < 256) (h1 : b1 < 256) (h2 : b2 < 256) (h3 : b3 < 256) : ((b0 + 256 * b1 + 65536 * b2 + 16777216 * b3) / 2) &&& 1431655765 = (b0 / 2 &&& 85) + 256 * (b1 / 2 &&& 85) + 65536 * (b2 / 2 &&& 85) + 16777216 * (b3 / 2 &&& 85) := by
  have k : ∀ b, b < 256 → ∀ e, e < 2 → (128 * e + b / 2) &&& 85 = b / 2 &&& 85 := by decide +kernel
  have e1 : (b0 + 256 * b1 + 65536 * b2 + 16777216 * b3) / 2 = (128 * (b1 % 2) + b0 / 2) + 256 * (128 * (b2 % 2) + b1 / 2) + 65536 * (128 * (b3 % 2) + b2 / 2) + 16777216 * (b3 / 2) := ar_h (by decide) rfl
  rw [e1, show 1431655765 = 85 + 256 * 85 + 65536 * 85 + 16777216 * 85 from rfl, and4 (by omega) (by omega) (by omega) (by omega), k b0 h0 _ (by omega), k b1 h1 _ (by omega), k b2 h2 _ (by omega)]
theorem bc_s2 {b0 b1 b2 b3 : Nat} (h0 : b0 < 256) (h1 : b1 < 256) (h2 : b2 < 256) (h3 : b3 < 256) : ((b0 + 256 * b1 + 65536 * b2 + 16777216 * b3) / 4) &&& 858993459 = (b0 / 4 &&& 51) + 256 * (b1 / 4 &&& 51) + 65536 * (b2 / 4 &&& 51) + 16777216 * (b3 / 4 &&& 51) := by
  have k : ∀ b, b < 256 → ∀ e, e < 4 → (64 * e + b / 4) &&& 51 = b / 4 &&& 51 := by decide +kernel
  have e1 : (b0 + 256 * b1 + 65536 * b2 + 16777216 * b3) / 4 = (64 * (b1 % 4) + b0 / 4) + 256 * (64 * (b2 % 4) + b1 / 4) + 65536 * (64 * (b3 % 4) + b2 / 4) + 16777216 * (b3 / 4) := ar_h (by decide) rfl
  rw [e1, show 858993459 = 51 + 256 * 51 + 65536 * 51 + 16777216 * 51 from rfl, and4 (by omega) (by omega) (by omega) (by omega), k b0 h0 _ (by omega), k b1 h1 _ (by omega), k b2 h2 _ (by omega)]
theorem bc_s3 {b0 b1 b2 b3 : Nat} (h0 : b0 % 16 ≤ 4 ∧ b0 / 16 ≤ 4) (h1 : b1 % 16 ≤ 4 ∧ b1 / 16 ≤ 4) (h2 : b2 % 16 ≤ 4 ∧ b2 / 16 ≤ 4) (h3 : b3 % 16 ≤ 4 ∧ b3 / 16 ≤ 4) : ((b0 + 256 * b1 + 65536 * b2 + 16777216 * b3) + (b0 + 256 * b1 + 65536 * b2 + 16777216 * b3) / 16) &&& 252645135 = (b0 % 16 + b0 / 16) + 256 * (b1 % 16 + b1 / 16) + 65536 * (b2 % 16 + b2 / 16) + 16777216 * (b3 % 16 + b3 / 16) := by
  have k : ∀ v : Nat, v &&& 15 = v % 16 := fun v => Nat.and_two_pow_sub_one_eq_mod v 4
  have e1 : (b0 + 256 * b1 + 65536 * b2 + 16777216 * b3) + (b0 + 256 * b1 + 65536 * b2 + 16777216 * b3) / 16 = (16 * (b1 % 16) + (b0 + b0 / 16)) + 256 * (16 * (b2 % 16) + (b1 + b1 / 16)) + 65536 * (16 * (b3 % 16) + (b2 + b2 / 16)) + 16777216 * (b3 + b3 / 16) := by
    rw [ar_h (d := 16) (e := 16) (by decide) rfl]
    generalize b0 / 16 = q0
    generalize b1 / 16 = q1
    generalize b2 / 16 = q2
    generalize b3 / 16 = q3
    generalize b1 % 16 = r1
    generalize b2 % 16 = r2
    generalize b3 % 16 = r3
    clear h0 h1 h2 h3
    omega
  rw [e1, show 252645135 = 15 + 256 * 15 + 65536 * 15 + 16777216 * 15 from rfl, and4 (by omega) (by omega) (by omega) (by omega), k, k, k, k, show (16 * (b1 % 16) + (b0 + b0 / 16)) % 16 = b0 % 16 + b0 / 16 by omega, show (16 * (b2 % 16) + (b1 + b1 / 16)) % 16 = b1 % 16 + b1 / 16 by omega, show (16 * (b3 % 16) + (b2 + b2 / 16)) % 16 = b2 % 16 + b2 / 16 by omega, show (b3 + b3 / 16) % 16 = b3 % 16 + b3 / 16 by omega]
def bcA (v : Nat) : Nat := v - (v / 2 &&& 85)
def bcB (v : Nat) : Nat := (v &&& 51) + (v / 4 &&& 51)
theorem bc_byte : ∀ v, v < 256 → (v / 2 &&& 85) ≤ v ∧ bcA v < 256 ∧ bcB (bcA v) % 16 ≤ 4 ∧ bcB (bcA v) / 16 ≤ 4 ∧ bcB (bcA v) % 16 + bcB (bcA v) / 16 = fb_ct (fun i => v.testBit i) 8 := by decide +kernel
theorem tn_and (x y : Int32) : (x &&& y).toBitVec.toNat = x.toBitVec.toNat &&& y.toBitVec.toNat := by rw [Int32.toBitVec_and, BitVec.toNat_and]
theorem tn_add (x y : Int32) : (x + y).toBitVec.toNat = (x.toBitVec.toNat + y.toBitVec.toNat) % 4294967296 := by rw [Int32.toBitVec_add, BitVec.toNat_add]
theorem tn_sub {x y : Int32} (h : y.toBitVec.toNat ≤ x.toBitVec.toNat) : (x - y).toBitVec.toNat = x.toBitVec.toNat - y.toBitVec.toNat := by
  have h1 := x.toBitVec.isLt
  have h2 := y.toBitVec.isLt
  rw [Int32.toBitVec_sub, BitVec.toNat_sub]
  omega
theorem tn_inj {x : Int32} {n : Nat} (h : x.toBitVec.toNat = n) : x = nI n := by
  apply Int32.toBitVec_inj.mp
  apply BitVec.eq_of_toNat_eq
  have h1 := x.toBitVec.isLt
  rw [h, pk_tn (by omega)]
theorem bc_ct (x : Int32) : bc x = nI (fb_ct (bt x) 32) := by
  obtain ⟨n, hn⟩ : ∃ n, n = x.toBitVec.toNat := ⟨_, rfl⟩
  have hlt : n < 4294967296 := by rw [hn]; exact x.toBitVec.isLt
  obtain ⟨b0, b1, b2, b3, h0, h1, h2, h3, hs⟩ : ∃ b0 b1 b2 b3 : Nat, b0 < 256 ∧ b1 < 256 ∧ b2 < 256 ∧ b3 < 256 ∧ n = b0 + 256 * b1 + 65536 * b2 + 16777216 * b3 := ⟨n % 256, n / 256 % 256, n / 65536 % 256, n / 16777216, by omega, by omega, by omega, by omega, by omega⟩
  obtain ⟨p0, q0, r0, t0, c0⟩ := bc_byte b0 h0
  obtain ⟨p1, q1, r1, t1, c1⟩ := bc_byte b1 h1
  obtain ⟨p2, q2, r2, t2, c2⟩ := bc_byte b2 h2
  obtain ⟨p3, q3, r3, t3, c3⟩ := bc_byte b3 h3
  have hct : fb_ct (bt x) 32 = fb_ct (fun i => b0.testBit i) 8 + fb_ct (fun i => b1.testBit i) 8 + fb_ct (fun i => b2.testBit i) 8 + fb_ct (fun i => b3.testBit i) 8 := by
    have hb : ∀ i, bt x i = n.testBit i := fun i => by rw [hn]; rfl
    rw [show (32 : Nat) = 8 + (8 + (8 + 8)) from rfl, fb_ct_split, fb_ct_split, fb_ct_split, ← Nat.add_assoc, ← Nat.add_assoc]
    clear p0 q0 r0 t0 c0 p1 q1 r1 t1 c1 p2 q2 r2 t2 c2 p3 q3 r3 t3 c3
    have e0 : ∀ k, k < 8 → bt x k = b0.testBit k := fun k hk => by rw [hb, show n = 2 ^ 8 * (b1 + 256 * b2 + 65536 * b3) + b0 by omega, Nat.testBit_two_pow_mul_add _ (by omega), if_pos hk]
    have e1 : ∀ k, k < 8 → bt x (8 + k) = b1.testBit k := fun k hk => by rw [hb, show n = 2 ^ 8 * (2 ^ 8 * (b2 + 256 * b3) + b1) + b0 by omega, Nat.testBit_two_pow_mul_add _ (by omega), if_neg (by omega), Nat.testBit_two_pow_mul_add _ (by omega), if_pos (by omega), Nat.add_sub_cancel_left]
    have e2 : ∀ k, k < 8 → bt x (8 + (8 + k)) = b2.testBit k := fun k hk => by rw [hb, show n = 2 ^ 16 * (2 ^ 8 * b3 + b2) + (b0 + 256 * b1) by omega, Nat.testBit_two_pow_mul_add _ (by omega), if_neg (by omega), Nat.testBit_two_pow_mul_add _ (by omega), if_pos (by omega), show 8 + (8 + k) - 16 = k by omega]
    have e3 : ∀ k, k < 8 → bt x (8 + (8 + (8 + k))) = b3.testBit k := fun k hk => by rw [hb, show n = 2 ^ 24 * b3 + (b0 + 256 * b1 + 65536 * b2) by omega, Nat.testBit_two_pow_mul_add _ (by omega), if_neg (by omega), show 8 + (8 + (8 + k)) - 24 = k by omega]
    rw [fb_ct_cong e0, fb_ct_cong e1, fb_ct_cong e2, fb_ct_cong e3]
  have s1 : ∀ y : Int32, ∀ k, k < 32 → ((y.toUInt32 >>> ((nI k).toUInt32 &&& Int32.toUInt32 31)).toInt32).toBitVec.toNat = y.toBitVec.toNat / 2 ^ k := fun y k hk => pk_ushr y (nI k) k (s_u k hk)
  obtain ⟨i1, hi1⟩ : ∃ i1, i1 = x - ((x.toUInt32 >>> ((nI 1).toUInt32 &&& Int32.toUInt32 31)).toInt32 &&& 1431655765) := ⟨_, rfl⟩
  have m1 : ((x.toUInt32 >>> ((nI 1).toUInt32 &&& Int32.toUInt32 31)).toInt32 &&& 1431655765).toBitVec.toNat = (b0 / 2 &&& 85) + 256 * (b1 / 2 &&& 85) + 65536 * (b2 / 2 &&& 85) + 16777216 * (b3 / 2 &&& 85) := by
    rw [tn_and, s1 x 1 (by decide), ← hn, hs]
    exact bc_s1 h0 h1 h2 h3
  have n1 : i1.toBitVec.toNat = bcA b0 + 256 * bcA b1 + 65536 * bcA b2 + 16777216 * bcA b3 := by
    rw [hi1, tn_sub (by rw [m1, ← hn, hs]; exact (ar_sub p0 p1 p2 p3).1), m1, ← hn, hs]
    exact (ar_sub p0 p1 p2 p3).2
  obtain ⟨i2, hi2⟩ : ∃ i2, i2 = (i1 &&& 858993459) + ((i1.toUInt32 >>> ((nI 2).toUInt32 &&& Int32.toUInt32 31)).toInt32 &&& 858993459) := ⟨_, rfl⟩
  have n2 : i2.toBitVec.toNat = bcB (bcA b0) + 256 * bcB (bcA b1) + 65536 * bcB (bcA b2) + 16777216 * bcB (bcA b3) := by
    rw [hi2, tn_add, tn_and, tn_and, s1 i1 2 (by decide), n1]
    have a1 := bc_s2 q0 q1 q2 q3
    have a2 := and4 (b3 := bcA b3) (t := 51) q0 q1 q2 (by decide)
    have a3 : (858993459 : Int32).toBitVec.toNat = 858993459 := by decide
    rw [a3, show (2 : Nat) ^ 2 = 4 from rfl, a1, show (858993459 : Nat) = 51 + 256 * 51 + 65536 * 51 + 16777216 * 51 from rfl, a2]
    have w0 : bcB (bcA b0) ≤ 255 := by omega
    have w1 : bcB (bcA b1) ≤ 255 := by omega
    have w2 : bcB (bcA b2) ≤ 255 := by omega
    have w3 : bcB (bcA b3) ≤ 255 := by omega
    exact ar_add w0 w1 w2 w3
  obtain ⟨i3, hi3⟩ : ∃ i3, i3 = (i2 + (i2.toUInt32 >>> ((nI 4).toUInt32 &&& Int32.toUInt32 31)).toInt32) &&& 252645135 := ⟨_, rfl⟩
  have n3 : i3.toBitVec.toNat = fb_ct (fun i => b0.testBit i) 8 + 256 * fb_ct (fun i => b1.testBit i) 8 + 65536 * fb_ct (fun i => b2.testBit i) 8 + 16777216 * fb_ct (fun i => b3.testBit i) 8 := by
    rw [hi3, tn_and, tn_add, s1 i2 4 (by decide), n2, show (2 : Nat) ^ 4 = 16 from rfl, Nat.mod_eq_of_lt (by clear hct hs hn m1 n1 n2; omega), show (252645135 : Int32).toBitVec.toNat = 252645135 by decide, bc_s3 ⟨r0, t0⟩ ⟨r1, t1⟩ ⟨r2, t2⟩ ⟨r3, t3⟩, c0, c1, c2, c3]
  have l0 := fb_ct_le (fun i => b0.testBit i) 8
  have l1 := fb_ct_le (fun i => b1.testBit i) 8
  have l2 := fb_ct_le (fun i => b2.testBit i) 8
  have l3 := fb_ct_le (fun i => b3.testBit i) 8
  rw [hct]
  generalize fb_ct (fun i => b0.testBit i) 8 = k0 at *
  generalize fb_ct (fun i => b1.testBit i) 8 = k1 at *
  generalize fb_ct (fun i => b2.testBit i) 8 = k2 at *
  generalize fb_ct (fun i => b3.testBit i) 8 = k3 at *
  obtain ⟨i4, hi4⟩ : ∃ i4, i4 = i3 + (i3.toUInt32 >>> ((nI 8).toUInt32 &&& Int32.toUInt32 31)).toInt32 := ⟨_, rfl⟩
  have n4 : i4.toBitVec.toNat = (k0 + k1) + 256 * (k1 + k2) + 65536 * (k2 + k3) + 16777216 * k3 := by
    rw [hi4, tn_add, s1 i3 8 (by decide), n3, show (2 : Nat) ^ 8 = 256 from rfl]
    exact ar_8 l0 l1 l2 l3
  obtain ⟨i5, hi5⟩ : ∃ i5, i5 = i4 + (i4.toUInt32 >>> ((nI 16).toUInt32 &&& Int32.toUInt32 31)).toInt32 := ⟨_, rfl⟩
  have hbc : bc x = i5 &&& nI 63 := by rw [hi5, hi4, hi3, hi2, hi1]; rfl
  apply tn_inj
  rw [hbc, tn_and, hi5, tn_add, s1 i4 16 (by decide), n4, show (2 : Nat) ^ 16 = 65536 from rfl, show (nI 63).toBitVec.toNat = 63 by decide, show (63 : Nat) = 2 ^ 6 - 1 from rfl, Nat.and_two_pow_sub_one_eq_mod]
  exact ar_16 l0 l1 l2 l3
/-- how many of the set are below a number -/
def rk (x : Int32) (w : Nat) : Nat := fb_ct (bt x) w
theorem rk_bc (x : Int32) {w : Nat} (hw : w < 32) : bc (x &&& (sg w - nI 1)) = nI (rk x w) := by
  rw [bc_ct]
  congr 1
  have h : ∀ k, k < 32 → bt (x &&& (sg w - nI 1)) k = (bt x k && decide (k < w)) := fun k hk => by rw [b_and, bt_all w hw k hk]
  rw [fb_ct_cong h, show 32 = w + (32 - w) by omega, fb_ct_split]
  have h2 : fb_ct (fun k => bt x (w + k) && decide (w + k < w)) (32 - w) = 0 := fb_ct_zero.mpr (fun k hk => by simp)
  rw [h2, Nat.add_zero]
  exact fb_ct_cong (fun k hk => by simp [hk])
theorem rk_le (x : Int32) (w : Nat) : rk x w ≤ w := fb_ct_le _ _

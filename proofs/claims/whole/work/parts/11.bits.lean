/-! ===== Int32 by its bits: bt x i ===== -/
def bt (x : Int32) (i : Nat) : Bool := x.toBitVec.getLsbD i
theorem b_ext {x y : Int32} (h : ∀ i, i < 32 → bt x i = bt y i) : x = y := Int32.toBitVec_inj.mp (BitVec.eq_of_getLsbD_eq (fun i hi => h i hi))
theorem b_or (x y : Int32) (i : Nat) : bt (x ||| y) i = (bt x i || bt y i) := by unfold bt; rw [Int32.toBitVec_or, BitVec.getLsbD_or]
theorem b_and (x y : Int32) (i : Nat) : bt (x &&& y) i = (bt x i && bt y i) := by unfold bt; rw [Int32.toBitVec_and, BitVec.getLsbD_and]
theorem b_xor (x y : Int32) (i : Nat) : bt (x ^^^ y) i = (bt x i ^^ bt y i) := by unfold bt; rw [Int32.toBitVec_xor, BitVec.getLsbD_xor]
theorem b_big {x : Int32} {i : Nat} (h : 32 ≤ i) : bt x i = false := BitVec.getLsbD_of_ge _ _ h
theorem b_255 (i : Nat) : bt 255 i = decide (i < 8) := by
  rcases Nat.lt_or_ge i 32 with h | h
  · exact (by decide +kernel : ∀ i, i < 32 → bt 255 i = decide (i < 8)) i h
  · rw [b_big h, decide_eq_false (by omega)]
theorem b_65535 (i : Nat) : bt 65535 i = decide (i < 16) := by
  rcases Nat.lt_or_ge i 32 with h | h
  · exact (by decide +kernel : ∀ i, i < 32 → bt 65535 i = decide (i < 16)) i h
  · rw [b_big h, decide_eq_false (by omega)]
theorem b_m1 : ∀ i, i < 32 → bt (-1) i = true := by decide +kernel
theorem b_0 (i : Nat) : bt 0 i = false := BitVec.getLsbD_zero
theorem s_l : ∀ n, n < 32 → ((nI n &&& 31).toBitVec.smod 32).toNat = n := by decide +kernel
theorem s_u : ∀ n, n < 32 → (((nI n).toUInt32 &&& Int32.toUInt32 31).toBitVec % 32).toNat = n := by decide +kernel
theorem b_shl (n : Nat) (hn : n < 32) (x : Int32) {i : Nat} (hi : i < 32) : bt (x <<< (nI n &&& 31)) i = (decide (n ≤ i) && bt x (i - n)) := by
  unfold bt
  rw [Int32.toBitVec_shiftLeft]
  show (x.toBitVec <<< ((nI n &&& 31).toBitVec.smod 32).toNat).getLsbD i = _
  rw [s_l n hn, BitVec.getLsbD_shiftLeft]
  rcases Nat.lt_or_ge i n with h | h
  · simp [h, Nat.not_le.mpr h]
  · simp [hi, h, Nat.not_lt.mpr h]
theorem b_ushr (n : Nat) (hn : n < 32) (x : Int32) (i : Nat) : bt ((x.toUInt32 >>> ((nI n).toUInt32 &&& Int32.toUInt32 31)).toInt32) i = bt x (n + i) := by
  show (x.toUInt32 >>> ((nI n).toUInt32 &&& Int32.toUInt32 31)).toBitVec.getLsbD i = x.toUInt32.toBitVec.getLsbD (n + i)
  rw [UInt32.toBitVec_shiftRight]
  show (x.toUInt32.toBitVec >>> (((nI n).toUInt32 &&& Int32.toUInt32 31).toBitVec % 32).toNat).getLsbD i = _
  rw [s_u n hn, BitVec.getLsbD_ushiftRight]
theorem b_sshr (n : Nat) (hn : n < 32) (x : Int32) {i : Nat} (hi : i < 32) : bt (x >>> (nI n &&& 31)) i = if n + i < 32 then bt x (n + i) else bt x 31 := by
  unfold bt
  rw [Int32.toBitVec_shiftRight]
  show (x.toBitVec.sshiftRight ((nI n &&& 31).toBitVec.smod 32).toNat).getLsbD i = _
  rw [s_l n hn, BitVec.getLsbD_sshiftRight, BitVec.msb_eq_getLsbD_last]
  simp [hi]
/-! ===== own rows on bits ===== -/
def sg (i : Nat) : Int32 := nI 1 <<< (nI i &&& 31)
theorem bt_sg {i j : Nat} (hi : i < 32) (hj : j < 32) : bt (sg i) j = decide (i = j) := by
  have h := (by decide +kernel : ∀ i, i < 32 → ∀ j, j < 32 → bt (sg i) j = decide (i = j))
  exact h i hi j hj
theorem bt_all : ∀ n, n < 32 → ∀ j, j < 32 → bt (sg n - nI 1) j = decide (j < n) := by decide +kernel
theorem bt_n0 (j : Nat) : bt (nI 0) j = false := b_0 j
theorem bt_1 (x : Int32) (i : Nat) (hi : i < 32) : (x >>> (nI i &&& 31)) &&& nI 1 = bI (bt x i) := by
  have h1 : ∀ k, k < 32 → bt (nI 1) k = decide (k = 0) := by decide +kernel
  have h2 : ∀ b : Bool, ∀ k, k < 32 → bt (bI b) k = (decide (k = 0) && b) := by decide +kernel
  apply b_ext
  intro k hk
  rw [b_and, h1 k hk, h2 _ k hk]
  by_cases h : k = 0
  · subst h
    rw [b_sshr i hi x hk, if_pos (by omega)]
    simp
  · simp [h]
theorem k_get {a b : Nat} (h : nI b ≤ nI a) (ha : a < 2 ^ 31) (hb : b < 2 ^ 31) : b ≤ a := (nI_leI hb ha).mp h
theorem k_gef {a b : Nat} (h : ¬ nI b ≤ nI a) (ha : a < 2 ^ 31) (hb : b < 2 ^ 31) : a < b := Nat.not_le.mp (fun q => h ((nI_leI hb ha).mpr q))
theorem k_ltt {a b : Nat} (h : nI a < nI b) (ha : a < 2 ^ 31) (hb : b < 2 ^ 31) : a < b := (nI_ltI ha hb).mp h
theorem k_ltf {a b : Nat} (h : ¬ nI a < nI b) (ha : a < 2 ^ 31) (hb : b < 2 ^ 31) : b ≤ a := Nat.not_lt.mp (fun q => h ((nI_ltI ha hb).mpr q))
theorem k_gtt {a b : Nat} (h : nI b < nI a) (ha : a < 2 ^ 31) (hb : b < 2 ^ 31) : b < a := (nI_ltI hb ha).mp h
theorem k_gtf {a b : Nat} (h : ¬ nI b < nI a) (ha : a < 2 ^ 31) (hb : b < 2 ^ 31) : a ≤ b := Nat.not_lt.mp (fun q => h ((nI_ltI hb ha).mpr q))
theorem k_let {a b : Nat} (h : nI a ≤ nI b) (ha : a < 2 ^ 31) (hb : b < 2 ^ 31) : a ≤ b := (nI_leI ha hb).mp h
theorem k_lef {a b : Nat} (h : ¬ nI a ≤ nI b) (ha : a < 2 ^ 31) (hb : b < 2 ^ 31) : b < a := Nat.not_le.mp (fun q => h ((nI_leI ha hb).mpr q))
theorem k_eqt {a b : Nat} (h : nI a = nI b) (ha : a < 2 ^ 31) (hb : b < 2 ^ 31) : a = b := (nI_eq ha hb).mp h
theorem k_eqf {a b : Nat} (h : ¬ nI a = nI b) (ha : a < 2 ^ 31) (hb : b < 2 ^ 31) : ¬ a = b := fun q => h ((nI_eq ha hb).mpr q)
theorem k_net {a b : Nat} (h : ¬ nI a = nI b) (ha : a < 2 ^ 31) (hb : b < 2 ^ 31) : ¬ a = b := k_eqf h ha hb
theorem k_nef {a b : Nat} (h : nI a = nI b) (ha : a < 2 ^ 31) (hb : b < 2 ^ 31) : a = b := k_eqt h ha hb
theorem k0_eqt {a : Nat} (h : nI a = 0) (ha : a < 2 ^ 31) : a = 0 := k_eqt (b := 0) h ha (by decide)
theorem k0_eqf {a : Nat} (h : ¬ nI a = 0) (ha : a < 2 ^ 31) : ¬ a = 0 := k_eqf (b := 0) h ha (by decide)
theorem k0_net {a : Nat} (h : ¬ nI a = 0) (ha : a < 2 ^ 31) : ¬ a = 0 := k0_eqf h ha
theorem k0_nef {a : Nat} (h : nI a = 0) (ha : a < 2 ^ 31) : a = 0 := k0_eqt h ha
theorem k0_gtt {a : Nat} (h : 0 < nI a) (ha : a < 2 ^ 31) : 0 < a := k_gtt (b := 0) h ha (by decide)
theorem k0_gtf {a : Nat} (h : ¬ 0 < nI a) (ha : a < 2 ^ 31) : a ≤ 0 := k_gtf (b := 0) h ha (by decide)
theorem k0_let {a : Nat} (h : nI a ≤ 0) (ha : a < 2 ^ 31) : a ≤ 0 := k_let (b := 0) h ha (by decide)
theorem k0_lef {a : Nat} (h : ¬ nI a ≤ 0) (ha : a < 2 ^ 31) : 0 < a := k_lef (b := 0) h ha (by decide)
theorem k0_ltt {a : Nat} (h : nI a < 0) (ha : a < 2 ^ 31) : a < 0 := k_ltt (b := 0) h ha (by decide)
theorem k0_ltf {a : Nat} (h : ¬ nI a < 0) (ha : a < 2 ^ 31) : 0 ≤ a := k_ltf (b := 0) h ha (by decide)
theorem k0_get {a : Nat} (h : 0 ≤ nI a) (ha : a < 2 ^ 31) : 0 ≤ a := Nat.zero_le a
theorem k0_gef {a : Nat} (h : ¬ 0 ≤ nI a) (ha : a < 2 ^ 31) : a < 0 := k_gef (b := 0) h ha (by decide)
theorem fo_fix {α : Type} (F : α → α) (x : α) {j : Nat} (h : F (fo (fun _ => F) x j) = fo (fun _ => F) x j) : ∀ d, fo (fun _ => F) x (j + d) = fo (fun _ => F) x j
  | 0 => rfl
  | d + 1 => by
    show F (fo (fun _ => F) x (j + d)) = _
    rw [fo_fix F x h d, h]
theorem fo_fixn {α : Type} (F : α → α) (x : α) {j n : Nat} (hj : j ≤ n) (h : F (fo (fun _ => F) x j) = fo (fun _ => F) x j) : fo (fun _ => F) x n = fo (fun _ => F) x j := by
  have := fo_fix F x h (n - j)
  rwa [Nat.add_sub_cancel' hj] at this
section XSets
variable {cs : Nat → ClassId} {a b : Nat → Nat} {M : Nat → Nat → Int32} {N : Nat → Int64}

theorem xg_ar {i : Nat} (hi : i < 4) : (xc cs a M N)[4 + i]? = some (a (4 + i), .inl (cs 0, 24, .inl (M (2 + i)))) := by
  rcases (show i = 0 ∨ i = 1 ∨ i = 2 ∨ i = 3 by omega) with rfl | rfl | rfl | rfl <;> rfl
theorem xs_ar {i j : Nat} {v : Int32} (hi : i < 4) : (xc cs a M N).set (4 + i) (a (4 + i), .inl (cs 0, 24, .inl (upd (M (2 + i)) j v))) = xc cs a (wr M (2 + i) j v) N := by
  rcases (show i = 0 ∨ i = 1 ∨ i = 2 ∨ i = 3 by omega) with rfl | rfl | rfl | rfl <;> rfl
theorem xg_va {i : Nat} (hi : i < 3) : (xc cs a M N)[18 + i]? = some (a (18 + i), .inl (cs 0, 40, .inl (M (12 + i)))) := by
  rcases (show i = 0 ∨ i = 1 ∨ i = 2 by omega) with rfl | rfl | rfl <;> rfl
theorem xs_va {i j : Nat} {v : Int32} (hi : i < 3) : (xc cs a M N).set (18 + i) (a (18 + i), .inl (cs 0, 40, .inl (upd (M (12 + i)) j v))) = xc cs a (wr M (12 + i) j v) N := by
  rcases (show i = 0 ∨ i = 1 ∨ i = 2 by omega) with rfl | rfl | rfl <;> rfl
theorem xg_sc {i : Nat} (hi : i < 4) : (xc cs a M N)[24 + i]? = some (a (24 + i), .inl (cs 0, 24, .inl (M (16 + i)))) := by
  rcases (show i = 0 ∨ i = 1 ∨ i = 2 ∨ i = 3 by omega) with rfl | rfl | rfl | rfl <;> rfl
theorem xs_sc {i j : Nat} {v : Int32} (hi : i < 4) : (xc cs a M N).set (24 + i) (a (24 + i), .inl (cs 0, 24, .inl (upd (M (16 + i)) j v))) = xc cs a (wr M (16 + i) j v) N := by
  rcases (show i = 0 ∨ i = 1 ∨ i = 2 ∨ i = 3 by omega) with rfl | rfl | rfl | rfl <;> rfl
theorem xs_2 {j : Nat} {v : Int32} : (xc cs a M N).set 2 (a 2, .inl (cs 0, 24, .inl (upd (M 1) j v))) = xc cs a (wr M 1 j v) N := rfl
theorem xs_9 {j : Nat} {v : Int32} : (xc cs a M N).set 9 (a 9, .inl (cs 0, 40, .inl (upd (M 6) j v))) = xc cs a (wr M 6 j v) N := rfl
theorem xs_10 {j : Nat} {v : Int32} : (xc cs a M N).set 10 (a 10, .inl (cs 0, 40, .inl (upd (M 7) j v))) = xc cs a (wr M 7 j v) N := rfl
theorem xs_11 {j : Nat} {v : Int32} : (xc cs a M N).set 11 (a 11, .inl (cs 0, 40, .inl (upd (M 8) j v))) = xc cs a (wr M 8 j v) N := rfl
theorem xs_12 {j : Nat} {v : Int32} : (xc cs a M N).set 12 (a 12, .inl (cs 0, 40, .inl (upd (M 9) j v))) = xc cs a (wr M 9 j v) N := rfl
theorem xs_13 {j : Nat} {v : Int32} : (xc cs a M N).set 13 (a 13, .inl (cs 0, 40, .inl (upd (M 10) j v))) = xc cs a (wr M 10 j v) N := rfl
theorem xs_14 {j : Nat} {v : Int32} : (xc cs a M N).set 14 (a 14, .inl (cs 0, 40, .inl (upd (M 11) j v))) = xc cs a (wr M 11 j v) N := rfl
theorem xs_22 {j : Nat} {v : Int32} : (xc cs a M N).set 22 (a 22, .inl (cs 0, 24, .inl (upd (M 15) j v))) = xc cs a (wr M 15 j v) N := rfl
theorem xs_28 {j : Nat} {v : Int32} : (xc cs a M N).set 28 (a 28, .inl (cs 0, 24, .inl (upd (M 20) j v))) = xc cs a (wr M 20 j v) N := rfl
theorem rs_1 {j : Nat} {v : Int32} : (rc cs b M).set 1 (b 1, .inl (cs 0, 24, .inl (upd (M 1) j v))) = rc cs b (wr M 1 j v) := rfl
theorem rs_2 {j : Nat} {v : Int32} : (rc cs b M).set 2 (b 2, .inl (cs 0, 96, .inl (upd (M 2) j v))) = rc cs b (wr M 2 j v) := rfl
theorem rs_3 {j : Nat} {v : Int32} : (rc cs b M).set 3 (b 3, .inl (cs 0, 40, .inl (upd (M 3) j v))) = rc cs b (wr M 3 j v) := rfl
theorem rs_4 {j : Nat} {v : Int32} : (rc cs b M).set 4 (b 4, .inl (cs 0, 40, .inl (upd (M 4) j v))) = rc cs b (wr M 4 j v) := rfl
theorem rs_5 {j : Nat} {v : Int32} : (rc cs b M).set 5 (b 5, .inl (cs 0, 40, .inl (upd (M 5) j v))) = rc cs b (wr M 5 j v) := rfl
theorem rs_6 {j : Nat} {v : Int32} : (rc cs b M).set 6 (b 6, .inl (cs 0, 40, .inl (upd (M 6) j v))) = rc cs b (wr M 6 j v) := rfl
theorem rs_7 {j : Nat} {v : Int32} : (rc cs b M).set 7 (b 7, .inl (cs 0, 40, .inl (upd (M 7) j v))) = rc cs b (wr M 7 j v) := rfl
theorem rs_8 {j : Nat} {v : Int32} : (rc cs b M).set 8 (b 8, .inl (cs 0, 3, .inl (upd (M 8) j v))) = rc cs b (wr M 8 j v) := rfl
theorem rs_9 {j : Nat} {v : Int32} : (rc cs b M).set 9 (b 9, .inl (cs 3, 120, .inl (upd (M 9) j v))) = rc cs b (wr M 9 j v) := rfl
theorem rs_10 {j : Nat} {v : Int32} : (rc cs b M).set 10 (b 10, .inl (cs 0, 120, .inl (upd (M 10) j v))) = rc cs b (wr M 10 j v) := rfl
theorem rs_11 {j : Nat} {v : Int32} : (rc cs b M).set 11 (b 11, .inl (cs 0, 24, .inl (upd (M 11) j v))) = rc cs b (wr M 11 j v) := rfl
end XSets
section XRows2
variable {p : Program} {l : Launch} {e : Env} {R : Room} {s : State} {m : MethodId} {args : Array Value} {below : List Frame} {meth : Method} {c : Code} {H H0 : Heap} {locs : List Loc} {cells slots : Nat} {Q : State → Prop} {pc : Nat} {ls : Array Slot} {rest : List Value} {cc : ByteArray} {D : va_G} {cl : List vw_C} {tys : List (ClassId × FieldType)} {ws : va_W} {A : Nat → Prop} {cs : Nat → ClassId} {a : Nat}
theorem xput (hexec : p.tables.exec = Jvm.exec) (hb : c.code = cc) {own ref C : String} {T : u_T} {N ci index : Nat} {Ts : List Cond} {ws' : va_W} (hts : ∀ w ∈ Ts, w.before args s = true) (hin : ∀ w ∈ u_ws C T N, w ∈ Ts) (ty0 : Nat → FieldType) (hty : ∀ k, k < N → parseFieldDescriptor (T k).2.2.1 = some (ty0 k)) (hnm : ∀ a, a < N → ∀ b, b < N → a ≠ b → (T a).2.1 ≠ (T b).2.1) (hown : s.vm.findClass own = some m.cls) (hK : va_K D cl tys s) (hP : va_P D cl ws H) (hD : va_D A ws) (hS0 : va_S A H0 H locs) (q0 : Nat) {fs : List Value} (he : ws[q0]? = some (a, .inr (ci, fs))) (hc : cl[ci]? = some (C, T, N)) (k : Nat) (hk : k < N) (hlink : (Cond.fieldLink own index ref (T k).2.1 (T k).2.2.1).before args s = true) (hsame : ∀ x, s.fieldFound? (T k).1 (T k).2.1 (T k).2.2.1 = some x → s.fieldFound? ref (T k).2.1 (T k).2.2.1 = some x) (hfin : (T k).2.2.2 = false) {ty : FieldType} {v : Value} (hd : parseFieldDescriptor (T k).2.2.1 = some ty) (hn : narrow ty v = v) (hfit : fits ty v = true) (hl : k < fs.length) (hset : ws.set q0 (a, .inr (ci, fs.set k v)) = ws')
    (hdg : decode cc pc = .ok (.putfield index, 3)) (kk : ∀ (H1 : Heap) (locs1 : List Loc), va_P D cl ws' H1 → va_S A H0 H1 locs1 → W p l e R s m args below meth c H1 locs1 cells slots Q (F0 m (pc + 3) ls rest)) : W p l e R s m args below meth c H locs cells slots Q (F0 m pc ls (v :: .ref a :: rest)) :=
  va_put hexec hb hts hin ty0 hty hnm hown hK hP hD hS0 q0 he hc k hk hlink hsame hfin hd hn hfit hl hdg (fun H1 locs1 h1 _ h3 => kk H1 locs1 (by rw [← hset]; exact h1) h3)
end XRows2

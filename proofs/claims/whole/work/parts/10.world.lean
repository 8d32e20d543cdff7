/-! The two worlds (the class's and the reference's) as lists of cells over functions; own rows over the kit's. -/
def wr (M : Nat → Nat → Int32) (i j : Nat) (v : Int32) : Nat → Nat → Int32 := fun a => if a = i then upd (M i) j v else M a
/-- the class: places 0 KnowledgeModel; 1 Worlds, 2 atomsAt, 3 arrows (4 to 7); 8 Formulas, 9 to 14 its int arrays, 15 neededFor; 16 Truth, 17 values (18 to 20); 21 Likeness, 22 classOf, 23 seenClasses (24 to 27), 28 finerClassOf.
M 0: count, actualWorld, formulas' count; M 1 atomsAt; M 2 to 5 arrows; M 6 to 11 kindOf, subjectOf, firstOf, secondOf, depthOf, nestingOf; M 12 to 14 values; M 15 classOf; M 16 to 19 seenClasses; M 20 finerClassOf; N neededFor -/
def xc (cs : Nat → ClassId) (a : Nat → Nat) (M : Nat → Nat → Int32) (N : Nat → Int64) : va_W :=
  [(a 0, .inr (4, [.ref (a 1), .ref (a 8), .ref (a 16), .ref (a 21)])),
   (a 1, .inr (3, [.ref (a 2), .ref (a 3), .int (M 0 0), .int (M 0 1)])),
   (a 2, .inl (cs 0, 24, .inl (M 1))),
   (a 3, .inl (cs 2, 4, .inr (.inr (.inr (.inr (fun i => some (a (4 + i)))))))),
   (a 4, .inl (cs 0, 24, .inl (M 2))), (a 5, .inl (cs 0, 24, .inl (M 3))), (a 6, .inl (cs 0, 24, .inl (M 4))), (a 7, .inl (cs 0, 24, .inl (M 5))),
   (a 8, .inr (0, [.ref (a 9), .ref (a 10), .ref (a 11), .ref (a 12), .ref (a 13), .ref (a 14), .ref (a 15), .int (M 0 2)])),
   (a 9, .inl (cs 0, 40, .inl (M 6))), (a 10, .inl (cs 0, 40, .inl (M 7))), (a 11, .inl (cs 0, 40, .inl (M 8))), (a 12, .inl (cs 0, 40, .inl (M 9))), (a 13, .inl (cs 0, 40, .inl (M 10))), (a 14, .inl (cs 0, 40, .inl (M 11))),
   (a 15, .inl (cs 1, 40, .inr (.inl N))),
   (a 16, .inr (2, [.ref (a 1), .ref (a 8), .ref (a 17)])),
   (a 17, .inl (cs 2, 3, .inr (.inr (.inr (.inr (fun i => some (a (18 + i)))))))),
   (a 18, .inl (cs 0, 40, .inl (M 12))), (a 19, .inl (cs 0, 40, .inl (M 13))), (a 20, .inl (cs 0, 40, .inl (M 14))),
   (a 21, .inr (1, [.ref (a 1), .ref (a 22), .ref (a 23), .ref (a 28)])),
   (a 22, .inl (cs 0, 24, .inl (M 15))),
   (a 23, .inl (cs 2, 4, .inr (.inr (.inr (.inr (fun i => some (a (24 + i)))))))),
   (a 24, .inl (cs 0, 24, .inl (M 16))), (a 25, .inl (cs 0, 24, .inl (M 17))), (a 26, .inl (cs 0, 24, .inl (M 18))), (a 27, .inl (cs 0, 24, .inl (M 19))),
   (a 28, .inl (cs 0, 24, .inl (M 20)))]
/-- the reference: place 0 the object, 1 atoms, 2 seen, 3 kinds, 4 firsts, 5 seconds, 6 depths, 7 nestings, 8 lefts, 9 areKnown, 10 truths, 11 likes; R 0: thrown, worlds, actual, formulas; R k: the array at place k -/
def rc (cs : Nat → ClassId) (b : Nat → Nat) (R : Nat → Nat → Int32) : va_W :=
  [(b 0, .inr (5, [.int (R 0 0), .int (R 0 1), .int (R 0 2), .ref (b 1), .ref (b 2), .int (R 0 3), .ref (b 3), .ref (b 4), .ref (b 5), .ref (b 6), .ref (b 7), .ref (b 8), .ref (b 9), .ref (b 10), .ref (b 11)])),
   (b 1, .inl (cs 0, 24, .inl (R 1))), (b 2, .inl (cs 0, 96, .inl (R 2))), (b 3, .inl (cs 0, 40, .inl (R 3))), (b 4, .inl (cs 0, 40, .inl (R 4))), (b 5, .inl (cs 0, 40, .inl (R 5))), (b 6, .inl (cs 0, 40, .inl (R 6))), (b 7, .inl (cs 0, 40, .inl (R 7))), (b 8, .inl (cs 0, 3, .inl (R 8))), (b 9, .inl (cs 3, 120, .inl (R 9))), (b 10, .inl (cs 0, 120, .inl (R 10))), (b 11, .inl (cs 0, 24, .inl (R 11)))]
def ty5 (cs : Nat → ClassId) : List (ClassId × FieldType) := [(cs 0, .int), (cs 1, .long), (cs 2, .array .int), (cs 3, .boolean), (cs 4, .double)]
/-- the words of the calls between nest mates -/
def xN (U : State) : Prop :=
  va_Nw (.methodLinkNest RX0 52 yX4_mixed RX4) U ∧ va_Nw (.methodLinkNest RX1 47 yX4_contains RX4) U ∧ va_Nw (.methodLinkNest RX1 51 yX4_single RX4) U ∧ va_Nw (.methodLinkNest RX2 70 yX4_contains RX4) U ∧ va_Nw (.methodLinkNest RX2 78 yX4_single RX4) U ∧ va_Nw (.methodLinkNest RX3 45 yX4_single RX4) U ∧ va_Nw (.methodLinkNest RX3 27 yX4_contains RX4) U ∧ va_Nw (.methodLinkNest RX3 48 yX4_renumbered RX4) U ∧ va_Nw (.methodLinkNest RX3 51 yX4_rankIn RX4) U ∧ va_Nw (.methodLinkNest RX3 69 yX4_mixed RX4) U
theorem xN.warm {s U : State} (h : xN s) (hW : s.WarmedH U.vm) : xN U := by
  obtain ⟨h0, h1, h2, h3, h4, h5, h6, h7, h8, h9⟩ := h
  exact ⟨va_Nw.warmM hW h0, va_Nw.warmM hW h1, va_Nw.warmM hW h2, va_Nw.warmM hW h3, va_Nw.warmM hW h4, va_Nw.warmM hW h5, va_Nw.warmM hW h6, va_Nw.warmM hW h7, va_Nw.warmM hW h8, va_Nw.warmM hW h9⟩
theorem xN.same {s U : State} (h : xN s) (hW : s.vm = U.vm) : xN U := by
  obtain ⟨h0, h1, h2, h3, h4, h5, h6, h7, h8, h9⟩ := h
  exact ⟨va_Nw.same rfl hW h0, va_Nw.same rfl hW h1, va_Nw.same rfl hW h2, va_Nw.same rfl hW h3, va_Nw.same rfl hW h4, va_Nw.same rfl hW h5, va_Nw.same rfl hW h6, va_Nw.same rfl hW h7, va_Nw.same rfl hW h8, va_Nw.same rfl hW h9⟩
/-- what the tables say -/
def xK (D : va_G) (cs : Nat → ClassId) (U : State) : Prop := va_K D vwCl (ty5 cs) U ∧ xN U
theorem xK.warm {D : va_G} {cs : Nat → ClassId} {s U : State} (h : xK D cs s) (hW : s.WarmedH U.vm) : xK D cs U := ⟨va_K.moved hW.alike h.1, h.2.warm hW⟩
/-- the cells ws, and what the tables say -/
def XB (D : va_G) (cs : Nat → ClassId) (ws : va_W) (U : State) : Prop := va_P D vwCl ws U.heap ∧ xK D cs U
/-- the same, and the heap's size -/
def XBs (D : va_G) (cs : Nat → ClassId) (ws : va_W) (sz : Nat) (U : State) : Prop := U.heap.size = sz ∧ va_P D vwCl ws U.heap ∧ xK D cs U
def kA (a : Nat → Nat) (n sz : Nat) : Nat → Prop := fun q => (∃ k, k < n ∧ a k = q) ∨ sz ≤ q
def kI (a : Nat → Nat) (n : Nat) : Prop := ∀ i j, i < n → j < n → a i = a j → i = j
theorem kD {a : Nat → Nat} {n : Nat} {A : Nat → Prop} {ws : va_W} (hI : kI a n) (hA : ∀ k, k < n → A (a k)) (hw : ws.map Prod.fst = (List.range n).map a) : va_D A ws := by
  have key : ∀ (k : Nat) (q : Nat × va_E), ws[k]? = some q → k < n ∧ q.1 = a k := by
    intro k q hk
    have h1 : (ws.map Prod.fst)[k]? = some q.1 := by rw [List.getElem?_map, hk]; rfl
    rw [hw, List.getElem?_map] at h1
    have hkn : k < n := by
      rcases Nat.lt_or_ge k n with h | h
      · exact h
      · rw [List.getElem?_eq_none (by rw [List.length_range]; exact h)] at h1; cases h1
    rw [List.getElem?_range hkn] at h1
    exact ⟨hkn, (Option.some.inj h1).symm⟩
  refine ⟨fun i j p q hi hj e => ?_, fun k q hk => ?_⟩
  · obtain ⟨h1, h2⟩ := key i p hi
    obtain ⟨h3, h4⟩ := key j q hj
    exact hI i j h1 h3 (by rw [← h2, ← h4]; exact e)
  · obtain ⟨h1, h2⟩ := key k q hk
    rw [h2]; exact hA k h1
theorem xD {cs : Nat → ClassId} {a : Nat → Nat} {M : Nat → Nat → Int32} {N : Nat → Int64} {sz : Nat} (hI : kI a 29) : va_D (kA a 29 sz) (xc cs a M N) := kD hI (fun k hk => Or.inl ⟨k, hk, rfl⟩) rfl
theorem rD {cs : Nat → ClassId} {b : Nat → Nat} {R : Nat → Nat → Int32} {sz : Nat} (hI : kI b 12) : va_D (kA b 12 sz) (rc cs b R) := kD hI (fun k hk => Or.inl ⟨k, hk, rfl⟩) rfl
theorem kAn {a : Nat → Nat} {n sz : Nat} : ∀ q, sz ≤ q → kA a n sz q := fun _ h => Or.inr h
theorem kAle {a : Nat → Nat} {n sz sz2 : Nat} (h : sz ≤ sz2) : ∀ q, kA a n sz2 q → kA a n sz q := fun _ h2 => h2.elim Or.inl (fun h3 => Or.inr (Nat.le_trans h h3))
/-- a state's sizes and bounds as numbers -/
theorem wr_row {M : Nat → Nat → Int32} {i j : Nat} {v : Int32} {k : Nat} (h : k ≠ i) : wr M i j v k = M k := if_neg h
theorem wr_at {M : Nat → Nat → Int32} {i j : Nat} {v : Int32} : wr M i j v i = upd (M i) j v := if_pos rfl
theorem wr_same {M : Nat → Nat → Int32} {i j : Nat} {v : Int32} : wr M i j v i j = v := by rw [wr_at]; exact if_pos rfl
theorem wr_ne {M : Nat → Nat → Int32} {i j : Nat} {v : Int32} {k q : Nat} (h : k ≠ i ∨ q ≠ j) : wr M i j v k q = M k q := by
  by_cases hk : k = i
  · subst hk
    rw [wr_at]
    exact if_neg (h.resolve_left (fun f => f rfl))
  · rw [wr_row hk]
theorem wr_eq (M : Nat → Nat → Int32) (i j : Nat) (v : Int32) (k q : Nat) : wr M i j v k q = if k = i ∧ q = j then v else M k q := by
  by_cases h : k = i ∧ q = j
  · rw [if_pos h, h.1, h.2, wr_same]
  · rw [if_neg h, wr_ne]
    by_cases hk : k = i
    · exact Or.inr (fun hq => h ⟨hk, hq⟩)
    · exact Or.inl hk
def bI (b : Bool) : Int32 := if b then 1 else 0
theorem bI_t : bI true = 1 := rfl
theorem bI_f : bI false = 0 := rfl
theorem bI_0 {b : Bool} (h : bI b = 0) : b = false := by cases b <;> first | rfl | exact absurd h (by decide)
theorem bI_n0 {b : Bool} (h : ¬ bI b = 0) : b = true := by cases b <;> first | rfl | exact absurd rfl h
theorem bI_nar (b : Bool) : narrow .boolean (.int (bI b)) = .int (bI b) := by cases b <;> decide
def fo {α : Type} (f : Nat → α → α) (x : α) : Nat → α | 0 => x | n + 1 => f n (fo f x n)
theorem fo_0 {α : Type} (f : Nat → α → α) (x : α) : fo f x 0 = x := rfl
theorem fo_s {α : Type} (f : Nat → α → α) (x : α) (n : Nat) : fo f x (n + 1) = f n (fo f x n) := rfl
def allB (p : Nat → Bool) : Nat → Bool | 0 => true | n + 1 => allB p n && p n
theorem allB_iff {p : Nat → Bool} : ∀ {n : Nat}, allB p n = true ↔ ∀ k, k < n → p k = true
  | 0 => ⟨fun _ k h => absurd h (Nat.not_lt_zero k), fun _ => rfl⟩
  | n + 1 => by
    show (allB p n && p n) = true ↔ _
    rw [Bool.and_eq_true, allB_iff (n := n)]
    refine ⟨fun h k hk => ?_, fun h => ⟨fun k hk => h k (Nat.lt_succ_of_lt hk), h n (Nat.lt_succ_self n)⟩⟩
    rcases Nat.lt_or_ge k n with q | q
    · exact h.1 k q
    · have : k = n := by omega
      rw [this]; exact h.2
theorem allB_not {p : Nat → Bool} {n k : Nat} (hk : k < n) (h : p k = false) : allB p n = false := by
  cases e : allB p n with
  | false => rfl
  | true => rw [allB_iff.mp e k hk] at h; cases h
theorem lzero {ls : Array Slot} {nL : Nat} {l : List (Nat × Value)} (h : lv_has ls nL l) : lv_has ls nL [] := ⟨h.1, h.2.1, fun _ h => absurd h List.not_mem_nil⟩
theorem lcons {ls : Array Slot} {nL : Nat} {l l2 : List (Nat × Value)} (h2 : lv_has ls nL l2) (h : lv_has ls nL l) (k : Nat) {i : Nat} {v v' : Value} (hk : l[k]? = some (i, v)) (e : v = v') : lv_has ls nL ((i, v') :: l2) := by
  subst e
  refine ⟨h2.1, h2.2.1, fun q hq => ?_⟩
  rcases List.mem_cons.mp hq with rfl | hq
  · exact lv_at h k hk
  · exact h2.2.2 q hq
section XRows
variable {p : Program} {l : Launch} {e : Env} {R : Room} {s : State} {m : MethodId} {args : Array Value} {below : List Frame} {meth : Method} {c : Code} {H H0 : Heap} {locs : List Loc} {cells slots : Nat} {Q : State → Prop} {pc : Nat} {ls : Array Slot} {rest : List Value} {cc : ByteArray} {D : va_G} {cl : List vw_C} {tys : List (ClassId × FieldType)} {ws : va_W} {A : Nat → Prop} {cs : Nat → ClassId}
theorem W_Q {g : JFrame} {Q0 : State → Prop} (h : ∀ Q, Q0 = Q → W p l e R s m args below meth c H locs cells slots Q g) : W p l e R s m args below meth c H locs cells slots Q0 g := h Q0 rfl
/-- the number on the stack by another name -/
theorem xtop {x y : Int32} (h : x = y) (k : W p l e R s m args below meth c H locs cells slots Q (F0 m pc ls (.int y :: rest))) : W p l e R s m args below meth c H locs cells slots Q (F0 m pc ls (.int x :: rest)) := by rw [h]; exact k
theorem xtop2 {x y z : Int32} (h : x = y) (k : W p l e R s m args below meth c H locs cells slots Q (F0 m pc ls (.int z :: .int y :: rest))) : W p l e R s m args below meth c H locs cells slots Q (F0 m pc ls (.int z :: .int x :: rest)) := by rw [h]; exact k
theorem xiadd {a b : Nat} (hexec : p.tables.exec = Jvm.exec) (hb : c.code = cc) (hdg : decode cc pc = .ok (.iadd, 1)) (k : W p l e R s m args below meth c H locs cells slots Q (F0 m (pc + 1) ls (.int (nI (a + b)) :: rest))) : W p l e R s m args below meth c H locs cells slots Q (F0 m pc ls (.int (nI b) :: .int (nI a) :: rest)) := lv_iadd hexec hb hdg (by rw [nI_add]; exact k)
theorem ximul {a b : Nat} (hexec : p.tables.exec = Jvm.exec) (hb : c.code = cc) (hdg : decode cc pc = .ok (.imul, 1)) (k : W p l e R s m args below meth c H locs cells slots Q (F0 m (pc + 1) ls (.int (nI (a * b)) :: rest))) : W p l e R s m args below meth c H locs cells slots Q (F0 m pc ls (.int (nI b) :: .int (nI a) :: rest)) := lv_imul hexec hb hdg (by rw [pk_mul]; exact k)
theorem xiald {j n q0 t0 : Nat} {ad : Nat} {cA : ClassId} {f : Nat → Int32} (hexec : p.tables.exec = Jvm.exec) (hb : c.code = cc) (hK : va_K D cl tys s) (hP : va_P D cl ws H) (ha : ws[q0]? = some (ad, .inl (cA, n, .inl f))) (ht : tys[t0]? = some (cA, .int)) (hj : j < n) (hn : n < 1000) (hdg : decode cc pc = .ok (.iaload, 1))
    (kk : W p l e R s m args below meth c H locs cells slots Q (F0 m (pc + 1) ls (.int (f j) :: rest))) : W p l e R s m args below meth c H locs cells slots Q (F0 m pc ls (.int (nI j) :: .ref ad :: rest)) :=
  va_iald hexec hb hK hP q0 t0 ha ht (vp_in_nI hj (by omega)) hdg (by rw [nI_clamp (by omega)]; exact kk)
theorem xlald {j n q0 t0 : Nat} {ad : Nat} {cA : ClassId} {f : Nat → Int64} (hexec : p.tables.exec = Jvm.exec) (hb : c.code = cc) (hK : va_K D cl tys s) (hP : va_P D cl ws H) (ha : ws[q0]? = some (ad, .inl (cA, n, .inr (.inl f)))) (ht : tys[t0]? = some (cA, .long)) (hj : j < n) (hn : n < 1000) (hdg : decode cc pc = .ok (.laload, 1))
    (kk : W p l e R s m args below meth c H locs cells slots Q (F0 m (pc + 1) ls (.long (f j) :: rest))) : W p l e R s m args below meth c H locs cells slots Q (F0 m pc ls (.int (nI j) :: .ref ad :: rest)) :=
  va_lald hexec hb hK hP q0 t0 ha ht (vp_in_nI hj (by omega)) hdg (by rw [nI_clamp (by omega)]; exact kk)
theorem xzald {j n q0 t0 : Nat} {ad : Nat} {cA : ClassId} {f : Nat → Int32} (hexec : p.tables.exec = Jvm.exec) (hb : c.code = cc) (hK : va_K D cl tys s) (hP : va_P D cl ws H) (ha : ws[q0]? = some (ad, .inl (cA, n, .inl f))) (ht : tys[t0]? = some (cA, .boolean)) (hj : j < n) (hn : n < 1000) (hdg : decode cc pc = .ok (.baload, 1))
    (kk : W p l e R s m args below meth c H locs cells slots Q (F0 m (pc + 1) ls (.int (f j) :: rest))) : W p l e R s m args below meth c H locs cells slots Q (F0 m pc ls (.int (nI j) :: .ref ad :: rest)) :=
  va_zald hexec hb hK hP q0 t0 ha ht (vp_in_nI hj (by omega)) hdg (by rw [nI_clamp (by omega)]; exact kk)
/-- a row of an array of int arrays -/
theorem xaald {j n q0 t0 : Nat} {ad : Nat} {cA : ClassId} {f : Nat → Nat} (hexec : p.tables.exec = Jvm.exec) (hb : c.code = cc) (hK : va_K D cl tys s) (hP : va_P D cl ws H) (ha : ws[q0]? = some (ad, .inl (cA, n, .inr (.inr (.inr (.inr (fun i => some (f i)))))))) (ht : tys[t0]? = some (cA, .array .int)) (hj : j < n) (hn : n < 1000) (hdg : decode cc pc = .ok (.aaload, 1))
    (kk : W p l e R s m args below meth c H locs cells slots Q (F0 m (pc + 1) ls (.ref (f j) :: rest))) : W p l e R s m args below meth c H locs cells slots Q (F0 m pc ls (.int (nI j) :: .ref ad :: rest)) := by
  have hin : vp_in (nI j) n := vp_in_nI hj (by omega)
  have hcl : (nI j).toNatClampNeg = j := nI_clamp (by omega)
  exact W.aald (v := .ref (f j)) (ty := .array .int) hexec hb (hP q0 _ ha) ((hK.2 t0 _ ht).1 n (fun i => va_rf (some (f i)))) rfl (fun q => by cases q) (by show ¬ (nI j < 0 ∨ (arrV _ _ _).slots.size ≤ _); rw [arrV_size]; exact hin) (by show (arrV _ _ _).slots[_]? = _; rw [hcl, arrV_read _ _ hj]; rfl) rfl rfl hdg kk
theorem xiast {j n q0 t0 : Nat} {ad : Nat} {cA : ClassId} {f : Nat → Int32} {x : Int32} {ws' : va_W} (hexec : p.tables.exec = Jvm.exec) (hb : c.code = cc) (hK : va_K D cl tys s) (hP : va_P D cl ws H) (hD : va_D A ws) (hS : va_S A H0 H locs) (ha : ws[q0]? = some (ad, .inl (cA, n, .inl f))) (ht : tys[t0]? = some (cA, .int)) (hj : j < n) (hn : n < 1000) (hset : ws.set q0 (ad, .inl (cA, n, .inl (upd f j x))) = ws') (hdg : decode cc pc = .ok (.iastore, 1))
    (kk : ∀ (H1 : Heap) (locs1 : List Loc), va_P D cl ws' H1 → va_S A H0 H1 locs1 → W p l e R s m args below meth c H1 locs1 cells slots Q (F0 m (pc + 1) ls rest)) : W p l e R s m args below meth c H locs cells slots Q (F0 m pc ls (.int x :: .int (nI j) :: .ref ad :: rest)) :=
  va_iast hexec hb hK hP hD hS q0 t0 ha ht (vp_in_nI hj (by omega)) hdg (fun H1 locs1 h1 _ h3 => kk H1 locs1 (by rw [nI_clamp (by omega)] at h1; rw [← hset]; exact h1) h3)
theorem xlast {j n q0 t0 : Nat} {ad : Nat} {cA : ClassId} {f : Nat → Int64} {x : Int64} {ws' : va_W} (hexec : p.tables.exec = Jvm.exec) (hb : c.code = cc) (hK : va_K D cl tys s) (hP : va_P D cl ws H) (hD : va_D A ws) (hS : va_S A H0 H locs) (ha : ws[q0]? = some (ad, .inl (cA, n, .inr (.inl f)))) (ht : tys[t0]? = some (cA, .long)) (hj : j < n) (hn : n < 1000) (hset : ws.set q0 (ad, .inl (cA, n, .inr (.inl (vp_updL f j x)))) = ws') (hdg : decode cc pc = .ok (.lastore, 1))
    (kk : ∀ (H1 : Heap) (locs1 : List Loc), va_P D cl ws' H1 → va_S A H0 H1 locs1 → W p l e R s m args below meth c H1 locs1 cells slots Q (F0 m (pc + 1) ls rest)) : W p l e R s m args below meth c H locs cells slots Q (F0 m pc ls (.long x :: .int (nI j) :: .ref ad :: rest)) :=
  va_last hexec hb hK hP hD hS q0 t0 ha ht (vp_in_nI hj (by omega)) hdg (fun H1 locs1 h1 _ h3 => kk H1 locs1 (by rw [nI_clamp (by omega)] at h1; rw [← hset]; exact h1) h3)
theorem xzast {j n q0 t0 : Nat} {ad : Nat} {cA : ClassId} {f : Nat → Int32} {x : Int32} {ws' : va_W} (hexec : p.tables.exec = Jvm.exec) (hb : c.code = cc) (hK : va_K D cl tys s) (hP : va_P D cl ws H) (hD : va_D A ws) (hS : va_S A H0 H locs) (ha : ws[q0]? = some (ad, .inl (cA, n, .inl f))) (ht : tys[t0]? = some (cA, .boolean)) (hj : j < n) (hn : n < 1000) (hx : vp_nar .boolean x = x) (hset : ws.set q0 (ad, .inl (cA, n, .inl (upd f j x))) = ws') (hdg : decode cc pc = .ok (.bastore, 1))
    (kk : ∀ (H1 : Heap) (locs1 : List Loc), va_P D cl ws' H1 → va_S A H0 H1 locs1 → W p l e R s m args below meth c H1 locs1 cells slots Q (F0 m (pc + 1) ls rest)) : W p l e R s m args below meth c H locs cells slots Q (F0 m pc ls (.int x :: .int (nI j) :: .ref ad :: rest)) :=
  va_zast hexec hb hK hP hD hS q0 t0 ha ht (vp_in_nI hj (by omega)) hdg (fun H1 locs1 h1 _ h3 => kk H1 locs1 (by rw [nI_clamp (by omega), hx] at h1; rw [← hset]; exact h1) h3)
theorem xblind {av : List Value} : FrameBlind (va_Pc av (XB D cs ws)) := fun _ U g mk h => ⟨h.1, h.2.1, ⟨va_K.moved (u := U) (U := U.calling g mk _) (Vm.Alike.refl U.vm) h.2.2.1, h.2.2.2.same rfl⟩⟩
theorem xblindS {av : List Value} {sz : Nat} : FrameBlind (va_Pc av (XBs D cs ws sz)) := fun _ U g mk h => ⟨h.1, h.2.1, h.2.2.1, ⟨va_K.moved (u := U) (U := U.calling g mk _) (Vm.Alike.refl U.vm) h.2.2.2.1, h.2.2.2.2.same rfl⟩⟩
theorem xpreN {av : List Value} : PreS s H (va_Pc av (fun _ => True)) av := ⟨fun _ _ _ _ h => h, fun _ _ _ => ⟨rfl, trivial⟩⟩
theorem xpreS {av : List Value} (hP : va_P D vwCl ws H) (hK : xK D cs s) : PreS s H (va_Pc av (XB D cs ws)) av := ⟨xblind, fun _ hU hW => ⟨rfl, by rw [hU]; exact hP, hK.warm hW⟩⟩
theorem xpreSs {av : List Value} (hP : va_P D vwCl ws H) (hK : xK D cs s) : PreS s H (va_Pc av (XBs D cs ws H.size)) av := ⟨xblindS, fun _ hU hW => ⟨rfl, by rw [hU], by rw [hU]; exact hP, hK.warm hW⟩⟩
theorem xpreV {b : Nat} {As : List Value} {ci : Nat} {q : vw_C} {fs : List Value} (hP : va_P D vwCl ws H) (hK : xK D cs s) (q0 : Nat) (hc : vwCl[ci]? = some q) (he : ws[q0]? = some (b, .inr (ci, fs))) : PreV s H q.1 b (va_Pc (.ref b :: As) (XB D cs ws)) As := ⟨xblind, va_recv hK.1 hP hc he, fun _ hU hW => ⟨rfl, by rw [hU]; exact hP, hK.warm hW⟩⟩
theorem xpreVs {b : Nat} {As : List Value} {ci : Nat} {q : vw_C} {fs : List Value} (hP : va_P D vwCl ws H) (hK : xK D cs s) (q0 : Nat) (hc : vwCl[ci]? = some q) (he : ws[q0]? = some (b, .inr (ci, fs))) : PreV s H q.1 b (va_Pc (.ref b :: As) (XBs D cs ws H.size)) As := ⟨xblindS, va_recv hK.1 hP hc he, fun _ hU hW => ⟨rfl, by rw [hU], by rw [hU]; exact hP, hK.warm hW⟩⟩
/-- behind a call that changes nothing -/
theorem xcalli {v : Int32} {a1 : Array Value} {st0 : List Value} (hr : va_Run p l e R s m args below meth c H locs cells slots 0 0 (F0 m pc ls st0) rest (va_Qi (fun r (_ : Unit) => r = v) (fun _ _ => True) (fun _ => False) a1) (fun _ => False)) (hS : va_S A H0 H locs) (hP : va_P D cl ws H)
    (kk : ∀ (H1 : Heap) (locs1 : List Loc), va_P D cl ws H1 → va_S A H0 H1 locs1 → W p l e R s m args below meth c H1 locs1 cells slots Q (F0 m (pc + 3) ls (.int v :: rest))) : W p l e R s m args below meth c H locs cells slots Q (F0 m pc ls st0) :=
  va_calli hr hS (fun _ _ h => h.elim) (fun _ h => h.elim) (fun r u t H1 locs1 _ _ hw _ hz hk hS1 => by
    subst hw
    exact kk H1 locs1 (hP.kept (fun k q hq => hk q.1 (hP k q hq).lt (fun f => f))) hS1)
theorem xcalll {v : Int64} {a1 : Array Value} {st0 : List Value} (hr : va_Run p l e R s m args below meth c H locs cells slots 0 0 (F0 m pc ls st0) rest (va_Ql (fun r (_ : Unit) => r = v) (fun _ _ => True) (fun _ => False) a1) (fun _ => False)) (hS : va_S A H0 H locs) (hP : va_P D cl ws H)
    (kk : ∀ (H1 : Heap) (locs1 : List Loc), va_P D cl ws H1 → va_S A H0 H1 locs1 → W p l e R s m args below meth c H1 locs1 cells slots Q (F0 m (pc + 3) ls (.long v :: rest))) : W p l e R s m args below meth c H locs cells slots Q (F0 m pc ls st0) :=
  va_calll hr hS (fun _ _ h => h.elim) (fun _ h => h.elim) (fun r u t H1 locs1 _ _ hw _ hz hk hS1 => by
    subst hw
    exact kk H1 locs1 (hP.kept (fun k q hq => hk q.1 (hP k q hq).lt (fun f => f))) hS1)
/-- behind a call that changes the world ws to one of those that 'rel' allows; mc cells of ms slots come -/
theorem xcallwi {S : Type} {a : Nat → Nat} {n : Nat} {v : S → Int32} {rel : S → Prop} {wf : S → va_W} {a1 : Array Value} {st0 : List Value} {mc ms : Nat} (hr : va_Run p l e R s m args below meth c H locs cells slots mc ms (F0 m pc ls st0) rest (va_Qi (fun r (u : S) => r = v u ∧ rel u) (fun u t => va_P D cl (wf u) t.heap) (kA a n H.size) a1) (kA a n H.size)) (hS : va_S A H0 H locs) (hF : ∀ q, kA a n H.size q → A q)
    (kk : ∀ (u : S) (H1 : Heap) (locs1 : List Loc), rel u → va_P D cl (wf u) H1 → H.size ≤ H1.size → (∀ q : Nat, q < H.size → ¬ kA a n H.size q → H1[q]? = H[q]?) → va_S A H0 H1 locs1 → W p l e R s m args below meth c H1 locs1 (cells + mc) (slots + ms) Q (F0 m (pc + 3) ls (.int (v u) :: rest))) : W p l e R s m args below meth c H locs cells slots Q (F0 m pc ls st0) :=
  va_calli hr hS (fun q _ h => hF q h) hF (fun r u t H1 locs1 ht _ hw hB hz hk hS1 => by
    obtain ⟨rfl, hw⟩ := hw
    exact kk u H1 locs1 hw (by rw [ht] at hB; exact hB) hz hk hS1)
theorem xcallwv {S : Type} {a : Nat → Nat} {n : Nat} {rel : S → Prop} {wf : S → va_W} {a1 : Array Value} {st0 : List Value} {mc ms : Nat} (hr : va_Run p l e R s m args below meth c H locs cells slots mc ms (F0 m pc ls st0) rest (va_Qv (fun (u : S) => rel u) (fun u t => va_P D cl (wf u) t.heap) (kA a n H.size) a1) (kA a n H.size)) (hS : va_S A H0 H locs) (hF : ∀ q, kA a n H.size q → A q)
    (kk : ∀ (u : S) (H1 : Heap) (locs1 : List Loc), rel u → va_P D cl (wf u) H1 → H.size ≤ H1.size → (∀ q : Nat, q < H.size → ¬ kA a n H.size q → H1[q]? = H[q]?) → va_S A H0 H1 locs1 → W p l e R s m args below meth c H1 locs1 (cells + mc) (slots + ms) Q (F0 m (pc + 3) ls rest)) : W p l e R s m args below meth c H locs cells slots Q (F0 m pc ls st0) :=
  va_callv hr hS (fun q _ h => hF q h) hF (fun u t H1 locs1 ht _ hw hB hz hk hS1 => kk u H1 locs1 hw (by rw [ht] at hB; exact hB) hz hk hS1)
end XRows

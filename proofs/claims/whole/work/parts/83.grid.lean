/-! new int[n][m], walked over the model's own text of the opcode: the state after i rows is gSt .. i; what its heap holds is gGrid. -/
theorem AOI_moved {u U : State} (hvm : u.vm.Alike U.vm) (h : va_Nw AOI u) : va_Nw AOI U := by
  have q : AOI.before #[] (u.setVm U.vm) = AOI.before #[] u := Cond.arrayOver_setVmC hvm (.array .int)
  first
    | exact q.trans h
    | (simp only [va_Nw, Cond.before, Cond.holds, Cond.value, State.vm_setVm] at q h ⊢; exact q.trans h)
/-- the class of int[][] is the array class over the class of int[] -/
theorem AOI_kind {D : va_G} {cl : List vw_C} {cs : Nat → ClassId} {u : State} (h : va_Nw AOI u) (hK : va_K D cl (ty5 cs) u) : ∃ kA : Class, u.vm.classes[cs 2]? = some kA ∧ kA.kind = .array (cs 0) (.array .int) := by
  have f0 : u.vm.findClass (FieldType.array .int).toString = some (cs 0) := (hK.2 0 (cs 0, .int) rfl).2
  have f2 : u.vm.findClass ("[" ++ (FieldType.array .int).toString) = some (cs 2) := (hK.2 2 (cs 2, .array .int) rfl).2
  unfold va_Nw at h
  simp only [Cond.before, Cond.holds, Cond.value, f0, Option.bind_some, beq_iff_eq, Option.bind_eq_some_iff, Option.map_eq_some_iff] at h
  obtain ⟨a, hi, k, hk, hb⟩ := h
  obtain ⟨hlt, hp, -⟩ := Array.findIdx?_eq_some_iff_getElem.mp hi
  have hkk : u.vm.classes[a] = k := (Array.getElem?_eq_some_iff.mp hk).2
  rw [hkk] at hp
  cases hkind : k.kind with
  | array cp ty =>
    rw [hkind] at hb hp
    simp only [Bool.and_eq_true, decide_eq_true_eq, beq_iff_eq] at hb hp
    have ea : a = cs 2 := Option.some.inj (hb.2.symm.trans f2)
    subst ea
    exact ⟨k, hk, by rw [hkind, hp, hb.1]⟩
  | _ => rw [hkind] at hb; simp at hb
def gF (h i : Nat) (j : Nat) : Value := va_rf (if j < i then some (h + 1 + j) else none)
def gGrid (H : Heap) (cA c0 : ClassId) (N K i : Nat) (G : Heap) : Prop :=
  G.size = H.size + 1 + i ∧ (∀ x : Nat, x < H.size → G[x]? = H[x]?) ∧ G[H.size]? = some (arrV cA N (gF H.size i)) ∧ ∀ j : Nat, j < i → G[H.size + 1 + j]? = some (arrV c0 K (fun _ => .int 0))
theorem gF_more (h i : Nat) : updV (gF h i) i (.ref (h + 1 + i)) = gF h (i + 1) := by
  funext j
  unfold updV gF
  by_cases e : j = i
  · subst e
    rw [if_pos rfl, if_pos (by omega)]
    rfl
  · rw [if_neg e]
    by_cases q : j < i
    · rw [if_pos q, if_pos (Nat.lt_succ_of_lt q)]
    · rw [if_neg q, if_neg (by omega)]
theorem gGrid.first (H : Heap) (cA c0 : ClassId) (N K : Nat) : gGrid H cA c0 N K 0 (H.push (arrV cA N (fun _ => .null))) := by
  refine ⟨by simp, fun x hx => ?_, ?_, fun j hj => absurd hj (Nat.not_lt_zero j)⟩
  · rw [Array.getElem?_push, if_neg (Nat.ne_of_lt hx)]
  · rw [Array.getElem?_push, if_pos rfl]
    refine congrArg some (congrArg (arrV cA N) (funext fun j => ?_))
    unfold gF
    rw [if_neg (Nat.not_lt_zero j)]
    rfl
theorem gGrid.more {H G : Heap} {cA c0 : ClassId} {N K i : Nat} (h : gGrid H cA c0 N K i G) : gGrid H cA c0 N K (i + 1) ((G.push (arrV c0 K (fun _ => .int 0))).setIfInBounds H.size (arrV cA N (gF H.size (i + 1)))) := by
  obtain ⟨h1, h2, h3, h4⟩ := h
  have hz : (G.push (arrV c0 K (fun _ => .int 0))).size = H.size + 1 + (i + 1) := by rw [Array.size_push]; omega
  refine ⟨by rw [Array.size_setIfInBounds, hz], fun x hx => ?_, ?_, fun j hj => ?_⟩
  · rw [Array.getElem?_setIfInBounds_ne (by omega), Array.getElem?_push, if_neg (by omega)]
    exact h2 x hx
  · rw [Array.getElem?_setIfInBounds_self_of_lt (by rw [hz]; omega)]
  · rw [Array.getElem?_setIfInBounds_ne (by omega), Array.getElem?_push]
    by_cases q : j < i
    · rw [if_neg (by omega)]
      exact h4 j q
    · rw [if_pos (by omega)]
def gSt (cA c0 : ClassId) (N K : Nat) (U : State) : Nat → State
  | 0 => U.pushCell (arrV cA N (fun _ => .null))
  | i + 1 => ((gSt cA c0 N K U i).pushCell (arrV c0 K (fun _ => .int 0))).setCell U.heap.size (arrV cA N (gF U.heap.size (i + 1)))
theorem gSt_heap (cA c0 : ClassId) (N K : Nat) (U : State) : ∀ i : Nat, gGrid U.heap cA c0 N K i (gSt cA c0 N K U i).heap
  | 0 => gGrid.first U.heap cA c0 N K
  | i + 1 => (gSt_heap cA c0 N K U i).more
theorem gSt_vm (cA c0 : ClassId) (N K : Nat) (U : State) : ∀ i : Nat, (gSt cA c0 N K U i).vm = U.vm
  | 0 => rfl
  | i + 1 => gSt_vm cA c0 N K U i
theorem gSt_outer (cA c0 : ClassId) (N K : Nat) (U : State) (i : Nat) : ((gSt cA c0 N K U i).pushCell (arrV c0 K (fun _ => .int 0))).heap[U.heap.size]? = some (arrV cA N (gF U.heap.size i)) := by
  obtain ⟨h1, -, h3, -⟩ := gSt_heap cA c0 N K U i
  have hlt : U.heap.size < (gSt cA c0 N K U i).heap.size := by rw [h1]; omega
  rw [State.heap_pushCell_of_lt (h := hlt)]
  exact h3
section Grid
variable {p : Program} {l : Launch} {e : Env} {R : Room} {s : State} {m : MethodId} {args : Array Value} {below : List Frame} {meth : Method} {c : Code} {locs : List Loc} {cells slots : Nat} {U : State}
theorem gSt_stand (cA c0 : ClassId) (N K : Nat) (X : Stand p l e R s m args below meth c U locs cells slots) : ∀ i : Nat, Stand p l e R s m args below meth c (gSt cA c0 N K U i) locs (cells + 1 + i) (slots + N + i * K)
  | 0 => by
    have h := X.pushed (arrV cA N (fun _ => .null))
    rw [arrV_size] at h
    rw [Nat.zero_mul]
    exact h
  | i + 1 => by
    have h := (gSt_stand cA c0 N K X i).pushed (arrV c0 K (fun _ => .int 0))
    rw [arrV_size] at h
    have h2 := (h.stored (gSt_outer cA c0 N K U i) i (.ref (U.heap.size + 1 + i))).dropFresh (fun x hx => by
      rw [List.mem_singleton] at hx
      subst hx
      exact X.heapGrown)
    rw [arrV_store, gF_more] at h2
    rw [show slots + N + (i + 1) * K = slots + N + i * K + K by rw [Nat.succ_mul]; omega]
    exact h2
variable {E : CtlPost} {d : Bool} {acts : List Action} {u : State}
theorem gArr {a cp : ClassId} {k : Class} {ty : FieldType} {n : Nat} {z : Value} (hk : u.vm.classes[a]? = some k) (hkind : k.kind = .array cp ty) (hl : ¬ n > e.platform.arrayLengthLimit) (hh : ¬ n * componentBytes ty > e.platform.maxHeapBytes) (hf : fits ty z = true) (hd : z.isDefault = true) (h1 : u.heap.size < e.platform.maxCells) (h2 : u.slotsUsed + n ≤ e.platform.maxSlots) {Q : Addr → Pre} (hq : Q u.heap.size d acts (u.pushCell (arrV a n (fun _ => z)))) : wp (Jvm.newArray a n z) Q E e d acts u := by
  have hall : (Array.replicate n z).all (·.isDefault) = true := by
    rw [Array.all_replicate]
    split
    · rfl
    · exact hd
  have hact : allocActs (Array.replicate n z) u.heap.size acts = acts := if_pos hall
  have hfit : ∀ (i : Nat) (v : Value), (Array.replicate n z)[i]? = some v → u.fitsSlot a .none i v = true := by
    intro i v hv
    rw [Array.getElem?_replicate] at hv
    split at hv
    · cases hv
      simp [State.fitsSlot, State.slotType?, hk, hkind, hf]
    · cases hv
  simp only [Jvm.newArray, Jvm.arrayFits, wp_bind', Jvm.W.ask, Jvm.W.ite, hl, hh, if_false, wp_pure', Jvm.W.theClass, hk, hkind, Jvm.W.alloc, Jvm.W.stop, Option.some.injEq, exists_eq_left', Array.size_replicate, hact]
  rw [if_neg (by omega)]
  refine ⟨h1, h2, hfit, ?_⟩
  rw [arrV_new]
  exact hq
theorem gRow {a cp : ClassId} {k : Class} {n : Int32} (hk : u.vm.classes[a]? = some k) (hkind : k.kind = .array cp .int) (hn : ¬ n < 0) (hl : ¬ n.toNatClampNeg > e.platform.arrayLengthLimit) (hh : ¬ n.toNatClampNeg * componentBytes .int > e.platform.maxHeapBytes) (h1 : u.heap.size < e.platform.maxCells) (h2 : u.slotsUsed + n.toNatClampNeg ≤ e.platform.maxSlots) {Q : Addr → Pre} (hq : Q u.heap.size d acts (u.pushCell (arrV a n.toNatClampNeg (fun _ => .int 0)))) : wp (multianewarray.make a [n]) Q E e d acts u := by
  rw [multianewarray.make]
  simp only [wp_bind', Jvm.W.ite, hn, if_false, wp_pure', Jvm.W.theClass, hk, hkind, Option.some.injEq, exists_eq_left']
  exact gArr hk hkind hl hh rfl rfl h1 h2 hq
theorem gMake {cA c0 cp : ClassId} {kA k0 : Class} {n k : Int32} {f : JFrame} (X : Stand p l e R s m args below meth c U locs cells slots) (hkA : U.vm.classes[cA]? = some kA) (hkindA : kA.kind = .array c0 (.array .int)) (hk0 : U.vm.classes[c0]? = some k0) (hkind0 : k0.kind = .array cp .int) (hn : ¬ n < 0) (hk : ¬ k < 0) (hb1 : n.toNatClampNeg * 4 ≤ 536870912) (hb2 : k.toNatClampNeg * 4 ≤ 536870912) (hcells : cells + (1 + n.toNatClampNeg) ≤ R.cells) (hslots : slots + (n.toNatClampNeg + n.toNatClampNeg * k.toNatClampNeg) ≤ R.slots) {Q : Addr → Pre} (hq : ∀ d' acts', Q U.heap.size d' acts' ((gSt cA c0 n.toNatClampNeg k.toNatClampNeg U n.toNatClampNeg).setTop f)) : wp (multianewarray.make cA [n, k]) Q E e d acts (U.setTop f) := by
  have lim := Launch.admits_arrayLengthLimit X.admits
  have hea := Launch.admits_maxHeapBytes X.admits
  have hl1 : ¬ n.toNatClampNeg > e.platform.arrayLengthLimit := by rw [lim]; omega
  have hh1 : ¬ n.toNatClampNeg * componentBytes (.array .int) > e.platform.maxHeapBytes := by rw [hea]; show ¬ n.toNatClampNeg * 4 > 536870912; omega
  have hl2 : ¬ k.toNatClampNeg > e.platform.arrayLengthLimit := by rw [lim]; omega
  have hh2 : ¬ k.toNatClampNeg * componentBytes .int > e.platform.maxHeapBytes := by rw [hea]; show ¬ k.toNatClampNeg * 4 > 536870912; omega
  have hfind : ([k].find? (· < 0)) = none := by simp [hk]
  obtain ⟨r1, r2⟩ := X.roomAbove (a := 1) (b := n.toNatClampNeg) (by omega) (by omega)
  rw [multianewarray.make]
  simp only [wp_bind', Jvm.W.ite, hn, if_false, wp_pure', Jvm.W.theClass, State.vm_setTop, hkA, hkindA, Option.some.injEq, exists_eq_left']
  refine gArr (u := U.setTop f) hkA hkindA hl1 hh1 rfl rfl r1 r2 ?_
  simp only [hfind]
  rw [ite_self, wp_bind', Std.Legacy.Range.forIn_eq_forIn_range']
  rw [show ([:n.toNatClampNeg] : Std.Legacy.Range).size = n.toNatClampNeg by simp [Std.Legacy.Range.size]]
  show wp (forIn (List.range' 0 n.toNatClampNeg 1) PUnit.unit _) _ E e d acts _
  refine wp_forIn_inv (fun rest v => ∃ i : Nat, i ≤ n.toNatClampNeg ∧ rest = List.range' i (n.toNatClampNeg - i) ∧ v = (gSt cA c0 n.toNatClampNeg k.toNatClampNeg U i).setTop f) _ _ ⟨0, Nat.zero_le _, rfl, rfl⟩ ?_ ?_
  · rintro x rest v d' acts' Q' ⟨i, hi, hl, rfl⟩ hnext
    have hlt : i < n.toNatClampNeg := by
      refine Nat.lt_of_le_of_ne hi (fun q => ?_)
      rw [q, Nat.sub_self, List.range'_zero] at hl
      exact absurd hl (List.cons_ne_nil _ _)
    obtain ⟨r, hr⟩ : ∃ r, n.toNatClampNeg - i = r + 1 := ⟨n.toNatClampNeg - i - 1, by omega⟩
    rw [hr, List.range'_succ] at hl
    obtain ⟨hx, hrest⟩ := List.cons.inj hl
    rw [hx]
    have Xi := gSt_stand cA c0 n.toNatClampNeg k.toNatClampNeg X i
    have hz : ((gSt cA c0 n.toNatClampNeg k.toNatClampNeg U i).setTop f).heap.size = U.heap.size + 1 + i := (gSt_heap cA c0 n.toNatClampNeg k.toNatClampNeg U i).1
    have hmul : i * k.toNatClampNeg + k.toNatClampNeg ≤ n.toNatClampNeg * k.toNatClampNeg := by
      have q := Nat.mul_le_mul_right k.toNatClampNeg (show i + 1 ≤ n.toNatClampNeg from hlt)
      rw [Nat.succ_mul] at q
      exact q
    obtain ⟨q1, q2⟩ := Xi.roomAbove (a := 1) (b := k.toNatClampNeg) (by omega) (by omega)
    have hvm : ((gSt cA c0 n.toNatClampNeg k.toNatClampNeg U i).setTop f).vm = U.vm := gSt_vm cA c0 n.toNatClampNeg k.toNatClampNeg U i
    simp only [wp_bind']
    refine gRow (u := (gSt cA c0 n.toNatClampNeg k.toNatClampNeg U i).setTop f) (by rw [hvm]; exact hk0) hkind0 hk hl2 hh2 q1 q2 ?_
    simp only [wp_bind', Jvm.W.writeLoc, wp_pure']
    refine ⟨arrV cA n.toNatClampNeg (gF U.heap.size i), gSt_outer cA c0 n.toNatClampNeg k.toNatClampNeg U i, fun q => (by cases q), by rw [arrV_size]; exact hlt, ?_, hnext _ _ _ ⟨i + 1, hlt, ?_, ?_⟩⟩
    · show State.fitsSlot (((gSt cA c0 n.toNatClampNeg k.toNatClampNeg U i).setTop f).pushCell (arrV c0 k.toNatClampNeg (fun _ => .int 0))) cA .none i _ = true
      simp [State.fitsSlot, State.slotType?, gSt_vm, hkA, hkindA, fits]
    · rw [hrest, show n.toNatClampNeg - (i + 1) = r by omega]
    · rw [hz, arrV_store, gF_more]
      rfl
  · rintro v d' acts' ⟨i, hi, hl, rfl⟩
    have hiN : i = n.toNatClampNeg := by
      refine Nat.le_antisymm hi (Nat.le_of_not_lt fun q => ?_)
      obtain ⟨r, hr⟩ : ∃ r, n.toNatClampNeg - i = r + 1 := ⟨n.toNatClampNeg - i - 1, by omega⟩
      rw [hr, List.range'_succ] at hl
      exact absurd hl.symm (List.cons_ne_nil _ _)
    rw [hiN]
    simp only [wp_pure']
    exact hq _ _
theorem gStep {T : State} {vm₁ : Vm} {cA c0 cp : ClassId} {kA k0 : Class} {index : Nat} {n k : Int32} {rest : List Value} {g : JFrame} (X : Stand p l e R s m args below meth c T locs cells slots) (hexec : p.tables.exec = Jvm.exec) (hres : (Jvm.resolveClass g.method.cls index).Gives e.toSetting T.vm (.ok cA) vm₁) (hwarm : s.WarmedH vm₁)
    (hkA : vm₁.classes[cA]? = some kA) (hkindA : kA.kind = .array c0 (.array .int)) (hk0 : vm₁.classes[c0]? = some k0) (hkind0 : k0.kind = .array cp .int) (hdg : decode c.code g.pc = .ok (.multianewarray index 2, 4)) (hg : g.method = m) (hstack : g.stack = .int k :: .int n :: rest)
    (hn : ¬ n < 0) (hk : ¬ k < 0) (hb1 : n.toNatClampNeg * 4 ≤ 536870912) (hb2 : k.toNatClampNeg * 4 ≤ 536870912) (hcells : cells + (1 + n.toNatClampNeg) ≤ R.cells) (hslots : slots + (n.toNatClampNeg + n.toNatClampNeg * k.toNatClampNeg) ≤ R.slots) (target : State)
    (hgo : Steps p.tables e below ((gSt cA c0 n.toNatClampNeg k.toNatClampNeg (T.setVm vm₁) n.toNatClampNeg).setTop { g with pc := g.pc + 4, stack := .ref T.heap.size :: rest }) target) : Steps p.tables e below (T.setTop g) target := by
  have X1 := X.noted hwarm
  have XF := gSt_stand cA c0 n.toNatClampNeg k.toNatClampNeg X1 n.toNatClampNeg
  subst hg
  jvm_step X.here [hexec, hdg]
  simp only [multianewarray.sem, wp_bind', Jvm.W.resolveClassAt_links (State.method?_setTop g X.here.top) hres]
  rw [Jvm.W.popN, if_neg (by decide)]
  refine ⟨g, State.topJava?_setTop' (s := T.setVm vm₁) g X.here.top, [.int n, .int k], rest, rfl, hstack, ?_⟩
  simp only [List.mapM_cons, List.mapM_nil, wp_bind', wp_pure']
  rw [show ((T.setTop g).setVm vm₁).setTop { g with stack := rest } = (T.setVm vm₁).setTop { g with stack := rest } from State.setTop_setTop (T.setVm vm₁) g _]
  refine gMake X1 hkA hkindA hk0 hkind0 hn hk hb1 hb2 hcells hslots (fun d' acts' => ?_)
  simp only [wp_bind', Jvm.W.mark, Jvm.W.pushRef, State.topJava?_setTop' _ XF.here.top, Option.some.injEq, exists_eq_left', State.setTop_setTop]
  intro acts
  simp [jvm, XF.here.top]
  exact hgo
end Grid

/-! THE CLAIM OUT OF ONE WALK OF THE LAW'S BODY. Your part is whole_start (and what it stands on); all else here is the same for every law, but numbers. -/
def R_law : String := "KnowledgeModelLaw"
def lw_P (b : Addr) (xs : List Int32) (args : Array Value) (s : State) : Prop := args = #[.ref b] ∧ s.IntsAt b xs ∧ xs.length ≤ 2560 ∧ (Jvm.Cond.and given_1 narrow_1).before args s = true
/-- what a walk over the start with the record d0 says of its end, said of the start itself -/
theorem lw_closed {s t : State} {o : Outcome} {d0 : Drawn} {L : List Loc} {k n : Nat} (hd0 : s.drawn.sameBut d0 lw_cs) (hv : ∃ v, o = .returned v) (hW : (s.setDrawn d0).WarmedH t.vm) (hs : (s.setDrawn d0).sameButNew ({ t with vm := s.vm } : State) L k n) : State.butDraws s t lw_cs (fun t1 => Framed s o t1 L k n) := by
  have h2 : t.drawn = d0 := congrArg State.drawn hs.1
  refine ⟨⟨hv, hW, State.sameButNew.setDrawn hs s.drawn⟩, ?_, by decide⟩
  rw [h2]
  exact hd0
def lw_Q (_ : Array Value) (s : State) (o : Outcome) (t : State) : Prop := o = .returned (some (.int 1)) ∧ State.butDraws s t lw_cs (fun t1 => Framed s o t1 [] 601024 7293034)
def lw_Z (below : List Frame) (a : Array Value) (s : State) : State → Prop := fun t => ∃ o, t.status = .running ∧ Ended t below o ∧ lw_Q a s o t
/-- the law's own end, with 1 on the stack, nothing written that was there before, its room as the claim has it; d0: the record of draws at this point (at the entry s.drawn: begin with 'refine W.base ?_' and 'have hd0 := Drawn.sameBut.refl s.drawn lw_cs') -/
theorem lw_ret {p : Program} {l : Launch} {e : Env} {s : State} {m : MethodId} {below : List Frame} {meth : Method} {c : Code} {b : Nat} {d0 : Drawn} (hd0 : s.drawn.sameBut d0 lw_cs) (hx : p.tables.exec = Jvm.exec) (hb : c.code = code) (hr : meth.sig.returnType = ret) (hlocks : meth.locks = false) {pc : Nat} {H : Heap} {ls : Array Slot} (hdg : decode code pc = .ok (.ireturn, 1)) : W p l e room_1 (s.setDrawn d0) m #[Value.ref b] below meth c H [] 601024 7293034 (lw_Z below #[Value.ref b] s) (F0 m pc ls [.int 1]) := by
  intro T hT X
  obtain ⟨fs, hret, hrun, hended, hW, hframe⟩ := X.leave (v := some (.int 1)) (hlocks := hlocks) (fun h => by rw [hr] at h; cases h)
  have hmeth' : T.vm.method? m = some meth := X.method'
  refine ⟨T.setFrames fs, ?_, .returned (some (.int 1)), hrun, hended, rfl, lw_closed hd0 ⟨_, rfl⟩ hW hframe⟩
  jvm_step X.here [X.here.top, hx, hb, hdg, hmeth', hr, ret, narrow_b1]
  (try refine ⟨rfl, ?_⟩); (try refine ⟨rfl, ?_⟩)
  first | (intro acts; rw [hret _ acts rfl rfl rfl]) | rw [hret _ _ rfl rfl rfl]
  exact Steps.refl _
/-- what holds at the law's entry: the machine, the code, the tables' words (any of lw_tbl by 'hts w (by decide +kernel)'), the script of L ints xs at the cell b, what the Statement gives of the start (any of its parts by flat_of_before) -/
def lw_At (p : Program) (s : State) (m : MethodId) (meth : Method) (c : Code) (b L : Nat) (xs : Nat → Int32) : Prop :=
  p.tables.exec = Jvm.exec ∧ c.code = code ∧ meth.sig.returnType = ret ∧ c.maxLocals = 9 ∧ s.vm.findClass R_law = some m.cls ∧ (∀ w ∈ lw_tbl, w.before #[Value.ref b] s = true) ∧ va_X b L xs s s.heap ∧ b < s.heap.size ∧ meth.locks = false ∧ (Jvm.Cond.and given_1 narrow_1).before #[Value.ref b] s = true
/-! The law's cells: the class at a, the reference at b, its two arrays at o and od. -/
def Ap (a b : Nat → Nat) (o od z : Nat) : Prop := kI a 29 ∧ kI b 12 ∧ (∀ k j, k < 29 → j < 12 → a k ≠ b j) ∧ (∀ k, k < 29 → a k ≠ o) ∧ (∀ k, k < 29 → a k ≠ od) ∧ (∀ j, j < 12 → b j ≠ o) ∧ (∀ j, j < 12 → b j ≠ od) ∧ o ≠ od ∧ (∀ k, k < 29 → z ≤ a k) ∧ (∀ j, j < 12 → z ≤ b j) ∧ z ≤ o ∧ z ≤ od
def LJ (D : va_G) (cs a b : Nat → Nat) (o od : Nat) (M : Nat → Nat → Int32) (N : Nat → Int64) (R : Nat → Nat → Int32) (g : Nat → Int64) (gd : Nat → UInt64) (H : Heap) : Prop := va_P D vwCl (xc cs a M N) H ∧ va_P D vwCl (rc cs b R) H ∧ va_P D vwCl [(o, oL cs g)] H ∧ va_P D vwCl [(od, oDb cs gd)] H
theorem keptL {D : va_G} {cl : List vw_C} {ws : va_W} {a : Nat → Nat} {n : Nat} {F : Nat → Prop} {H H1 : Heap} (hw : ws.map Prod.fst = (List.range n).map a) (hP : va_P D cl ws H) (hk : ∀ q : Nat, q < H.size → ¬ F q → H1[q]? = H[q]?) (hn : ∀ j, j < n → a j < H.size → ¬ F (a j)) : va_P D cl ws H1 := hP.kept (fun k q hq => by
  have h1 : (ws.map Prod.fst)[k]? = some q.1 := by rw [List.getElem?_map, hq]; rfl
  rw [hw, List.getElem?_map] at h1
  have hkn : k < n := by
    rcases Nat.lt_or_ge k n with h | h
    · exact h
    · rw [List.getElem?_eq_none (by rw [List.length_range]; exact h)] at h1; cases h1
  rw [List.getElem?_range hkn] at h1
  have e : q.1 = a k := (Option.some.inj h1).symm
  have hlt : q.1 < H.size := (hP k q hq).lt
  refine hk q.1 hlt ?_
  rw [e] at hlt ⊢
  exact hn k hkn hlt)
section LawJ
variable {D : va_G} {cs a b : Nat → Nat} {o od z : Nat} {M M1 R R1 : Nat → Nat → Int32} {N N1 : Nat → Int64} {g g1 : Nat → Int64} {gd gd1 : Nat → UInt64} {H H1 : Heap}
theorem LJ_o (h : LJ D cs a b o od M N R g gd H) : va_P D vwCl (xo cs a M N o (oL cs g)) H := h.1.app h.2.2.1
theorem LJ_od (h : LJ D cs a b o od M N R g gd H) : va_P D vwCl (xo cs a M N od (oDb cs gd)) H := h.1.app h.2.2.2
theorem LJ_x (h : LJ D cs a b o od M N R g gd H) (hA : Ap a b o od z) (hP : va_P D vwCl (xo cs a M1 N1 o (oL cs g1)) H1) (hk : ∀ q : Nat, q < H.size → ¬ kO a o H.size q → H1[q]? = H[q]?) : LJ D cs a b o od M1 N1 R g1 gd H1 := by
  obtain ⟨j1, j2, j3, j4⟩ := h
  obtain ⟨a1, a2, a3, a4, a5, a6, a7, a8, -⟩ := hA
  refine ⟨xoP hP, keptL (a := b) (n := 12) rfl j2 hk (fun j hj hlt => ?_), fun k q hq => ?_, keptL (a := fun _ => od) (n := 1) rfl j4 hk (fun j hj hlt => ?_)⟩
  · rintro ((⟨k, hk, e⟩ | h) | h)
    · exact a3 k j hk hj e
    · exact absurd hlt (Nat.not_lt.mpr h)
    · exact a6 j hj h
  · cases k with
    | zero => cases hq; exact xoE hP
    | succ k => cases hq
  · rintro ((⟨k, hk, e⟩ | h) | h)
    · exact a5 k hk e
    · exact absurd hlt (Nat.not_lt.mpr h)
    · exact a8 h.symm
theorem LJ_xd (h : LJ D cs a b o od M N R g gd H) (hA : Ap a b o od z) (hP : va_P D vwCl (xo cs a M1 N1 od (oDb cs gd1)) H1) (hk : ∀ q : Nat, q < H.size → ¬ kO a od H.size q → H1[q]? = H[q]?) : LJ D cs a b o od M1 N1 R g gd1 H1 := by
  obtain ⟨j1, j2, j3, j4⟩ := h
  obtain ⟨a1, a2, a3, a4, a5, a6, a7, a8, -⟩ := hA
  refine ⟨xoP hP, keptL (a := b) (n := 12) rfl j2 hk (fun j hj hlt => ?_), keptL (a := fun _ => o) (n := 1) rfl j3 hk (fun j hj hlt => ?_), fun k q hq => ?_⟩
  · rintro ((⟨k, hk, e⟩ | h) | h)
    · exact a3 k j hk hj e
    · exact absurd hlt (Nat.not_lt.mpr h)
    · exact a7 j hj h
  · rintro ((⟨k, hk, e⟩ | h) | h)
    · exact a4 k hk e
    · exact absurd hlt (Nat.not_lt.mpr h)
    · exact a8 h
  · cases k with
    | zero => cases hq; exact xoE hP
    | succ k => cases hq
theorem LJ_r (h : LJ D cs a b o od M N R g gd H) (hA : Ap a b o od z) (hP : va_P D vwCl (rc cs b R1) H1) (hk : ∀ q : Nat, q < H.size → ¬ kA b 12 H.size q → H1[q]? = H[q]?) : LJ D cs a b o od M N R1 g gd H1 := by
  obtain ⟨j1, j2, j3, j4⟩ := h
  obtain ⟨a1, a2, a3, a4, a5, a6, a7, a8, -⟩ := hA
  refine ⟨keptL (a := a) (n := 29) rfl j1 hk (fun j hj hlt => ?_), hP, keptL (a := fun _ => o) (n := 1) rfl j3 hk (fun j hj hlt => ?_), keptL (a := fun _ => od) (n := 1) rfl j4 hk (fun j hj hlt => ?_)⟩
  · rintro (⟨k, hk, e⟩ | h)
    · exact a3 j k hj hk e.symm
    · exact absurd hlt (Nat.not_lt.mpr h)
  · rintro (⟨k, hk, e⟩ | h)
    · exact a6 k hk e
    · exact absurd hlt (Nat.not_lt.mpr h)
  · rintro (⟨k, hk, e⟩ | h)
    · exact a7 k hk e
    · exact absurd hlt (Nat.not_lt.mpr h)
theorem LJ_a (h : LJ D cs a b o od M N R g gd H) (hA : Ap a b o od z) (hP : va_P D vwCl (xc cs a M1 N1) H1) (hk : ∀ q : Nat, q < H.size → ¬ kA a 29 H.size q → H1[q]? = H[q]?) : LJ D cs a b o od M1 N1 R g gd H1 := by
  obtain ⟨j1, j2, j3, j4⟩ := h
  obtain ⟨a1, a2, a3, a4, a5, a6, a7, a8, -⟩ := hA
  refine ⟨hP, keptL (a := b) (n := 12) rfl j2 hk (fun j hj hlt => ?_), keptL (a := fun _ => o) (n := 1) rfl j3 hk (fun j hj hlt => ?_), keptL (a := fun _ => od) (n := 1) rfl j4 hk (fun j hj hlt => ?_)⟩
  · rintro (⟨k, hk, e⟩ | h)
    · exact a3 k j hk hj e
    · exact absurd hlt (Nat.not_lt.mpr h)
  · rintro (⟨k, hk, e⟩ | h)
    · exact a4 k hk e
    · exact absurd hlt (Nat.not_lt.mpr h)
  · rintro (⟨k, hk, e⟩ | h)
    · exact a5 k hk e
    · exact absurd hlt (Nat.not_lt.mpr h)
theorem LJ_0 (h : LJ D cs a b o od M N R g gd H) (hk : ∀ q : Nat, q < H.size → ¬ False → H1[q]? = H[q]?) : LJ D cs a b o od M N R g gd H1 :=
  ⟨h.1.kept (fun k q hq => hk q.1 (h.1 k q hq).lt (fun f => f)), h.2.1.kept (fun k q hq => hk q.1 (h.2.1 k q hq).lt (fun f => f)), h.2.2.1.kept (fun k q hq => hk q.1 (h.2.2.1 k q hq).lt (fun f => f)), h.2.2.2.kept (fun k q hq => hk q.1 (h.2.2.2 k q hq).lt (fun f => f))⟩
theorem Ap_o (hA : Ap a b o od z) (hz : z ≤ H.size) : ∀ q, kO a o H.size q → z ≤ q := by
  obtain ⟨a1, a2, a3, a4, a5, a6, a7, a8, a9, a10, a11, a12⟩ := hA
  rintro q ((⟨k, hk, e⟩ | h) | h)
  · rw [← e]; exact a9 k hk
  · exact Nat.le_trans hz h
  · rw [h]; exact a11
theorem Ap_od (hA : Ap a b o od z) (hz : z ≤ H.size) : ∀ q, kO a od H.size q → z ≤ q := by
  obtain ⟨a1, a2, a3, a4, a5, a6, a7, a8, a9, a10, a11, a12⟩ := hA
  rintro q ((⟨k, hk, e⟩ | h) | h)
  · rw [← e]; exact a9 k hk
  · exact Nat.le_trans hz h
  · rw [h]; exact a12
theorem Ap_a (hA : Ap a b o od z) (hz : z ≤ H.size) : ∀ q, kA a 29 H.size q → z ≤ q := fun q h => Ap_o hA hz q (Or.inl h)
theorem Ap_b (hA : Ap a b o od z) (hz : z ≤ H.size) : ∀ q, kA b 12 H.size q → z ≤ q := by
  obtain ⟨a1, a2, a3, a4, a5, a6, a7, a8, a9, a10, a11, a12⟩ := hA
  rintro q (⟨k, hk, e⟩ | h)
  · rw [← e]; exact a10 k hk
  · exact Nat.le_trans hz h
end LawJ
section LawC
variable {p : Program} {l : Launch} {e : Env} {R : Room} {s : State} {m : MethodId} {args : Array Value} {below : List Frame} {meth : Method} {c : Code} {H H0 : Heap} {locs : List Loc} {cells slots : Nat} {Q : State → Prop} {pc : Nat} {ls : Array Slot} {rest : List Value} {cc : ByteArray} {D : va_G} {cl : List vw_C} {ws : va_W} {A : Nat → Prop} {cs sa : Nat → Nat} {a : Nat → Nat} {o : Nat}
theorem lpreS {As : List Value} (hP : va_P D vwCl ws H) (hK : xK D cs s) (hT : xT sa s) (hNc : xNc s) (hZ : ZT A s s.heap) (hS : va_S A s.heap H locs) (hF : ∀ q, kO a o H.size q → A q) : PreS s H (va_Pc As (LBT D cs sa a o ws H.size)) As := by
  refine ⟨fun _ U g mk h => ⟨h.1, h.2.1, h.2.2.1, ⟨va_K.moved (u := U) (U := U.calling g mk _) (Vm.Alike.refl U.vm) h.2.2.2.1.1, h.2.2.2.1.2.same rfl⟩, h.2.2.2.2.1.same rfl, ZT.moved (u := U) (U := U.calling g mk _) (Vm.Alike.refl U.vm) h.2.2.2.2.2.1, xNc.moved (u := U) (U := U.calling g mk _) (Vm.Alike.refl U.vm) h.2.2.2.2.2.2⟩, fun U hU hW => ⟨rfl, by rw [hU], by rw [hU]; exact hP, hK.warm hW, hT.warm hW, ?_, hNc.moved hW.alike⟩⟩
  rw [hU]
  exact ((hZ.kept hS.2.1).narrow hF).moved hW.alike
theorem lcalli {S : Type} {F : Nat → Prop} {v : S → Int32} {rel : S → Prop} {wf : S → va_W} {a1 : Array Value} {st0 : List Value} {mc ms : Nat} (hr : va_Run p l e R s m args below meth c H locs cells slots mc ms (F0 m pc ls st0) rest (va_Qi (fun r (u : S) => r = v u ∧ rel u) (fun u t => va_P D vwCl (wf u) t.heap) F a1) F) (hS : va_S A H0 H locs) (hF : ∀ q, F q → A q)
    (kk : ∀ (u : S) (H1 : Heap) (locs1 : List Loc), rel u → va_P D vwCl (wf u) H1 → (∀ q : Nat, q < H.size → ¬ F q → H1[q]? = H[q]?) → va_S A H0 H1 locs1 → W p l e R s m args below meth c H1 locs1 (cells + mc) (slots + ms) Q (F0 m (pc + 3) ls (.int (v u) :: rest))) : W p l e R s m args below meth c H locs cells slots Q (F0 m pc ls st0) :=
  va_calli hr hS (fun q _ h => hF q h) hF (fun r u t H1 locs1 ht _ hw hB hz hk hS1 => by
    obtain ⟨rfl, hw⟩ := hw
    exact kk u H1 locs1 hw (by rw [ht] at hB; exact hB) hk hS1)
theorem lcalll {S : Type} {F : Nat → Prop} {v : S → Int64} {rel : S → Prop} {wf : S → va_W} {a1 : Array Value} {st0 : List Value} {mc ms : Nat} (hr : va_Run p l e R s m args below meth c H locs cells slots mc ms (F0 m pc ls st0) rest (va_Ql (fun r (u : S) => r = v u ∧ rel u) (fun u t => va_P D vwCl (wf u) t.heap) F a1) F) (hS : va_S A H0 H locs) (hF : ∀ q, F q → A q)
    (kk : ∀ (u : S) (H1 : Heap) (locs1 : List Loc), rel u → va_P D vwCl (wf u) H1 → (∀ q : Nat, q < H.size → ¬ F q → H1[q]? = H[q]?) → va_S A H0 H1 locs1 → W p l e R s m args below meth c H1 locs1 (cells + mc) (slots + ms) Q (F0 m (pc + 3) ls (.long (v u) :: rest))) : W p l e R s m args below meth c H locs cells slots Q (F0 m pc ls st0) :=
  va_calll hr hS (fun q _ h => hF q h) hF (fun r u t H1 locs1 ht _ hw hB hz hk hS1 => by
    obtain ⟨rfl, hw⟩ := hw
    exact kk u H1 locs1 hw (by rw [ht] at hB; exact hB) hk hS1)
theorem lcalld {S : Type} {F : Nat → Prop} {v : S → UInt64} {rel : S → Prop} {wf : S → va_W} {a1 : Array Value} {st0 : List Value} {mc ms : Nat} (hr : va_Run p l e R s m args below meth c H locs cells slots mc ms (F0 m pc ls st0) rest (va_Qd (fun r (u : S) => r = v u ∧ rel u) (fun u t => va_P D vwCl (wf u) t.heap) F a1) F) (hS : va_S A H0 H locs) (hF : ∀ q, F q → A q)
    (kk : ∀ (u : S) (H1 : Heap) (locs1 : List Loc), rel u → va_P D vwCl (wf u) H1 → (∀ q : Nat, q < H.size → ¬ F q → H1[q]? = H[q]?) → va_S A H0 H1 locs1 → W p l e R s m args below meth c H1 locs1 (cells + mc) (slots + ms) Q (F0 m (pc + 3) ls (.double (v u) :: rest))) : W p l e R s m args below meth c H locs cells slots Q (F0 m pc ls st0) :=
  va_calld hr hS (fun q _ h => hF q h) hF (fun r u t H1 locs1 ht _ hw hB hz hk hS1 => by
    obtain ⟨rfl, hw⟩ := hw
    exact kk u H1 locs1 hw (by rw [ht] at hB; exact hB) hk hS1)
theorem lcall0i {v : Int32} {a1 : Array Value} {st0 : List Value} (hr : va_Run p l e R s m args below meth c H locs cells slots 0 0 (F0 m pc ls st0) rest (va_Qi (fun r (_ : Unit) => r = v) (fun _ _ => True) (fun _ => False) a1) (fun _ => False)) (hS : va_S A H0 H locs)
    (kk : ∀ (H1 : Heap) (locs1 : List Loc), (∀ q : Nat, q < H.size → ¬ False → H1[q]? = H[q]?) → va_S A H0 H1 locs1 → W p l e R s m args below meth c H1 locs1 cells slots Q (F0 m (pc + 3) ls (.int v :: rest))) : W p l e R s m args below meth c H locs cells slots Q (F0 m pc ls st0) :=
  va_calli hr hS (fun _ _ h => h.elim) (fun _ h => h.elim) (fun r u t H1 locs1 _ _ hw _ hz hk hS1 => by
    subst hw
    exact kk H1 locs1 hk hS1)
theorem lcall0l {v : Int64} {a1 : Array Value} {st0 : List Value} (hr : va_Run p l e R s m args below meth c H locs cells slots 0 0 (F0 m pc ls st0) rest (va_Ql (fun r (_ : Unit) => r = v) (fun _ _ => True) (fun _ => False) a1) (fun _ => False)) (hS : va_S A H0 H locs)
    (kk : ∀ (H1 : Heap) (locs1 : List Loc), (∀ q : Nat, q < H.size → ¬ False → H1[q]? = H[q]?) → va_S A H0 H1 locs1 → W p l e R s m args below meth c H1 locs1 cells slots Q (F0 m (pc + 3) ls (.long v :: rest))) : W p l e R s m args below meth c H locs cells slots Q (F0 m pc ls st0) :=
  va_calll hr hS (fun _ _ h => h.elim) (fun _ h => h.elim) (fun r u t H1 locs1 _ _ hw _ hz hk hS1 => by
    subst hw
    exact kk H1 locs1 hk hS1)
theorem xsld {b L j : Nat} {xs : Nat → Int32} (hexec : p.tables.exec = Jvm.exec) (hb : c.code = cc) (hX : va_X b L xs s H0) (hbl : b < H0.size) (hbA : ¬ A b) (hS : va_S A H0 H locs) (hL : L ≤ 2560) (hj : j < L) (hdg : decode cc pc = .ok (.iaload, 1))
    (kk : W p l e R s m args below meth c H locs cells slots Q (F0 m (pc + 1) ls (.int (xs j) :: rest))) : W p l e R s m args below meth c H locs cells slots Q (F0 m pc ls (.int (nI j) :: .ref b :: rest)) :=
  va_sld hexec hb hX hbl hbA hS (vp_in_nI hj (by omega)) hdg (by rw [nI_clamp (by omega)]; exact kk)
theorem xnz {v : Int32} {t1 t2 : Nat} {o1 o2 : Int} (hexec : p.tables.exec = Jvm.exec) (hb : c.code = cc) (d1 : decode cc pc = .ok (.ifCond .eq o1, 3)) (h1 : (pc : Int) + o1 = (t1 : Int)) (d2 : decode cc (pc + 3) = .ok (.iconst 1, 1)) (d3 : decode cc (pc + 3 + 1) = .ok (.goto o2, 3)) (h2 : ((pc + 3 + 1 : Nat) : Int) + o2 = (t2 : Int)) (d4 : decode cc t1 = .ok (.iconst 0, 1)) (h4 : t1 + 1 = t2)
    (kk : W p l e R s m args below meth c H locs cells slots Q (F0 m t2 ls (.int (bI (!decide (v = 0))) :: rest))) : W p l e R s m args below meth c H locs cells slots Q (F0 m pc ls (.int v :: rest)) := by
  refine lv_if_eq hexec hb d1 h1 (fun q => ?_) (fun q => ?_)
  · refine lv_iconst (v := 0) hexec hb d4 (by decide) ?_
    rw [h4]
    rw [decide_eq_true q] at kk
    exact kk
  · refine lv_iconst (v := 1) hexec hb d2 (by decide) ?_
    refine lv_goto hexec hb d3 h2 ?_
    rw [decide_eq_false q] at kk
    exact kk
theorem xbl {b : Bool} {t1 t2 : Nat} {o1 o2 : Int} (hexec : p.tables.exec = Jvm.exec) (hb : c.code = cc) (d1 : decode cc pc = .ok (.ifCond .eq o1, 3)) (h1 : (pc : Int) + o1 = (t1 : Int)) (d2 : decode cc (pc + 3) = .ok (.lconst 1, 1)) (d3 : decode cc (pc + 3 + 1) = .ok (.goto o2, 3)) (h2 : ((pc + 3 + 1 : Nat) : Int) + o2 = (t2 : Int)) (d4 : decode cc t1 = .ok (.lconst 0, 1)) (h4 : t1 + 1 = t2)
    (kk : W p l e R s m args below meth c H locs cells slots Q (F0 m t2 ls (.long (if b = true then (1 : Int64) else 0) :: rest))) : W p l e R s m args below meth c H locs cells slots Q (F0 m pc ls (.int (bI b) :: rest)) := by
  refine lv_if_eq hexec hb d1 h1 (fun q => ?_) (fun q => ?_)
  · refine lv_lconst (v := 0) hexec hb d4 (by decide) ?_
    rw [h4]
    rw [if_neg (by rw [bI_0 q]; decide)] at kk
    exact kk
  · refine lv_lconst (v := 1) hexec hb d2 (by decide) ?_
    refine lv_goto hexec hb d3 h2 ?_
    rw [if_pos (bI_n0 q)] at kk
    exact kk
theorem xtopl {x y : Int64} (h : x = y) (k : W p l e R s m args below meth c H locs cells slots Q (F0 m pc ls (.long y :: rest))) : W p l e R s m args below meth c H locs cells slots Q (F0 m pc ls (.long x :: rest)) := by rw [h]; exact k
theorem xtopd {x y : UInt64} (h : x = y) (k : W p l e R s m args below meth c H locs cells slots Q (F0 m pc ls (.double y :: rest))) : W p l e R s m args below meth c H locs cells slots Q (F0 m pc ls (.double x :: rest)) := by rw [h]; exact k
end LawC
theorem nI_c {k : Nat} (h : k < 4) (e : nI k = 0) : k = 0 := by
  rcases (show k = 0 ∨ k = 1 ∨ k = 2 ∨ k = 3 by omega) with rfl | rfl | rfl | rfl
  · rfl
  · exact absurd e (by decide)
  · exact absurd e (by decide)
  · exact absurd e (by decide)
theorem lfit {x y z w : Nat} (h : x + 10 ≤ 601024) (h2 : y + 200 ≤ 7293034) (hz : z ≤ 10) (hw : w ≤ 200) : x + z ≤ room_1.cells ∧ y + w ≤ room_1.slots := ⟨by show x + z ≤ 601024; omega, by show y + w ≤ 7293034; omega⟩
theorem act_lt {M R : Nat → Nat → Int32} {n act : Nat} (hW : SimW M R n act) : act < 24 := by
  obtain ⟨⟨h1, h2, h3⟩, -⟩ := hW
  by_cases h : n = 0
  · rw [(h3 h).1]; decide
  · have := h2 (by omega); omega
/-- what the law's loop knows -/
def LX (p : Program) (l : Launch) (s : State) (m : MethodId) (meth : Method) (c : Code) (bq L : Nat) (xs : Nat → Int32) (D : va_G) (cs sa a b : Nat → Nat) (o od : Nat) : Prop :=
  lw_At p s m meth c bq L xs ∧ (∀ w ∈ wsL_law, w.before #[Value.ref bq] s = true) ∧ l.stackTraces = false ∧ L ≤ 2560 ∧ xK D cs s ∧ xT sa s ∧ xNc s ∧ ZT (fun q : Nat => s.heap.size ≤ q) s s.heap ∧ Ap a b o od s.heap.size
/-- where a round of the loop ends -/
def LK (p : Program) (l : Launch) (e : Env) (s : State) (m : MethodId) (below : List Frame) (meth : Method) (c : Code) (bq : Nat) (D : va_G) (cs a b : Nat → Nat) (o od : Nat) (Q : State → Prop) (i cells slots : Nat) : Prop :=
  ∀ (M R : Nat → Nat → Int32) (N g : Nat → Int64) (gd : Nat → UInt64) (H : Heap) (locs : List Loc) (ls : Array Slot), SimE M N R → LJ D cs a b o od M N R g gd H → va_S (fun q : Nat => s.heap.size ≤ q) s.heap H locs → lv_has ls 9 [(5, .int (nI i)), (4, .ref od), (3, .ref o), (2, .ref (b 0)), (1, .ref (a 0)), (0, .ref bq)] → W p l e room_1 s m #[Value.ref bq] below meth c H locs (cells + 10) (slots + 200) Q (F0 m 2008 ls [])

theorem lfit2 {x y z w z2 w2 : Nat} (h : x + 10 ≤ 601024) (h2 : y + 200 ≤ 7293034) (hz : z + z2 ≤ 10) (hw : w + w2 ≤ 200) : x + z + z2 ≤ room_1.cells ∧ y + w + w2 ≤ room_1.slots := ⟨by show x + z + z2 ≤ 601024; omega, by show y + w + w2 ≤ 7293034; omega⟩
theorem lfit3 {x y z w z2 w2 : Nat} (h : x + 10 ≤ 601024) (h2 : y + 200 ≤ 7293034) (hz : z + z2 ≤ 10) (hw : w + w2 ≤ 200) : x + z + z2 + 0 ≤ room_1.cells ∧ y + w + w2 + 0 ≤ room_1.slots := ⟨by show x + z + z2 + 0 ≤ 601024; omega, by show y + w + w2 + 0 ≤ 7293034; omega⟩
theorem lfin {p : Program} {l : Launch} {e : Env} {s : State} {m : MethodId} {below : List Frame} {meth : Method} {c : Code} {bq : Nat} {D : va_G} {cs a b : Nat → Nat} {o od : Nat} {Q : State → Prop} {i cells slots : Nat} {M R : Nat → Nat → Int32} {N g : Nat → Int64} {gd : Nat → UInt64} {H : Heap} {locs : List Loc} {ls : Array Slot} {z w z2 w2 : Nat} (hkk : LK p l e s m below meth c bq D cs a b o od Q i cells slots) (h1 : SimE M N R) (h2 : LJ D cs a b o od M N R g gd H) (h3 : va_S (fun q : Nat => s.heap.size ≤ q) s.heap H locs) (h4 : lv_has ls 9 [(5, .int (nI i)), (4, .ref od), (3, .ref o), (2, .ref (b 0)), (1, .ref (a 0)), (0, .ref bq)]) (hz : z + z2 ≤ 10) (hw : w + w2 ≤ 200) : W p l e room_1 s m #[Value.ref bq] below meth c H locs (cells + z + z2) (slots + w + w2) Q (F0 m 2008 ls []) :=
  W.widen (k := cells + 10) (n := slots + 200) (by omega) (by omega) (hkk M R N g gd H locs ls h1 h2 h3 h4)

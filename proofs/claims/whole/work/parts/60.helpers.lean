/-! The law's helpers: each calls the class and catches what it throws. -/
def xNc (U : State) : Prop := va_Nc "java/lang/IllegalStateException" "java/lang/IllegalArgumentException" U ∧ va_Nc "java/lang/IllegalStateException" "java/lang/IndexOutOfBoundsException" U ∧ va_Nc "java/lang/IllegalArgumentException" "java/lang/IndexOutOfBoundsException" U ∧ va_Nc "java/lang/IndexOutOfBoundsException" "java/lang/IllegalArgumentException" U
theorem xNc.moved {u U : State} (hvm : u.vm.Alike U.vm) (h : xNc u) : xNc U := ⟨h.1.moved hvm, h.2.1.moved hvm, h.2.2.1.moved hvm, h.2.2.2.moved hvm⟩
def xo (cs : Nat → ClassId) (a : Nat → Nat) (M : Nat → Nat → Int32) (N : Nat → Int64) (o : Nat) (E : va_E) : va_W := xc cs a M N ++ [(o, E)]
abbrev oL (cs : Nat → ClassId) (g : Nat → Int64) : va_E := .inl (cs 1, 1, .inr (.inl g))
abbrev oDb (cs : Nat → ClassId) (g : Nat → UInt64) : va_E := .inl (cs 4, 1, .inr (.inr (.inr (.inl g))))
def kO (a : Nat → Nat) (o sz : Nat) : Nat → Prop := fun q => kA a 29 sz q ∨ q = o
def LBT (D : va_G) (cs sa : Nat → Nat) (a : Nat → Nat) (o : Nat) (ws : va_W) (sz : Nat) (U : State) : Prop := U.heap.size = sz ∧ va_P D vwCl ws U.heap ∧ xK D cs U ∧ xT sa U ∧ ZT (kO a o sz) U U.heap ∧ xNc U
theorem xoP {D : va_G} {cl : List vw_C} {cs : Nat → ClassId} {a : Nat → Nat} {M : Nat → Nat → Int32} {N : Nat → Int64} {o : Nat} {E : va_E} {H : Heap} (h : va_P D cl (xo cs a M N o E) H) : va_P D cl (xc cs a M N) H := fun k x hk => h k x (by
  have hl : k < (xc cs a M N).length := (List.getElem?_eq_some_iff.mp hk).1
  show (xc cs a M N ++ _)[k]? = some x
  rw [List.getElem?_append_left hl]; exact hk)
theorem xoE {D : va_G} {cl : List vw_C} {cs : Nat → ClassId} {a : Nat → Nat} {M : Nat → Nat → Int32} {N : Nat → Int64} {o : Nat} {E : va_E} {H : Heap} (h : va_P D cl (xo cs a M N o E) H) : va_at D cl (o, E) H := h 29 _ rfl
theorem xo_join {D : va_G} {cl : List vw_C} {cs : Nat → ClassId} {a : Nat → Nat} {M u : Nat → Nat → Int32} {N N1 : Nat → Int64} {o : Nat} {E : va_E} {H H1 : Heap} (hPo : va_P D cl (xo cs a M N o E) H) (ho : ∀ k, k < 29 → a k ≠ o) (hB : va_P D cl (xc cs a u N1) H1) (hk : ∀ q : Nat, q < H.size → ¬ kA a 29 H.size q → H1[q]? = H[q]?) : va_P D cl (xo cs a u N1 o E) H1 := by
  have hq : va_P D cl [(o, E)] H := fun k x hk => by
    cases k with
    | zero => cases hk; exact xoE hPo
    | succ k => cases hk
  have hlt : o < H.size := (hq 0 (o, E) rfl).lt
  refine hB.app (hq.kept (fun k x hx => ?_))
  cases k with
  | zero =>
    cases hx
    refine hk o hlt ?_
    rintro (⟨j, hj, he⟩ | h)
    · exact ho j hj he
    · exact absurd hlt (Nat.not_lt.mpr h)
  | succ k => cases hx
theorem xoD {cs : Nat → ClassId} {a : Nat → Nat} {M : Nat → Nat → Int32} {N : Nat → Int64} {o sz : Nat} {E : va_E} (hI : kI a 29) (ho : ∀ k, k < 29 → a k ≠ o) : va_D (kO a o sz) (xo cs a M N o E) := by
  have key : ∀ (k : Nat) (q : Nat × va_E), (xo cs a M N o E)[k]? = some q → k < 29 ∧ q.1 = a k ∨ k = 29 ∧ q.1 = o := by
    intro k q hk
    have h1 : ((xo cs a M N o E).map Prod.fst)[k]? = some q.1 := by rw [List.getElem?_map, hk]; rfl
    have e : (xo cs a M N o E).map Prod.fst = (List.range 29).map a ++ [o] := rfl
    rw [e] at h1
    have hl : k < ((List.range 29).map a ++ [o]).length := (List.getElem?_eq_some_iff.mp h1).1
    have hl2 : k < 30 := hl
    by_cases h : k < 29
    · rw [List.getElem?_append_left (by simpa using h), List.getElem?_map, List.getElem?_range h] at h1
      exact Or.inl ⟨h, (Option.some.inj h1).symm⟩
    · have hk29 : k = 29 := by omega
      subst hk29
      exact Or.inr ⟨rfl, (Option.some.inj (show some o = some q.1 from h1)).symm⟩
  refine ⟨fun i j p q hi hj he => ?_, fun k q hk => ?_⟩
  · rcases key i p hi with ⟨h1, h2⟩ | ⟨h1, h2⟩ <;> rcases key j q hj with ⟨g1, g2⟩ | ⟨g1, g2⟩
    · exact hI i j h1 g1 (h2.symm.trans (he.trans g2))
    · exact absurd (h2.symm.trans (he.trans g2)) (ho i h1)
    · exact absurd (g2.symm.trans (he.symm.trans h2)) (ho j g1)
    · omega
  · rcases key k q hk with ⟨h1, h2⟩ | ⟨h1, h2⟩
    · exact Or.inl (Or.inl ⟨k, h1, h2.symm⟩)
    · exact Or.inr h2
section LawH
variable {p : Program} {l : Launch} {e : Env} {R : Room} {s : State} {m : MethodId} {args : Array Value} {below : List Frame} {meth : Method} {c : Code} {H H0 : Heap} {locs : List Loc} {cells slots : Nat} {Q : State → Prop} {pc : Nat} {ls : Array Slot} {rest : List Value} {cc : ByteArray} {D : va_G} {cl : List vw_C} {ws : va_W} {A : Nat → Prop} {cs sa : Nat → Nat} {a : Nat → Nat} {M : Nat → Nat → Int32} {N N1 : Nat → Int64} {o : Nat} {E0 : va_E}
theorem xpreVL {b : Nat} {As : List Value} {ci : Nat} {q : vw_C} {fs : List Value} (hP : va_P D vwCl ws H) (hK : xK D cs s) (hT : xT sa s) (hZ : ZT A s s.heap) (hS : va_S A s.heap H locs) (hF : ∀ q, kA a 29 H.size q → A q) (q0 : Nat) (hc : vwCl[ci]? = some q) (he : ws[q0]? = some (b, .inr (ci, fs))) : PreV s H q.1 b (va_Pc (.ref b :: As) (XBT D cs sa a ws H.size)) As := by
  refine ⟨fun _ U g mk h => ⟨h.1, h.2.1, h.2.2.1, ⟨va_K.moved (u := U) (U := U.calling g mk _) (Vm.Alike.refl U.vm) h.2.2.2.1.1, h.2.2.2.1.2.same rfl⟩, h.2.2.2.2.1.same rfl, ZT.moved (u := U) (U := U.calling g mk _) (Vm.Alike.refl U.vm) h.2.2.2.2.2⟩, va_recv hK.1 hP hc he, fun U hU hW => ⟨rfl, by rw [hU], by rw [hU]; exact hP, hK.warm hW, hT.warm hW, ?_⟩⟩
  rw [hU]
  exact ((hZ.kept hS.2.1).narrow hF).moved hW.alike
theorem xcallLi {rel : Int32 → (Nat → Nat → Int32) → Prop} {XE : String → (Nat → Nat → Int32) → Prop} {a1 : Array Value} {st0 : List Value} {mc ms : Nat} (hr : vx_Run p l e R s m args below meth c H locs cells slots mc ms (F0 m pc ls st0) rest (va_Qi (fun r u => rel r u) (fun u t => va_P D vwCl (xc cs a u N1) t.heap) (kA a 29 H.size) a1) (XX D (fun u => xc cs a u N) XE (kA a 29 H.size)) (kA a 29 H.size)) (hS : va_S A H0 H locs) (hF : ∀ q, kA a 29 H.size q → A q) (hPo : va_P D vwCl (xo cs a M N o E0) H) (ho : ∀ k, k < 29 → a k ≠ o)
    (kx : ∀ (E : String) (ce : Cell) (q9 : Addr) (u : Nat → Nat → Int32) (H1 : Heap) (locs1 : List Loc), XE E u → va_P D vwCl (xo cs a u N o E0) H1 → va_S A H0 H1 locs1 → H1[q9]? = some ce → ce.vm = .none → s.vm.findClass E = some ce.cls → vx_W p l e R s m args below meth c H1 locs1 (cells + mc) (slots + ms) Q (F0 m pc ls rest) q9)
    (kk : ∀ (r : Int32) (u : Nat → Nat → Int32) (H1 : Heap) (locs1 : List Loc), rel r u → va_P D vwCl (xo cs a u N1 o E0) H1 → va_S A H0 H1 locs1 → W p l e R s m args below meth c H1 locs1 (cells + mc) (slots + ms) Q (F0 m (pc + 3) ls (.int r :: rest))) : W p l e R s m args below meth c H locs cells slots Q (F0 m pc ls st0) :=
  vx_calli hr hS (fun q _ h => hF q h) hF (fun q _ h => hF q h) (fun E ce q9 u t H1 locs1 ht _ _ hB _ hk hS1 h1 h2 h3 => kx E ce q9 u H1 locs1 hB.1 (xo_join hPo ho (by rw [← ht]; exact hB.2) hk) hS1 h1 h2 h3) (fun r u t H1 locs1 ht _ hw hB _ hk hS1 => kk r u H1 locs1 hw (xo_join hPo ho (by rw [← ht]; exact hB) hk) hS1)
theorem xcallLd {rel : UInt64 → (Nat → Nat → Int32) → Prop} {XE : String → (Nat → Nat → Int32) → Prop} {a1 : Array Value} {st0 : List Value} {mc ms : Nat} (hr : vx_Run p l e R s m args below meth c H locs cells slots mc ms (F0 m pc ls st0) rest (va_Qd (fun r u => rel r u) (fun u t => va_P D vwCl (xc cs a u N1) t.heap) (kA a 29 H.size) a1) (XX D (fun u => xc cs a u N) XE (kA a 29 H.size)) (kA a 29 H.size)) (hS : va_S A H0 H locs) (hF : ∀ q, kA a 29 H.size q → A q) (hPo : va_P D vwCl (xo cs a M N o E0) H) (ho : ∀ k, k < 29 → a k ≠ o)
    (kx : ∀ (E : String) (ce : Cell) (q9 : Addr) (u : Nat → Nat → Int32) (H1 : Heap) (locs1 : List Loc), XE E u → va_P D vwCl (xo cs a u N o E0) H1 → va_S A H0 H1 locs1 → H1[q9]? = some ce → ce.vm = .none → s.vm.findClass E = some ce.cls → vx_W p l e R s m args below meth c H1 locs1 (cells + mc) (slots + ms) Q (F0 m pc ls rest) q9)
    (kk : ∀ (r : UInt64) (u : Nat → Nat → Int32) (H1 : Heap) (locs1 : List Loc), rel r u → va_P D vwCl (xo cs a u N1 o E0) H1 → va_S A H0 H1 locs1 → W p l e R s m args below meth c H1 locs1 (cells + mc) (slots + ms) Q (F0 m (pc + 3) ls (.double r :: rest))) : W p l e R s m args below meth c H locs cells slots Q (F0 m pc ls st0) :=
  vx_calld hr hS (fun q _ h => hF q h) hF (fun q _ h => hF q h) (fun E ce q9 u t H1 locs1 ht _ _ hB _ hk hS1 h1 h2 h3 => kx E ce q9 u H1 locs1 hB.1 (xo_join hPo ho (by rw [← ht]; exact hB.2) hk) hS1 h1 h2 h3) (fun r u t H1 locs1 ht _ hw hB _ hk hS1 => kk r u H1 locs1 hw (xo_join hPo ho (by rw [← ht]; exact hB) hk) hS1)
theorem kO_le {a : Nat → Nat} {o sz z : Nat} (h : sz ≤ z) : ∀ q, kA a 29 z q → kO a o sz q := fun q hq => Or.inl (kAle h q hq)
end LawH
set_option maxHeartbeats 4000000 in
set_option maxRecDepth 100000 in
theorem c_L_addWorld (l : Launch) (hl0 : l.stackTraces = false) (D : va_G) (cs sa : Nat → Nat) (a : Nat → Nat) (M : Nat → Nat → Int32) (N : Nat → Int64) (o : Nat) (g0 : Nat → Int64) (sz : Nat) (hI : kI a 29) (ho : ∀ k, k < 29 → a k ≠ o) (n : Nat) (x : Int32) (hn : M 0 0 = nI n) (hn24 : n ≤ 24) : Met l yL_addWorld wsL_addWorld ({ frames := 9, cells := 2, slots := 12, locals := 211 } : Room) (va_Pc [.ref (a 0), .int x, .ref o] (LBT D cs sa a o (xo cs a M N o (oL cs g0)) sz)) (va_Qi (fun r (u : (Nat → Nat → Int32) × (Nat → Int64)) => r = nI (if (isIn 64 x) = true then (if (decide (n < 24)) = true then 0 else 2) else 1) ∧ ((if (isIn 64 x) = true then (if (decide (n < 24)) = true then 0 else 2) else 1) = 0 → u.1 = wr (wr M 1 n x) 0 0 (nI (n + 1)) ∧ u.2 0 = (nI n).toInt64) ∧ (¬ (if (isIn 64 x) = true then (if (decide (n < 24)) = true then 0 else 2) else 1) = 0 → TX M u.1)) (fun u t => va_P D vwCl (xo cs a u.1 N o (oL cs u.2)) t.heap) (kO a o sz)) 2 12 (kO a o sz) := by
  refine va_MetW (cc := cL_addWorld) (maxL := 4) (ret := (some .int)) (hh := [(0, 9, 12, 13), (0, 9, 15, 15)]) (by decide) rfl ?_
  intro p e s m args below meth c s₁ B hml hv
  obtain ⟨rfl, hsz, hP, hK, hT, hZ, hNc⟩ := hv
  have hx := B.exec
  have hb := B.bytes
  have hr := B.returns
  have hts := atoms_spec (ws := wsL_addWorld) B.pre
  have hown : s.vm.findClass RL = some m.cls := findClass_of_methodNamed B.named
  have hlocks := B.notSynchronized
  have hK1 := hK.1
  have htb := vx_table (x := yL_addWorld) B (hts _ List.mem_cons_self)
  subst hsz
  have hS : va_S (kO a o s.heap.size) s.heap s.heap [] := va_S.rf
  have hl := lv_entry ([.ref (a 0), .int x, .ref o]) (n := 4) (Nat.le_of_ble_eq_true rfl)
  rw [lg_entry_eq]
  generalize (lg_sl ([.ref (a 0), .int x, .ref o]) ++ List.replicate (4 - (lg_sl ([.ref (a 0), .int x, .ref o])).length) Slot.unset).toArray = ls at hl ⊢
  have hl : lv_has ls 4 [(0, .ref (a 0)), (1, .int x), (2, .ref o)] := hl
  refine W_Q (fun Q hQ => ?_)
  refine lv_aload_n hx hb dL_addWorld_0 rfl (lv_at hl 2 rfl) ?_
  refine lv_iconst (v := nI 0) hx hb dL_addWorld_1 (by decide) ?_
  refine lv_aload_n hx hb dL_addWorld_2 rfl (lv_at hl 0 rfl) ?_
  refine lv_iload_n hx hb dL_addWorld_3 rfl (lv_at hl 1 rfl) ?_
  refine xcallLi (vx_runV (As := [.int x]) (rest := [.int (nI 0), .ref o]) ⟨hx, hb, hml, hown, hts⟩ (c_X4_addWorld l hl0 D cs sa a M N _ hI n x hn hn24) (cwV 1 hts gL_addWorld_X4_addWorld rfl rfl rfl (by decide +kernel) ⟨(Nat.le_of_ble_eq_true rfl), (Nat.le_of_ble_eq_true rfl)⟩) (xpreVL (xoP hP) hK hT hZ hS (kO_le hS.1) (ci := 4) 0 rfl rfl) rfl rfl hl.1 rfl (lv_room (Nat.le_of_ble_eq_true rfl)) dL_addWorld_4 ⟨(Nat.le_of_ble_eq_true rfl), (Nat.le_of_ble_eq_true rfl)⟩) hS (kO_le hS.1) hP ho (fun E ce q9 u9 H locs hXE hP hS hce hcv hcl => ?_) (fun r9 u9 H locs hrel hP hS => ?_)
  ·
    obtain ⟨hXE, hTX⟩ := hXE
    rcases hXE with ⟨rfl, hc⟩ | ⟨rfl, hc⟩
    ·
      refine vx_catch (E := "java/lang/IllegalArgumentException") (name := "java/lang/IllegalArgumentException") hown [] ⟨0, 9, 12, 13⟩ [⟨0, 9, 15, 15⟩] htb (fun z hz => nomatch hz) (by decide) (by decide) (hts (.classLink RL 13 "java/lang/IllegalArgumentException") (List.mem_of_getElem? (i := 1) rfl)) (va_Nw.use rfl hT.2.1) hce hcv hcl ?_
      refine lv_astore_n (lv' := [(3, .ref q9), (0, .ref (a 0)), (1, .int x), (2, .ref o)]) hx hb dL_addWorld_12 rfl hl (by decide) rfl (fun ls hl => ?_)
      refine lv_iconst (v := nI 1) hx hb dL_addWorld_13 (by decide) ?_
      subst hQ
      refine W.widen (k := 2) (n := 12) (by decide) (by decide) ?_
      have hcz : ¬ (if (isIn 64 x) = true then (if (decide (n < 24)) = true then 0 else 2) else 1) = 0 := by rw [hc]; decide
      exact W.iret hx hb hr (fun t ht hW => ⟨⟨_, (u9, g0), rfl, ⟨by rw [hc], fun h0 => absurd h0 hcz, fun _ => hTX⟩, by rw [← ht] at hP; exact hP⟩, hS.F ht⟩) hS.2.2 dL_addWorld_14
    ·
      refine vx_catch (E := "java/lang/IllegalStateException") (name := "java/lang/IllegalStateException") hown [⟨0, 9, 12, 13⟩] ⟨0, 9, 15, 15⟩ [] htb (by intro z hz; simp only [List.mem_cons, List.not_mem_nil, or_false] at hz; rcases hz with rfl; exact Or.inr ⟨by decide, "java/lang/IllegalArgumentException", hts (.classLink RL 13 "java/lang/IllegalArgumentException") (List.mem_of_getElem? (i := 1) rfl), hNc.1⟩) (by decide) (by decide) (hts (.classLink RL 15 "java/lang/IllegalStateException") (List.mem_of_getElem? (i := 2) rfl)) (va_Nw.use rfl hT.1) hce hcv hcl ?_
      refine lv_astore_n (lv' := [(3, .ref q9), (0, .ref (a 0)), (1, .int x), (2, .ref o)]) hx hb dL_addWorld_15 rfl hl (by decide) rfl (fun ls hl => ?_)
      refine lv_iconst (v := nI 2) hx hb dL_addWorld_16 (by decide) ?_
      subst hQ
      refine W.widen (k := 2) (n := 12) (by decide) (by decide) ?_
      have hcz : ¬ (if (isIn 64 x) = true then (if (decide (n < 24)) = true then 0 else 2) else 1) = 0 := by rw [hc]; decide
      exact W.iret hx hb hr (fun t ht hW => ⟨⟨_, (u9, g0), rfl, ⟨by rw [hc], fun h0 => absurd h0 hcz, fun _ => hTX⟩, by rw [← ht] at hP; exact hP⟩, hS.F ht⟩) hS.2.2 dL_addWorld_17
  ·
    obtain ⟨hr9, hcz, hrel⟩ := hrel
    refine lv_i2l (v := r9.toInt64) hx hb dL_addWorld_7 rfl ?_
    refine xlast (j := 0) (q0 := 29) (t0 := 1) (ws' := xo cs a u9 N o (oL cs (vp_updL g0 0 r9.toInt64))) hx hb hK1 hP (xoD hI ho) hS rfl rfl (by decide) (by decide) rfl dL_addWorld_8 (fun H locs hP hS => ?_)
    refine lv_goto (tgt := 18) hx hb dL_addWorld_9 (by decide) ?_
    refine lv_iconst (v := nI 0) hx hb dL_addWorld_18 (by decide) ?_
    subst hQ
    refine W.widen (k := 2) (n := 12) (by decide) (by decide) ?_
    exact W.iret hx hb hr (fun t ht hW => ⟨⟨_, (u9, vp_updL g0 0 r9.toInt64), rfl, ⟨by rw [hcz], fun _ => ⟨hrel, (show r9.toInt64 = _ from by rw [hr9])⟩, fun h0 => absurd hcz h0⟩, by rw [← ht] at hP; exact hP⟩, hS.F ht⟩) hS.2.2 dL_addWorld_19
set_option maxHeartbeats 4000000 in
set_option maxRecDepth 100000 in
theorem c_L_setAtoms (l : Launch) (hl0 : l.stackTraces = false) (D : va_G) (cs sa : Nat → Nat) (a : Nat → Nat) (M : Nat → Nat → Int32) (N : Nat → Int64) (o : Nat) (g0 : Nat → Int64) (sz : Nat) (hI : kI a 29) (ho : ∀ k, k < 29 → a k ≠ o) (n : Nat) (x : Int32) (y : Int32) (hn : M 0 0 = nI n) (hn24 : n ≤ 24) : Met l yL_setAtoms wsL_setAtoms ({ frames := 9, cells := 2, slots := 12, locals := 211 } : Room) (va_Pc [.ref (a 0), .int x, .int y, .ref o] (LBT D cs sa a o (xo cs a M N o (oL cs g0)) sz)) (va_Qi (fun r (u : (Nat → Nat → Int32) × (Nat → Int64)) => r = nI (if (isIn n x) = true then (if (isIn 64 y) = true then 0 else 2) else 1) ∧ ((if (isIn n x) = true then (if (isIn 64 y) = true then 0 else 2) else 1) = 0 → u.1 = wr M 1 x.toNatClampNeg y ∧ u.2 0 = (M 1 x.toNatClampNeg).toInt64) ∧ (¬ (if (isIn n x) = true then (if (isIn 64 y) = true then 0 else 2) else 1) = 0 → TX M u.1)) (fun u t => va_P D vwCl (xo cs a u.1 N o (oL cs u.2)) t.heap) (kO a o sz)) 2 12 (kO a o sz) := by
  refine va_MetW (cc := cL_setAtoms) (maxL := 5) (ret := (some .int)) (hh := [(0, 10, 13, 21), (0, 10, 17, 13)]) (by decide) rfl ?_
  intro p e s m args below meth c s₁ B hml hv
  obtain ⟨rfl, hsz, hP, hK, hT, hZ, hNc⟩ := hv
  have hx := B.exec
  have hb := B.bytes
  have hr := B.returns
  have hts := atoms_spec (ws := wsL_setAtoms) B.pre
  have hown : s.vm.findClass RL = some m.cls := findClass_of_methodNamed B.named
  have hlocks := B.notSynchronized
  have hK1 := hK.1
  have htb := vx_table (x := yL_setAtoms) B (hts _ List.mem_cons_self)
  subst hsz
  have hS : va_S (kO a o s.heap.size) s.heap s.heap [] := va_S.rf
  have hl := lv_entry ([.ref (a 0), .int x, .int y, .ref o]) (n := 5) (Nat.le_of_ble_eq_true rfl)
  rw [lg_entry_eq]
  generalize (lg_sl ([.ref (a 0), .int x, .int y, .ref o]) ++ List.replicate (5 - (lg_sl ([.ref (a 0), .int x, .int y, .ref o])).length) Slot.unset).toArray = ls at hl ⊢
  have hl : lv_has ls 5 [(0, .ref (a 0)), (1, .int x), (2, .int y), (3, .ref o)] := hl
  refine W_Q (fun Q hQ => ?_)
  refine lv_aload_n hx hb dL_setAtoms_0 rfl (lv_at hl 3 rfl) ?_
  refine lv_iconst (v := nI 0) hx hb dL_setAtoms_1 (by decide) ?_
  refine lv_aload_n hx hb dL_setAtoms_2 rfl (lv_at hl 0 rfl) ?_
  refine lv_iload_n hx hb dL_setAtoms_3 rfl (lv_at hl 1 rfl) ?_
  refine lv_iload_n hx hb dL_setAtoms_4 rfl (lv_at hl 2 rfl) ?_
  refine xcallLi (vx_runV (As := [.int x, .int y]) (rest := [.int (nI 0), .ref o]) ⟨hx, hb, hml, hown, hts⟩ (c_X4_setAtoms l hl0 D cs sa a M N _ hI n x y hn hn24) (cwV 2 hts gL_setAtoms_X4_setAtoms rfl rfl rfl (by decide +kernel) ⟨(Nat.le_of_ble_eq_true rfl), (Nat.le_of_ble_eq_true rfl)⟩) (xpreVL (xoP hP) hK hT hZ hS (kO_le hS.1) (ci := 4) 0 rfl rfl) rfl rfl hl.1 rfl (lv_room (Nat.le_of_ble_eq_true rfl)) dL_setAtoms_5 ⟨(Nat.le_of_ble_eq_true rfl), (Nat.le_of_ble_eq_true rfl)⟩) hS (kO_le hS.1) hP ho (fun E ce q9 u9 H locs hXE hP hS hce hcv hcl => ?_) (fun r9 u9 H locs hrel hP hS => ?_)
  ·
    obtain ⟨hXE, hTX⟩ := hXE
    rcases hXE with ⟨rfl, hc⟩ | ⟨rfl, hc⟩
    ·
      refine vx_catch (E := "java/lang/IndexOutOfBoundsException") (name := "java/lang/IndexOutOfBoundsException") hown [] ⟨0, 10, 13, 21⟩ [⟨0, 10, 17, 13⟩] htb (fun z hz => nomatch hz) (by decide) (by decide) (hts (.classLink RL 21 "java/lang/IndexOutOfBoundsException") (List.mem_of_getElem? (i := 1) rfl)) (va_Nw.use rfl hT.2.2.1) hce hcv hcl ?_
      refine lv_astore (lv' := [(4, .ref q9), (0, .ref (a 0)), (1, .int x), (2, .int y), (3, .ref o)]) hx hb dL_setAtoms_13 hl (by decide) rfl (fun ls hl => ?_)
      refine lv_iconst (v := nI 1) hx hb dL_setAtoms_15 (by decide) ?_
      subst hQ
      refine W.widen (k := 2) (n := 12) (by decide) (by decide) ?_
      have hcz : ¬ (if (isIn n x) = true then (if (isIn 64 y) = true then 0 else 2) else 1) = 0 := by rw [hc]; decide
      exact W.iret hx hb hr (fun t ht hW => ⟨⟨_, (u9, g0), rfl, ⟨by rw [hc], fun h0 => absurd h0 hcz, fun _ => hTX⟩, by rw [← ht] at hP; exact hP⟩, hS.F ht⟩) hS.2.2 dL_setAtoms_16
    ·
      refine vx_catch (E := "java/lang/IllegalArgumentException") (name := "java/lang/IllegalArgumentException") hown [⟨0, 10, 13, 21⟩] ⟨0, 10, 17, 13⟩ [] htb (by intro z hz; simp only [List.mem_cons, List.not_mem_nil, or_false] at hz; rcases hz with rfl; exact Or.inr ⟨by decide, "java/lang/IndexOutOfBoundsException", hts (.classLink RL 21 "java/lang/IndexOutOfBoundsException") (List.mem_of_getElem? (i := 1) rfl), hNc.2.2.1⟩) (by decide) (by decide) (hts (.classLink RL 13 "java/lang/IllegalArgumentException") (List.mem_of_getElem? (i := 2) rfl)) (va_Nw.use rfl hT.2.1) hce hcv hcl ?_
      refine lv_astore (lv' := [(4, .ref q9), (0, .ref (a 0)), (1, .int x), (2, .int y), (3, .ref o)]) hx hb dL_setAtoms_17 hl (by decide) rfl (fun ls hl => ?_)
      refine lv_iconst (v := nI 2) hx hb dL_setAtoms_19 (by decide) ?_
      subst hQ
      refine W.widen (k := 2) (n := 12) (by decide) (by decide) ?_
      have hcz : ¬ (if (isIn n x) = true then (if (isIn 64 y) = true then 0 else 2) else 1) = 0 := by rw [hc]; decide
      exact W.iret hx hb hr (fun t ht hW => ⟨⟨_, (u9, g0), rfl, ⟨by rw [hc], fun h0 => absurd h0 hcz, fun _ => hTX⟩, by rw [← ht] at hP; exact hP⟩, hS.F ht⟩) hS.2.2 dL_setAtoms_20
  ·
    obtain ⟨hr9, hcz, hrel⟩ := hrel
    refine lv_i2l (v := r9.toInt64) hx hb dL_setAtoms_8 rfl ?_
    refine xlast (j := 0) (q0 := 29) (t0 := 1) (ws' := xo cs a u9 N o (oL cs (vp_updL g0 0 r9.toInt64))) hx hb hK1 hP (xoD hI ho) hS rfl rfl (by decide) (by decide) rfl dL_setAtoms_9 (fun H locs hP hS => ?_)
    refine lv_goto (tgt := 21) hx hb dL_setAtoms_10 (by decide) ?_
    refine lv_iconst (v := nI 0) hx hb dL_setAtoms_21 (by decide) ?_
    subst hQ
    refine W.widen (k := 2) (n := 12) (by decide) (by decide) ?_
    exact W.iret hx hb hr (fun t ht hW => ⟨⟨_, (u9, vp_updL g0 0 r9.toInt64), rfl, ⟨by rw [hcz], fun _ => ⟨hrel, (show r9.toInt64 = _ from by rw [hr9])⟩, fun h0 => absurd hcz h0⟩, by rw [← ht] at hP; exact hP⟩, hS.F ht⟩) hS.2.2 dL_setAtoms_22
set_option maxHeartbeats 4000000 in
set_option maxRecDepth 100000 in
theorem c_L_connect (l : Launch) (hl0 : l.stackTraces = false) (D : va_G) (cs sa : Nat → Nat) (a : Nat → Nat) (M : Nat → Nat → Int32) (N : Nat → Int64) (o : Nat) (g0 : Nat → Int64) (sz : Nat) (hI : kI a 29) (ho : ∀ k, k < 29 → a k ≠ o) (n : Nat) (x : Int32) (y : Int32) (z : Int32) (on : Bool) (hn : M 0 0 = nI n) (hn24 : n ≤ 24) : Met l yL_connect wsL_connect ({ frames := 9, cells := 3, slots := 18, locals := 211 } : Room) (va_Pc [.ref (a 0), .int x, .int y, .int z, .int (bI on), .ref o] (LBT D cs sa a o (xo cs a M N o (oL cs g0)) sz)) (va_Qi (fun r (u : (Nat → Nat → Int32) × (Nat → Int64)) => r = nI (if (isIn 4 x) = true then (if (isIn n y) = true then (if (isIn n z) = true then 0 else 1) else 1) else 1) ∧ ((if (isIn 4 x) = true then (if (isIn n y) = true then (if (isIn n z) = true then 0 else 1) else 1) else 1) = 0 → u.1 = wr M (2 + x.toNatClampNeg) y.toNatClampNeg (if on = true then M (2 + x.toNatClampNeg) y.toNatClampNeg ||| sg z.toNatClampNeg else M (2 + x.toNatClampNeg) y.toNatClampNeg &&& (sg z.toNatClampNeg ^^^ (-1))) ∧ u.2 0 = (if (bt (M (2 + x.toNatClampNeg) y.toNatClampNeg) z.toNatClampNeg) = true then (1 : Int64) else 0)) ∧ (¬ (if (isIn 4 x) = true then (if (isIn n y) = true then (if (isIn n z) = true then 0 else 1) else 1) else 1) = 0 → TX M u.1)) (fun u t => va_P D vwCl (xo cs a u.1 N o (oL cs u.2)) t.heap) (kO a o sz)) 3 18 (kO a o sz) := by
  refine va_MetW (cc := cL_connect) (maxL := 7) (ret := (some .int)) (hh := [(0, 21, 24, 21)]) (by decide) rfl ?_
  intro p e s m args below meth c s₁ B hml hv
  obtain ⟨rfl, hsz, hP, hK, hT, hZ, hNc⟩ := hv
  have hx := B.exec
  have hb := B.bytes
  have hr := B.returns
  have hts := atoms_spec (ws := wsL_connect) B.pre
  have hown : s.vm.findClass RL = some m.cls := findClass_of_methodNamed B.named
  have hlocks := B.notSynchronized
  have hK1 := hK.1
  have htb := vx_table (x := yL_connect) B (hts _ List.mem_cons_self)
  subst hsz
  have hS : va_S (kO a o s.heap.size) s.heap s.heap [] := va_S.rf
  have hl := lv_entry ([.ref (a 0), .int x, .int y, .int z, .int (bI on), .ref o]) (n := 7) (Nat.le_of_ble_eq_true rfl)
  rw [lg_entry_eq]
  generalize (lg_sl ([.ref (a 0), .int x, .int y, .int z, .int (bI on), .ref o]) ++ List.replicate (7 - (lg_sl ([.ref (a 0), .int x, .int y, .int z, .int (bI on), .ref o])).length) Slot.unset).toArray = ls at hl ⊢
  have hl : lv_has ls 7 [(0, .ref (a 0)), (1, .int x), (2, .int y), (3, .int z), (4, .int (bI on)), (5, .ref o)] := hl
  refine W_Q (fun Q hQ => ?_)
  refine lv_aload hx hb dL_connect_0 (lv_at hl 5 rfl) ?_
  refine lv_iconst (v := nI 0) hx hb dL_connect_2 (by decide) ?_
  refine lv_aload_n hx hb dL_connect_3 rfl (lv_at hl 0 rfl) ?_
  refine lv_iload_n hx hb dL_connect_4 rfl (lv_at hl 1 rfl) ?_
  refine lv_iload_n hx hb dL_connect_5 rfl (lv_at hl 2 rfl) ?_
  refine lv_iload_n hx hb dL_connect_6 rfl (lv_at hl 3 rfl) ?_
  refine lv_iload hx hb dL_connect_7 (lv_at hl 4 rfl) ?_
  refine xcallLi (vx_runV (As := [.int x, .int y, .int z, .int (bI on)]) (rest := [.int (nI 0), .ref o]) ⟨hx, hb, hml, hown, hts⟩ (c_X4_connect l hl0 D cs sa a M N _ hI n x y z on hn hn24) (cwV 4 hts gL_connect_X4_connect rfl rfl rfl (by decide +kernel) ⟨(Nat.le_of_ble_eq_true rfl), (Nat.le_of_ble_eq_true rfl)⟩) (xpreVL (xoP hP) hK hT hZ hS (kO_le hS.1) (ci := 4) 0 rfl rfl) rfl rfl hl.1 rfl (lv_room (Nat.le_of_ble_eq_true rfl)) dL_connect_9 ⟨(Nat.le_of_ble_eq_true rfl), (Nat.le_of_ble_eq_true rfl)⟩) hS (kO_le hS.1) hP ho (fun E ce q9 u9 H locs hXE hP hS hce hcv hcl => ?_) (fun r9 u9 H locs hrel hP hS => ?_)
  ·
    obtain ⟨hXE, hTX⟩ := hXE
    rcases hXE with ⟨rfl, hc⟩
    ·
      refine vx_catch (E := "java/lang/IndexOutOfBoundsException") (name := "java/lang/IndexOutOfBoundsException") hown [] ⟨0, 21, 24, 21⟩ [] htb (fun z hz => nomatch hz) (by decide) (by decide) (hts (.classLink RL 21 "java/lang/IndexOutOfBoundsException") (List.mem_of_getElem? (i := 1) rfl)) (va_Nw.use rfl hT.2.2.1) hce hcv hcl ?_
      refine lv_astore (lv' := [(6, .ref q9), (0, .ref (a 0)), (1, .int x), (2, .int y), (3, .int z), (4, .int (bI on)), (5, .ref o)]) hx hb dL_connect_24 hl (by decide) rfl (fun ls hl => ?_)
      refine lv_iconst (v := nI 1) hx hb dL_connect_26 (by decide) ?_
      subst hQ
      refine W.widen (k := 3) (n := 18) (by decide) (by decide) ?_
      have hcz : ¬ (if (isIn 4 x) = true then (if (isIn n y) = true then (if (isIn n z) = true then 0 else 1) else 1) else 1) = 0 := by rw [hc]; decide
      exact W.iret hx hb hr (fun t ht hW => ⟨⟨_, (u9, g0), rfl, ⟨by rw [hc], fun h0 => absurd h0 hcz, fun _ => hTX⟩, by rw [← ht] at hP; exact hP⟩, hS.F ht⟩) hS.2.2 dL_connect_27
  ·
    obtain ⟨hr9, hcz, hrel⟩ := hrel
    refine lv_if_eq (tgt := 19) hx hb dL_connect_12 (by decide) (fun c9 => ?_) (fun c9 => ?_)
    ·
      rw [hr9] at c9
      have hb9 : (bt (M (2 + x.toNatClampNeg) y.toNatClampNeg) z.toNatClampNeg) = false := bI_0 c9
      refine lv_lconst (v := 0) hx hb dL_connect_19 (by decide) ?_
      refine xlast (j := 0) (q0 := 29) (t0 := 1) (ws' := xo cs a u9 N o (oL cs (vp_updL g0 0 (0 : Int64)))) hx hb hK1 hP (xoD hI ho) hS rfl rfl (by decide) (by decide) rfl dL_connect_20 (fun H locs hP hS => ?_)
      refine lv_goto (tgt := 28) hx hb dL_connect_21 (by decide) ?_
      refine lv_iconst (v := nI 0) hx hb dL_connect_28 (by decide) ?_
      subst hQ
      refine W.widen (k := 3) (n := 18) (by decide) (by decide) ?_
      exact W.iret hx hb hr (fun t ht hW => ⟨⟨_, (u9, vp_updL g0 0 (0 : Int64)), rfl, ⟨by rw [hcz], fun _ => ⟨hrel, (show (0 : Int64) = _ from by rw [hb9]; rfl)⟩, fun h0 => absurd hcz h0⟩, by rw [← ht] at hP; exact hP⟩, hS.F ht⟩) hS.2.2 dL_connect_29
    ·
      rw [hr9] at c9
      have hb9 : (bt (M (2 + x.toNatClampNeg) y.toNatClampNeg) z.toNatClampNeg) = true := bI_n0 c9
      refine lv_lconst (v := 1) hx hb dL_connect_15 (by decide) ?_
      refine lv_goto (tgt := 20) hx hb dL_connect_16 (by decide) ?_
      refine xlast (j := 0) (q0 := 29) (t0 := 1) (ws' := xo cs a u9 N o (oL cs (vp_updL g0 0 (1 : Int64)))) hx hb hK1 hP (xoD hI ho) hS rfl rfl (by decide) (by decide) rfl dL_connect_20 (fun H locs hP hS => ?_)
      refine lv_goto (tgt := 28) hx hb dL_connect_21 (by decide) ?_
      refine lv_iconst (v := nI 0) hx hb dL_connect_28 (by decide) ?_
      subst hQ
      refine W.widen (k := 3) (n := 18) (by decide) (by decide) ?_
      exact W.iret hx hb hr (fun t ht hW => ⟨⟨_, (u9, vp_updL g0 0 (1 : Int64)), rfl, ⟨by rw [hcz], fun _ => ⟨hrel, (show (1 : Int64) = _ from by rw [hb9]; rfl)⟩, fun h0 => absurd hcz h0⟩, by rw [← ht] at hP; exact hP⟩, hS.F ht⟩) hS.2.2 dL_connect_29
set_option maxHeartbeats 4000000 in
set_option maxRecDepth 100000 in
theorem c_L_gather (l : Launch) (hl0 : l.stackTraces = false) (D : va_G) (cs sa : Nat → Nat) (a : Nat → Nat) (M : Nat → Nat → Int32) (N : Nat → Int64) (o : Nat) (g0 : Nat → Int64) (sz : Nat) (hI : kI a 29) (ho : ∀ k, k < 29 → a k ≠ o) (n : Nat) (x : Int32) (set : Int32) (hn : M 0 0 = nI n) (hn24 : n ≤ 24) : Met l yL_gather wsL_gather ({ frames := 9, cells := 2, slots := 12, locals := 211 } : Room) (va_Pc [.ref (a 0), .int x, .int set, .ref o] (LBT D cs sa a o (xo cs a M N o (oL cs g0)) sz)) (va_Qi (fun r (u : (Nat → Nat → Int32) × (Nat → Int64)) => r = nI (if (isIn 4 x) = true then (if (decide ((set &&& ((sg n - nI 1) ^^^ (-1))) = 0)) = true then 0 else 2) else 1) ∧ ((if (isIn 4 x) = true then (if (decide ((set &&& ((sg n - nI 1) ^^^ (-1))) = 0)) = true then 0 else 2) else 1) = 0 → u.1 = joinC M x.toNatClampNeg set n ∧ u.2 0 = (joinN M x.toNatClampNeg set n).toInt64) ∧ (¬ (if (isIn 4 x) = true then (if (decide ((set &&& ((sg n - nI 1) ^^^ (-1))) = 0)) = true then 0 else 2) else 1) = 0 → TX M u.1)) (fun u t => va_P D vwCl (xo cs a u.1 N o (oL cs u.2)) t.heap) (kO a o sz)) 2 12 (kO a o sz) := by
  refine va_MetW (cc := cL_gather) (maxL := 5) (ret := (some .int)) (hh := [(0, 10, 13, 21), (0, 10, 17, 13)]) (by decide) rfl ?_
  intro p e s m args below meth c s₁ B hml hv
  obtain ⟨rfl, hsz, hP, hK, hT, hZ, hNc⟩ := hv
  have hx := B.exec
  have hb := B.bytes
  have hr := B.returns
  have hts := atoms_spec (ws := wsL_gather) B.pre
  have hown : s.vm.findClass RL = some m.cls := findClass_of_methodNamed B.named
  have hlocks := B.notSynchronized
  have hK1 := hK.1
  have htb := vx_table (x := yL_gather) B (hts _ List.mem_cons_self)
  subst hsz
  have hS : va_S (kO a o s.heap.size) s.heap s.heap [] := va_S.rf
  have hl := lv_entry ([.ref (a 0), .int x, .int set, .ref o]) (n := 5) (Nat.le_of_ble_eq_true rfl)
  rw [lg_entry_eq]
  generalize (lg_sl ([.ref (a 0), .int x, .int set, .ref o]) ++ List.replicate (5 - (lg_sl ([.ref (a 0), .int x, .int set, .ref o])).length) Slot.unset).toArray = ls at hl ⊢
  have hl : lv_has ls 5 [(0, .ref (a 0)), (1, .int x), (2, .int set), (3, .ref o)] := hl
  refine W_Q (fun Q hQ => ?_)
  refine lv_aload_n hx hb dL_gather_0 rfl (lv_at hl 3 rfl) ?_
  refine lv_iconst (v := nI 0) hx hb dL_gather_1 (by decide) ?_
  refine lv_aload_n hx hb dL_gather_2 rfl (lv_at hl 0 rfl) ?_
  refine lv_iload_n hx hb dL_gather_3 rfl (lv_at hl 1 rfl) ?_
  refine lv_iload_n hx hb dL_gather_4 rfl (lv_at hl 2 rfl) ?_
  refine xcallLi (vx_runV (As := [.int x, .int set]) (rest := [.int (nI 0), .ref o]) ⟨hx, hb, hml, hown, hts⟩ (c_X4_gather l hl0 D cs sa a M N _ hI n x set hn hn24) (cwV 2 hts gL_gather_X4_gather rfl rfl rfl (by decide +kernel) ⟨(Nat.le_of_ble_eq_true rfl), (Nat.le_of_ble_eq_true rfl)⟩) (xpreVL (xoP hP) hK hT hZ hS (kO_le hS.1) (ci := 4) 0 rfl rfl) rfl rfl hl.1 rfl (lv_room (Nat.le_of_ble_eq_true rfl)) dL_gather_5 ⟨(Nat.le_of_ble_eq_true rfl), (Nat.le_of_ble_eq_true rfl)⟩) hS (kO_le hS.1) hP ho (fun E ce q9 u9 H locs hXE hP hS hce hcv hcl => ?_) (fun r9 u9 H locs hrel hP hS => ?_)
  ·
    obtain ⟨hXE, hTX⟩ := hXE
    rcases hXE with ⟨rfl, hc⟩ | ⟨rfl, hc⟩
    ·
      refine vx_catch (E := "java/lang/IndexOutOfBoundsException") (name := "java/lang/IndexOutOfBoundsException") hown [] ⟨0, 10, 13, 21⟩ [⟨0, 10, 17, 13⟩] htb (fun z hz => nomatch hz) (by decide) (by decide) (hts (.classLink RL 21 "java/lang/IndexOutOfBoundsException") (List.mem_of_getElem? (i := 1) rfl)) (va_Nw.use rfl hT.2.2.1) hce hcv hcl ?_
      refine lv_astore (lv' := [(4, .ref q9), (0, .ref (a 0)), (1, .int x), (2, .int set), (3, .ref o)]) hx hb dL_gather_13 hl (by decide) rfl (fun ls hl => ?_)
      refine lv_iconst (v := nI 1) hx hb dL_gather_15 (by decide) ?_
      subst hQ
      refine W.widen (k := 2) (n := 12) (by decide) (by decide) ?_
      have hcz : ¬ (if (isIn 4 x) = true then (if (decide ((set &&& ((sg n - nI 1) ^^^ (-1))) = 0)) = true then 0 else 2) else 1) = 0 := by rw [hc]; decide
      exact W.iret hx hb hr (fun t ht hW => ⟨⟨_, (u9, g0), rfl, ⟨by rw [hc], fun h0 => absurd h0 hcz, fun _ => hTX⟩, by rw [← ht] at hP; exact hP⟩, hS.F ht⟩) hS.2.2 dL_gather_16
    ·
      refine vx_catch (E := "java/lang/IllegalArgumentException") (name := "java/lang/IllegalArgumentException") hown [⟨0, 10, 13, 21⟩] ⟨0, 10, 17, 13⟩ [] htb (by intro z hz; simp only [List.mem_cons, List.not_mem_nil, or_false] at hz; rcases hz with rfl; exact Or.inr ⟨by decide, "java/lang/IndexOutOfBoundsException", hts (.classLink RL 21 "java/lang/IndexOutOfBoundsException") (List.mem_of_getElem? (i := 1) rfl), hNc.2.2.1⟩) (by decide) (by decide) (hts (.classLink RL 13 "java/lang/IllegalArgumentException") (List.mem_of_getElem? (i := 2) rfl)) (va_Nw.use rfl hT.2.1) hce hcv hcl ?_
      refine lv_astore (lv' := [(4, .ref q9), (0, .ref (a 0)), (1, .int x), (2, .int set), (3, .ref o)]) hx hb dL_gather_17 hl (by decide) rfl (fun ls hl => ?_)
      refine lv_iconst (v := nI 2) hx hb dL_gather_19 (by decide) ?_
      subst hQ
      refine W.widen (k := 2) (n := 12) (by decide) (by decide) ?_
      have hcz : ¬ (if (isIn 4 x) = true then (if (decide ((set &&& ((sg n - nI 1) ^^^ (-1))) = 0)) = true then 0 else 2) else 1) = 0 := by rw [hc]; decide
      exact W.iret hx hb hr (fun t ht hW => ⟨⟨_, (u9, g0), rfl, ⟨by rw [hc], fun h0 => absurd h0 hcz, fun _ => hTX⟩, by rw [← ht] at hP; exact hP⟩, hS.F ht⟩) hS.2.2 dL_gather_20
  ·
    obtain ⟨hr9, hcz, hrel⟩ := hrel
    refine lv_i2l (v := r9.toInt64) hx hb dL_gather_8 rfl ?_
    refine xlast (j := 0) (q0 := 29) (t0 := 1) (ws' := xo cs a u9 N o (oL cs (vp_updL g0 0 r9.toInt64))) hx hb hK1 hP (xoD hI ho) hS rfl rfl (by decide) (by decide) rfl dL_gather_9 (fun H locs hP hS => ?_)
    refine lv_goto (tgt := 21) hx hb dL_gather_10 (by decide) ?_
    refine lv_iconst (v := nI 0) hx hb dL_gather_21 (by decide) ?_
    subst hQ
    refine W.widen (k := 2) (n := 12) (by decide) (by decide) ?_
    exact W.iret hx hb hr (fun t ht hW => ⟨⟨_, (u9, vp_updL g0 0 r9.toInt64), rfl, ⟨by rw [hcz], fun _ => ⟨hrel, (show r9.toInt64 = _ from by rw [hr9])⟩, fun h0 => absurd hcz h0⟩, by rw [← ht] at hP; exact hP⟩, hS.F ht⟩) hS.2.2 dL_gather_22
set_option maxHeartbeats 4000000 in
set_option maxRecDepth 100000 in
theorem c_L_setActual (l : Launch) (hl0 : l.stackTraces = false) (D : va_G) (cs sa : Nat → Nat) (a : Nat → Nat) (M : Nat → Nat → Int32) (N : Nat → Int64) (o : Nat) (g0 : Nat → Int64) (sz : Nat) (hI : kI a 29) (ho : ∀ k, k < 29 → a k ≠ o) (n : Nat) (act : Nat) (x : Int32) (hn : M 0 0 = nI n) (hn24 : n ≤ 24) (hact : M 0 1 = nI act) (ha24 : act < 24) : Met l yL_setActual wsL_setActual ({ frames := 9, cells := 1, slots := 6, locals := 211 } : Room) (va_Pc [.ref (a 0), .int x, .ref o] (LBT D cs sa a o (xo cs a M N o (oL cs g0)) sz)) (va_Qi (fun r (u : (Nat → Nat → Int32) × (Nat → Int64)) => r = nI (if (isIn n x) = true then 0 else 1) ∧ ((if (isIn n x) = true then 0 else 1) = 0 → u.1 = wr M 0 1 x ∧ u.2 0 = (nI act).toInt64) ∧ (¬ (if (isIn n x) = true then 0 else 1) = 0 → TX M u.1)) (fun u t => va_P D vwCl (xo cs a u.1 N o (oL cs u.2)) t.heap) (kO a o sz)) 1 6 (kO a o sz) := by
  refine va_MetW (cc := cL_setActual) (maxL := 4) (ret := (some .int)) (hh := [(0, 9, 12, 21)]) (by decide) rfl ?_
  intro p e s m args below meth c s₁ B hml hv
  obtain ⟨rfl, hsz, hP, hK, hT, hZ, hNc⟩ := hv
  have hx := B.exec
  have hb := B.bytes
  have hr := B.returns
  have hts := atoms_spec (ws := wsL_setActual) B.pre
  have hown : s.vm.findClass RL = some m.cls := findClass_of_methodNamed B.named
  have hlocks := B.notSynchronized
  have hK1 := hK.1
  have htb := vx_table (x := yL_setActual) B (hts _ List.mem_cons_self)
  subst hsz
  have hS : va_S (kO a o s.heap.size) s.heap s.heap [] := va_S.rf
  have hl := lv_entry ([.ref (a 0), .int x, .ref o]) (n := 4) (Nat.le_of_ble_eq_true rfl)
  rw [lg_entry_eq]
  generalize (lg_sl ([.ref (a 0), .int x, .ref o]) ++ List.replicate (4 - (lg_sl ([.ref (a 0), .int x, .ref o])).length) Slot.unset).toArray = ls at hl ⊢
  have hl : lv_has ls 4 [(0, .ref (a 0)), (1, .int x), (2, .ref o)] := hl
  refine W_Q (fun Q hQ => ?_)
  refine lv_aload_n hx hb dL_setActual_0 rfl (lv_at hl 2 rfl) ?_
  refine lv_iconst (v := nI 0) hx hb dL_setActual_1 (by decide) ?_
  refine lv_aload_n hx hb dL_setActual_2 rfl (lv_at hl 0 rfl) ?_
  refine lv_iload_n hx hb dL_setActual_3 rfl (lv_at hl 1 rfl) ?_
  refine xcallLi (vx_runV (As := [.int x]) (rest := [.int (nI 0), .ref o]) ⟨hx, hb, hml, hown, hts⟩ (c_X4_setActual l hl0 D cs sa a M N _ hI n act x hn hn24 hact ha24) (cwV 1 hts gL_setActual_X4_setActual rfl rfl rfl (by decide +kernel) ⟨(Nat.le_of_ble_eq_true rfl), (Nat.le_of_ble_eq_true rfl)⟩) (xpreVL (xoP hP) hK hT hZ hS (kO_le hS.1) (ci := 4) 0 rfl rfl) rfl rfl hl.1 rfl (lv_room (Nat.le_of_ble_eq_true rfl)) dL_setActual_4 ⟨(Nat.le_of_ble_eq_true rfl), (Nat.le_of_ble_eq_true rfl)⟩) hS (kO_le hS.1) hP ho (fun E ce q9 u9 H locs hXE hP hS hce hcv hcl => ?_) (fun r9 u9 H locs hrel hP hS => ?_)
  ·
    obtain ⟨hXE, hTX⟩ := hXE
    rcases hXE with ⟨rfl, hc⟩
    ·
      refine vx_catch (E := "java/lang/IndexOutOfBoundsException") (name := "java/lang/IndexOutOfBoundsException") hown [] ⟨0, 9, 12, 21⟩ [] htb (fun z hz => nomatch hz) (by decide) (by decide) (hts (.classLink RL 21 "java/lang/IndexOutOfBoundsException") (List.mem_of_getElem? (i := 1) rfl)) (va_Nw.use rfl hT.2.2.1) hce hcv hcl ?_
      refine lv_astore_n (lv' := [(3, .ref q9), (0, .ref (a 0)), (1, .int x), (2, .ref o)]) hx hb dL_setActual_12 rfl hl (by decide) rfl (fun ls hl => ?_)
      refine lv_iconst (v := nI 1) hx hb dL_setActual_13 (by decide) ?_
      subst hQ
      refine W.widen (k := 1) (n := 6) (by decide) (by decide) ?_
      have hcz : ¬ (if (isIn n x) = true then 0 else 1) = 0 := by rw [hc]; decide
      exact W.iret hx hb hr (fun t ht hW => ⟨⟨_, (u9, g0), rfl, ⟨by rw [hc], fun h0 => absurd h0 hcz, fun _ => hTX⟩, by rw [← ht] at hP; exact hP⟩, hS.F ht⟩) hS.2.2 dL_setActual_14
  ·
    obtain ⟨hr9, hcz, hrel⟩ := hrel
    refine lv_i2l (v := r9.toInt64) hx hb dL_setActual_7 rfl ?_
    refine xlast (j := 0) (q0 := 29) (t0 := 1) (ws' := xo cs a u9 N o (oL cs (vp_updL g0 0 r9.toInt64))) hx hb hK1 hP (xoD hI ho) hS rfl rfl (by decide) (by decide) rfl dL_setActual_8 (fun H locs hP hS => ?_)
    refine lv_goto (tgt := 15) hx hb dL_setActual_9 (by decide) ?_
    refine lv_iconst (v := nI 0) hx hb dL_setActual_15 (by decide) ?_
    subst hQ
    refine W.widen (k := 1) (n := 6) (by decide) (by decide) ?_
    exact W.iret hx hb hr (fun t ht hW => ⟨⟨_, (u9, vp_updL g0 0 r9.toInt64), rfl, ⟨by rw [hcz], fun _ => ⟨hrel, (show r9.toInt64 = _ from by rw [hr9])⟩, fun h0 => absurd hcz h0⟩, by rw [← ht] at hP; exact hP⟩, hS.F ht⟩) hS.2.2 dL_setActual_16
set_option maxHeartbeats 4000000 in
set_option maxRecDepth 100000 in
theorem c_L_actual (l : Launch) (hl0 : l.stackTraces = false) (D : va_G) (cs sa : Nat → Nat) (a : Nat → Nat) (M : Nat → Nat → Int32) (N : Nat → Int64) (o : Nat) (g0 : Nat → Int64) (sz : Nat) (hI : kI a 29) (ho : ∀ k, k < 29 → a k ≠ o) (n : Nat) (act : Nat)  (hn : M 0 0 = nI n) (hn24 : n ≤ 24) (hact : M 0 1 = nI act) (ha24 : act < 24) : Met l yL_actual wsL_actual ({ frames := 9, cells := 1, slots := 6, locals := 211 } : Room) (va_Pc [.ref (a 0), .ref o] (LBT D cs sa a o (xo cs a M N o (oL cs g0)) sz)) (va_Qi (fun r (u : (Nat → Nat → Int32) × (Nat → Int64)) => r = nI (if (!decide (n = 0)) = true then 0 else 1) ∧ ((if (!decide (n = 0)) = true then 0 else 1) = 0 → u.1 = M ∧ u.2 0 = (nI act).toInt64) ∧ (¬ (if (!decide (n = 0)) = true then 0 else 1) = 0 → TX M u.1)) (fun u t => va_P D vwCl (xo cs a u.1 N o (oL cs u.2)) t.heap) (kO a o sz)) 1 6 (kO a o sz) := by
  refine va_MetW (cc := cL_actual) (maxL := 3) (ret := (some .int)) (hh := [(0, 8, 11, 15)]) (by decide) rfl ?_
  intro p e s m args below meth c s₁ B hml hv
  obtain ⟨rfl, hsz, hP, hK, hT, hZ, hNc⟩ := hv
  have hx := B.exec
  have hb := B.bytes
  have hr := B.returns
  have hts := atoms_spec (ws := wsL_actual) B.pre
  have hown : s.vm.findClass RL = some m.cls := findClass_of_methodNamed B.named
  have hlocks := B.notSynchronized
  have hK1 := hK.1
  have htb := vx_table (x := yL_actual) B (hts _ List.mem_cons_self)
  subst hsz
  have hS : va_S (kO a o s.heap.size) s.heap s.heap [] := va_S.rf
  have hl := lv_entry ([.ref (a 0), .ref o]) (n := 3) (Nat.le_of_ble_eq_true rfl)
  rw [lg_entry_eq]
  generalize (lg_sl ([.ref (a 0), .ref o]) ++ List.replicate (3 - (lg_sl ([.ref (a 0), .ref o])).length) Slot.unset).toArray = ls at hl ⊢
  have hl : lv_has ls 3 [(0, .ref (a 0)), (1, .ref o)] := hl
  refine W_Q (fun Q hQ => ?_)
  refine lv_aload_n hx hb dL_actual_0 rfl (lv_at hl 1 rfl) ?_
  refine lv_iconst (v := nI 0) hx hb dL_actual_1 (by decide) ?_
  refine lv_aload_n hx hb dL_actual_2 rfl (lv_at hl 0 rfl) ?_
  refine xcallLi (vx_runV (As := []) (rest := [.int (nI 0), .ref o]) ⟨hx, hb, hml, hown, hts⟩ (c_X4_actual l hl0 D cs sa a M N _ hI n act  hn hn24 hact ha24) (cwV 0 hts gL_actual_X4_actual rfl rfl rfl (by decide +kernel) ⟨(Nat.le_of_ble_eq_true rfl), (Nat.le_of_ble_eq_true rfl)⟩) (xpreVL (xoP hP) hK hT hZ hS (kO_le hS.1) (ci := 4) 0 rfl rfl) rfl rfl hl.1 rfl (lv_room (Nat.le_of_ble_eq_true rfl)) dL_actual_3 ⟨(Nat.le_of_ble_eq_true rfl), (Nat.le_of_ble_eq_true rfl)⟩) hS (kO_le hS.1) hP ho (fun E ce q9 u9 H locs hXE hP hS hce hcv hcl => ?_) (fun r9 u9 H locs hrel hP hS => ?_)
  ·
    obtain ⟨hXE, hTX⟩ := hXE
    rcases hXE with ⟨rfl, hc⟩
    ·
      refine vx_catch (E := "java/lang/IllegalStateException") (name := "java/lang/IllegalStateException") hown [] ⟨0, 8, 11, 15⟩ [] htb (fun z hz => nomatch hz) (by decide) (by decide) (hts (.classLink RL 15 "java/lang/IllegalStateException") (List.mem_of_getElem? (i := 1) rfl)) (va_Nw.use rfl hT.1) hce hcv hcl ?_
      refine lv_astore_n (lv' := [(2, .ref q9), (0, .ref (a 0)), (1, .ref o)]) hx hb dL_actual_11 rfl hl (by decide) rfl (fun ls hl => ?_)
      refine lv_iconst (v := nI 1) hx hb dL_actual_12 (by decide) ?_
      subst hQ
      refine W.widen (k := 1) (n := 6) (by decide) (by decide) ?_
      have hcz : ¬ (if (!decide (n = 0)) = true then 0 else 1) = 0 := by rw [hc]; decide
      exact W.iret hx hb hr (fun t ht hW => ⟨⟨_, (u9, g0), rfl, ⟨by rw [hc], fun h0 => absurd h0 hcz, fun _ => hTX⟩, by rw [← ht] at hP; exact hP⟩, hS.F ht⟩) hS.2.2 dL_actual_13
  ·
    obtain ⟨hr9, hcz, hrel⟩ := hrel
    refine lv_i2l (v := r9.toInt64) hx hb dL_actual_6 rfl ?_
    refine xlast (j := 0) (q0 := 29) (t0 := 1) (ws' := xo cs a u9 N o (oL cs (vp_updL g0 0 r9.toInt64))) hx hb hK1 hP (xoD hI ho) hS rfl rfl (by decide) (by decide) rfl dL_actual_7 (fun H locs hP hS => ?_)
    refine lv_goto (tgt := 14) hx hb dL_actual_8 (by decide) ?_
    refine lv_iconst (v := nI 0) hx hb dL_actual_14 (by decide) ?_
    subst hQ
    refine W.widen (k := 1) (n := 6) (by decide) (by decide) ?_
    exact W.iret hx hb hr (fun t ht hW => ⟨⟨_, (u9, vp_updL g0 0 r9.toInt64), rfl, ⟨by rw [hcz], fun _ => ⟨hrel, (show r9.toInt64 = _ from by rw [hr9])⟩, fun h0 => absurd hcz h0⟩, by rw [← ht] at hP; exact hP⟩, hS.F ht⟩) hS.2.2 dL_actual_15
set_option maxHeartbeats 4000000 in
set_option maxRecDepth 100000 in
theorem c_L_atoms (l : Launch) (hl0 : l.stackTraces = false) (D : va_G) (cs sa : Nat → Nat) (a : Nat → Nat) (M : Nat → Nat → Int32) (N : Nat → Int64) (o : Nat) (g0 : Nat → Int64) (sz : Nat) (hI : kI a 29) (ho : ∀ k, k < 29 → a k ≠ o) (n : Nat) (x : Int32) (hn : M 0 0 = nI n) (hn24 : n ≤ 24) : Met l yL_atoms wsL_atoms ({ frames := 9, cells := 1, slots := 6, locals := 211 } : Room) (va_Pc [.ref (a 0), .int x, .ref o] (LBT D cs sa a o (xo cs a M N o (oL cs g0)) sz)) (va_Qi (fun r (u : (Nat → Nat → Int32) × (Nat → Int64)) => r = nI (if (isIn n x) = true then 0 else 1) ∧ ((if (isIn n x) = true then 0 else 1) = 0 → u.1 = M ∧ u.2 0 = (M 1 x.toNatClampNeg).toInt64) ∧ (¬ (if (isIn n x) = true then 0 else 1) = 0 → TX M u.1)) (fun u t => va_P D vwCl (xo cs a u.1 N o (oL cs u.2)) t.heap) (kO a o sz)) 1 6 (kO a o sz) := by
  refine va_MetW (cc := cL_atoms) (maxL := 4) (ret := (some .int)) (hh := [(0, 9, 12, 21)]) (by decide) rfl ?_
  intro p e s m args below meth c s₁ B hml hv
  obtain ⟨rfl, hsz, hP, hK, hT, hZ, hNc⟩ := hv
  have hx := B.exec
  have hb := B.bytes
  have hr := B.returns
  have hts := atoms_spec (ws := wsL_atoms) B.pre
  have hown : s.vm.findClass RL = some m.cls := findClass_of_methodNamed B.named
  have hlocks := B.notSynchronized
  have hK1 := hK.1
  have htb := vx_table (x := yL_atoms) B (hts _ List.mem_cons_self)
  subst hsz
  have hS : va_S (kO a o s.heap.size) s.heap s.heap [] := va_S.rf
  have hl := lv_entry ([.ref (a 0), .int x, .ref o]) (n := 4) (Nat.le_of_ble_eq_true rfl)
  rw [lg_entry_eq]
  generalize (lg_sl ([.ref (a 0), .int x, .ref o]) ++ List.replicate (4 - (lg_sl ([.ref (a 0), .int x, .ref o])).length) Slot.unset).toArray = ls at hl ⊢
  have hl : lv_has ls 4 [(0, .ref (a 0)), (1, .int x), (2, .ref o)] := hl
  refine W_Q (fun Q hQ => ?_)
  refine lv_aload_n hx hb dL_atoms_0 rfl (lv_at hl 2 rfl) ?_
  refine lv_iconst (v := nI 0) hx hb dL_atoms_1 (by decide) ?_
  refine lv_aload_n hx hb dL_atoms_2 rfl (lv_at hl 0 rfl) ?_
  refine lv_iload_n hx hb dL_atoms_3 rfl (lv_at hl 1 rfl) ?_
  refine xcallLi (vx_runV (As := [.int x]) (rest := [.int (nI 0), .ref o]) ⟨hx, hb, hml, hown, hts⟩ (c_X4_atoms l hl0 D cs sa a M N _ hI n x hn hn24) (cwV 1 hts gL_atoms_X4_atoms rfl rfl rfl (by decide +kernel) ⟨(Nat.le_of_ble_eq_true rfl), (Nat.le_of_ble_eq_true rfl)⟩) (xpreVL (xoP hP) hK hT hZ hS (kO_le hS.1) (ci := 4) 0 rfl rfl) rfl rfl hl.1 rfl (lv_room (Nat.le_of_ble_eq_true rfl)) dL_atoms_4 ⟨(Nat.le_of_ble_eq_true rfl), (Nat.le_of_ble_eq_true rfl)⟩) hS (kO_le hS.1) hP ho (fun E ce q9 u9 H locs hXE hP hS hce hcv hcl => ?_) (fun r9 u9 H locs hrel hP hS => ?_)
  ·
    obtain ⟨hXE, hTX⟩ := hXE
    rcases hXE with ⟨rfl, hc⟩
    ·
      refine vx_catch (E := "java/lang/IndexOutOfBoundsException") (name := "java/lang/IndexOutOfBoundsException") hown [] ⟨0, 9, 12, 21⟩ [] htb (fun z hz => nomatch hz) (by decide) (by decide) (hts (.classLink RL 21 "java/lang/IndexOutOfBoundsException") (List.mem_of_getElem? (i := 1) rfl)) (va_Nw.use rfl hT.2.2.1) hce hcv hcl ?_
      refine lv_astore_n (lv' := [(3, .ref q9), (0, .ref (a 0)), (1, .int x), (2, .ref o)]) hx hb dL_atoms_12 rfl hl (by decide) rfl (fun ls hl => ?_)
      refine lv_iconst (v := nI 1) hx hb dL_atoms_13 (by decide) ?_
      subst hQ
      refine W.widen (k := 1) (n := 6) (by decide) (by decide) ?_
      have hcz : ¬ (if (isIn n x) = true then 0 else 1) = 0 := by rw [hc]; decide
      exact W.iret hx hb hr (fun t ht hW => ⟨⟨_, (u9, g0), rfl, ⟨by rw [hc], fun h0 => absurd h0 hcz, fun _ => hTX⟩, by rw [← ht] at hP; exact hP⟩, hS.F ht⟩) hS.2.2 dL_atoms_14
  ·
    obtain ⟨hr9, hcz, hrel⟩ := hrel
    refine lv_i2l (v := r9.toInt64) hx hb dL_atoms_7 rfl ?_
    refine xlast (j := 0) (q0 := 29) (t0 := 1) (ws' := xo cs a u9 N o (oL cs (vp_updL g0 0 r9.toInt64))) hx hb hK1 hP (xoD hI ho) hS rfl rfl (by decide) (by decide) rfl dL_atoms_8 (fun H locs hP hS => ?_)
    refine lv_goto (tgt := 15) hx hb dL_atoms_9 (by decide) ?_
    refine lv_iconst (v := nI 0) hx hb dL_atoms_15 (by decide) ?_
    subst hQ
    refine W.widen (k := 1) (n := 6) (by decide) (by decide) ?_
    exact W.iret hx hb hr (fun t ht hW => ⟨⟨_, (u9, vp_updL g0 0 r9.toInt64), rfl, ⟨by rw [hcz], fun _ => ⟨hrel, (show r9.toInt64 = _ from by rw [hr9])⟩, fun h0 => absurd hcz h0⟩, by rw [← ht] at hP; exact hP⟩, hS.F ht⟩) hS.2.2 dL_atoms_16
set_option maxHeartbeats 4000000 in
set_option maxRecDepth 100000 in
theorem c_L_seen (l : Launch) (hl0 : l.stackTraces = false) (D : va_G) (cs sa : Nat → Nat) (a : Nat → Nat) (M : Nat → Nat → Int32) (N : Nat → Int64) (o : Nat) (g0 : Nat → Int64) (sz : Nat) (hI : kI a 29) (ho : ∀ k, k < 29 → a k ≠ o) (n : Nat) (x : Int32) (y : Int32) (hn : M 0 0 = nI n) (hn24 : n ≤ 24) : Met l yL_seen wsL_seen ({ frames := 9, cells := 2, slots := 12, locals := 211 } : Room) (va_Pc [.ref (a 0), .int x, .int y, .ref o] (LBT D cs sa a o (xo cs a M N o (oL cs g0)) sz)) (va_Qi (fun r (u : (Nat → Nat → Int32) × (Nat → Int64)) => r = nI (if (isIn 4 x) = true then (if (isIn n y) = true then 0 else 1) else 1) ∧ ((if (isIn 4 x) = true then (if (isIn n y) = true then 0 else 1) else 1) = 0 → u.1 = M ∧ u.2 0 = (M (2 + x.toNatClampNeg) y.toNatClampNeg).toInt64) ∧ (¬ (if (isIn 4 x) = true then (if (isIn n y) = true then 0 else 1) else 1) = 0 → TX M u.1)) (fun u t => va_P D vwCl (xo cs a u.1 N o (oL cs u.2)) t.heap) (kO a o sz)) 2 12 (kO a o sz) := by
  refine va_MetW (cc := cL_seen) (maxL := 5) (ret := (some .int)) (hh := [(0, 10, 13, 21)]) (by decide) rfl ?_
  intro p e s m args below meth c s₁ B hml hv
  obtain ⟨rfl, hsz, hP, hK, hT, hZ, hNc⟩ := hv
  have hx := B.exec
  have hb := B.bytes
  have hr := B.returns
  have hts := atoms_spec (ws := wsL_seen) B.pre
  have hown : s.vm.findClass RL = some m.cls := findClass_of_methodNamed B.named
  have hlocks := B.notSynchronized
  have hK1 := hK.1
  have htb := vx_table (x := yL_seen) B (hts _ List.mem_cons_self)
  subst hsz
  have hS : va_S (kO a o s.heap.size) s.heap s.heap [] := va_S.rf
  have hl := lv_entry ([.ref (a 0), .int x, .int y, .ref o]) (n := 5) (Nat.le_of_ble_eq_true rfl)
  rw [lg_entry_eq]
  generalize (lg_sl ([.ref (a 0), .int x, .int y, .ref o]) ++ List.replicate (5 - (lg_sl ([.ref (a 0), .int x, .int y, .ref o])).length) Slot.unset).toArray = ls at hl ⊢
  have hl : lv_has ls 5 [(0, .ref (a 0)), (1, .int x), (2, .int y), (3, .ref o)] := hl
  refine W_Q (fun Q hQ => ?_)
  refine lv_aload_n hx hb dL_seen_0 rfl (lv_at hl 3 rfl) ?_
  refine lv_iconst (v := nI 0) hx hb dL_seen_1 (by decide) ?_
  refine lv_aload_n hx hb dL_seen_2 rfl (lv_at hl 0 rfl) ?_
  refine lv_iload_n hx hb dL_seen_3 rfl (lv_at hl 1 rfl) ?_
  refine lv_iload_n hx hb dL_seen_4 rfl (lv_at hl 2 rfl) ?_
  refine xcallLi (vx_runV (As := [.int x, .int y]) (rest := [.int (nI 0), .ref o]) ⟨hx, hb, hml, hown, hts⟩ (c_X4_seen l hl0 D cs sa a M N _ hI n x y hn hn24) (cwV 2 hts gL_seen_X4_seen rfl rfl rfl (by decide +kernel) ⟨(Nat.le_of_ble_eq_true rfl), (Nat.le_of_ble_eq_true rfl)⟩) (xpreVL (xoP hP) hK hT hZ hS (kO_le hS.1) (ci := 4) 0 rfl rfl) rfl rfl hl.1 rfl (lv_room (Nat.le_of_ble_eq_true rfl)) dL_seen_5 ⟨(Nat.le_of_ble_eq_true rfl), (Nat.le_of_ble_eq_true rfl)⟩) hS (kO_le hS.1) hP ho (fun E ce q9 u9 H locs hXE hP hS hce hcv hcl => ?_) (fun r9 u9 H locs hrel hP hS => ?_)
  ·
    obtain ⟨hXE, hTX⟩ := hXE
    rcases hXE with ⟨rfl, hc⟩
    ·
      refine vx_catch (E := "java/lang/IndexOutOfBoundsException") (name := "java/lang/IndexOutOfBoundsException") hown [] ⟨0, 10, 13, 21⟩ [] htb (fun z hz => nomatch hz) (by decide) (by decide) (hts (.classLink RL 21 "java/lang/IndexOutOfBoundsException") (List.mem_of_getElem? (i := 1) rfl)) (va_Nw.use rfl hT.2.2.1) hce hcv hcl ?_
      refine lv_astore (lv' := [(4, .ref q9), (0, .ref (a 0)), (1, .int x), (2, .int y), (3, .ref o)]) hx hb dL_seen_13 hl (by decide) rfl (fun ls hl => ?_)
      refine lv_iconst (v := nI 1) hx hb dL_seen_15 (by decide) ?_
      subst hQ
      refine W.widen (k := 2) (n := 12) (by decide) (by decide) ?_
      have hcz : ¬ (if (isIn 4 x) = true then (if (isIn n y) = true then 0 else 1) else 1) = 0 := by rw [hc]; decide
      exact W.iret hx hb hr (fun t ht hW => ⟨⟨_, (u9, g0), rfl, ⟨by rw [hc], fun h0 => absurd h0 hcz, fun _ => hTX⟩, by rw [← ht] at hP; exact hP⟩, hS.F ht⟩) hS.2.2 dL_seen_16
  ·
    obtain ⟨hr9, hcz, hrel⟩ := hrel
    refine lv_i2l (v := r9.toInt64) hx hb dL_seen_8 rfl ?_
    refine xlast (j := 0) (q0 := 29) (t0 := 1) (ws' := xo cs a u9 N o (oL cs (vp_updL g0 0 r9.toInt64))) hx hb hK1 hP (xoD hI ho) hS rfl rfl (by decide) (by decide) rfl dL_seen_9 (fun H locs hP hS => ?_)
    refine lv_goto (tgt := 17) hx hb dL_seen_10 (by decide) ?_
    refine lv_iconst (v := nI 0) hx hb dL_seen_17 (by decide) ?_
    subst hQ
    refine W.widen (k := 2) (n := 12) (by decide) (by decide) ?_
    exact W.iret hx hb hr (fun t ht hW => ⟨⟨_, (u9, vp_updL g0 0 r9.toInt64), rfl, ⟨by rw [hcz], fun _ => ⟨hrel, (show r9.toInt64 = _ from by rw [hr9])⟩, fun h0 => absurd hcz h0⟩, by rw [← ht] at hP; exact hP⟩, hS.F ht⟩) hS.2.2 dL_seen_18
set_option maxHeartbeats 4000000 in
set_option maxRecDepth 100000 in
theorem c_L_arrowCount (l : Launch) (hl0 : l.stackTraces = false) (D : va_G) (cs sa : Nat → Nat) (a : Nat → Nat) (M : Nat → Nat → Int32) (N : Nat → Int64) (o : Nat) (g0 : Nat → Int64) (sz : Nat) (hI : kI a 29) (ho : ∀ k, k < 29 → a k ≠ o) (n : Nat) (x : Int32) (hn : M 0 0 = nI n) (hn24 : n ≤ 24) : Met l yL_arrowCount wsL_arrowCount ({ frames := 9, cells := 1, slots := 6, locals := 211 } : Room) (va_Pc [.ref (a 0), .int x, .ref o] (LBT D cs sa a o (xo cs a M N o (oL cs g0)) sz)) (va_Qi (fun r (u : (Nat → Nat → Int32) × (Nat → Int64)) => r = nI (if (isIn 4 x) = true then 0 else 1) ∧ ((if (isIn 4 x) = true then 0 else 1) = 0 → u.1 = M ∧ u.2 0 = (countArr M n x.toNatClampNeg).toInt64) ∧ (¬ (if (isIn 4 x) = true then 0 else 1) = 0 → TX M u.1)) (fun u t => va_P D vwCl (xo cs a u.1 N o (oL cs u.2)) t.heap) (kO a o sz)) 1 6 (kO a o sz) := by
  refine va_MetW (cc := cL_arrowCount) (maxL := 4) (ret := (some .int)) (hh := [(0, 9, 12, 21)]) (by decide) rfl ?_
  intro p e s m args below meth c s₁ B hml hv
  obtain ⟨rfl, hsz, hP, hK, hT, hZ, hNc⟩ := hv
  have hx := B.exec
  have hb := B.bytes
  have hr := B.returns
  have hts := atoms_spec (ws := wsL_arrowCount) B.pre
  have hown : s.vm.findClass RL = some m.cls := findClass_of_methodNamed B.named
  have hlocks := B.notSynchronized
  have hK1 := hK.1
  have htb := vx_table (x := yL_arrowCount) B (hts _ List.mem_cons_self)
  subst hsz
  have hS : va_S (kO a o s.heap.size) s.heap s.heap [] := va_S.rf
  have hl := lv_entry ([.ref (a 0), .int x, .ref o]) (n := 4) (Nat.le_of_ble_eq_true rfl)
  rw [lg_entry_eq]
  generalize (lg_sl ([.ref (a 0), .int x, .ref o]) ++ List.replicate (4 - (lg_sl ([.ref (a 0), .int x, .ref o])).length) Slot.unset).toArray = ls at hl ⊢
  have hl : lv_has ls 4 [(0, .ref (a 0)), (1, .int x), (2, .ref o)] := hl
  refine W_Q (fun Q hQ => ?_)
  refine lv_aload_n hx hb dL_arrowCount_0 rfl (lv_at hl 2 rfl) ?_
  refine lv_iconst (v := nI 0) hx hb dL_arrowCount_1 (by decide) ?_
  refine lv_aload_n hx hb dL_arrowCount_2 rfl (lv_at hl 0 rfl) ?_
  refine lv_iload_n hx hb dL_arrowCount_3 rfl (lv_at hl 1 rfl) ?_
  refine xcallLi (vx_runV (As := [.int x]) (rest := [.int (nI 0), .ref o]) ⟨hx, hb, hml, hown, hts⟩ (c_X4_arrowCount l hl0 D cs sa a M N _ hI n x hn hn24) (cwV 1 hts gL_arrowCount_X4_arrowCount rfl rfl rfl (by decide +kernel) ⟨(Nat.le_of_ble_eq_true rfl), (Nat.le_of_ble_eq_true rfl)⟩) (xpreVL (xoP hP) hK hT hZ hS (kO_le hS.1) (ci := 4) 0 rfl rfl) rfl rfl hl.1 rfl (lv_room (Nat.le_of_ble_eq_true rfl)) dL_arrowCount_4 ⟨(Nat.le_of_ble_eq_true rfl), (Nat.le_of_ble_eq_true rfl)⟩) hS (kO_le hS.1) hP ho (fun E ce q9 u9 H locs hXE hP hS hce hcv hcl => ?_) (fun r9 u9 H locs hrel hP hS => ?_)
  ·
    obtain ⟨hXE, hTX⟩ := hXE
    rcases hXE with ⟨rfl, hc⟩
    ·
      refine vx_catch (E := "java/lang/IndexOutOfBoundsException") (name := "java/lang/IndexOutOfBoundsException") hown [] ⟨0, 9, 12, 21⟩ [] htb (fun z hz => nomatch hz) (by decide) (by decide) (hts (.classLink RL 21 "java/lang/IndexOutOfBoundsException") (List.mem_of_getElem? (i := 1) rfl)) (va_Nw.use rfl hT.2.2.1) hce hcv hcl ?_
      refine lv_astore_n (lv' := [(3, .ref q9), (0, .ref (a 0)), (1, .int x), (2, .ref o)]) hx hb dL_arrowCount_12 rfl hl (by decide) rfl (fun ls hl => ?_)
      refine lv_iconst (v := nI 1) hx hb dL_arrowCount_13 (by decide) ?_
      subst hQ
      refine W.widen (k := 1) (n := 6) (by decide) (by decide) ?_
      have hcz : ¬ (if (isIn 4 x) = true then 0 else 1) = 0 := by rw [hc]; decide
      exact W.iret hx hb hr (fun t ht hW => ⟨⟨_, (u9, g0), rfl, ⟨by rw [hc], fun h0 => absurd h0 hcz, fun _ => hTX⟩, by rw [← ht] at hP; exact hP⟩, hS.F ht⟩) hS.2.2 dL_arrowCount_14
  ·
    obtain ⟨hr9, hcz, hrel⟩ := hrel
    refine lv_i2l (v := r9.toInt64) hx hb dL_arrowCount_7 rfl ?_
    refine xlast (j := 0) (q0 := 29) (t0 := 1) (ws' := xo cs a u9 N o (oL cs (vp_updL g0 0 r9.toInt64))) hx hb hK1 hP (xoD hI ho) hS rfl rfl (by decide) (by decide) rfl dL_arrowCount_8 (fun H locs hP hS => ?_)
    refine lv_goto (tgt := 15) hx hb dL_arrowCount_9 (by decide) ?_
    refine lv_iconst (v := nI 0) hx hb dL_arrowCount_15 (by decide) ?_
    subst hQ
    refine W.widen (k := 1) (n := 6) (by decide) (by decide) ?_
    exact W.iret hx hb hr (fun t ht hW => ⟨⟨_, (u9, vp_updL g0 0 r9.toInt64), rfl, ⟨by rw [hcz], fun _ => ⟨hrel, (show r9.toInt64 = _ from by rw [hr9])⟩, fun h0 => absurd hcz h0⟩, by rw [← ht] at hP; exact hP⟩, hS.F ht⟩) hS.2.2 dL_arrowCount_16
set_option maxHeartbeats 4000000 in
set_option maxRecDepth 100000 in
theorem c_L_shape (l : Launch) (hl0 : l.stackTraces = false) (D : va_G) (cs sa : Nat → Nat) (a : Nat → Nat) (M : Nat → Nat → Int32) (N : Nat → Int64) (o : Nat) (g0 : Nat → Int64) (sz : Nat) (hI : kI a 29) (ho : ∀ k, k < 29 → a k ≠ o) (n : Nat) (x : Int32) (hn : M 0 0 = nI n) (hn24 : n ≤ 24) : Met l yL_shape wsL_shape ({ frames := 9, cells := 1, slots := 6, locals := 211 } : Room) (va_Pc [.ref (a 0), .int x, .ref o] (LBT D cs sa a o (xo cs a M N o (oL cs g0)) sz)) (va_Qi (fun r (u : (Nat → Nat → Int32) × (Nat → Int64)) => r = nI (if (isIn 4 x) = true then 0 else 1) ∧ ((if (isIn 4 x) = true then 0 else 1) = 0 → u.1 = M ∧ u.2 0 = (nI ((if isRefl M n x.toNatClampNeg = true then 1 else 0) + (if isSym M n x.toNatClampNeg = true then 2 else 0) + (if isTrans M n x.toNatClampNeg = true then 4 else 0))).toInt64) ∧ (¬ (if (isIn 4 x) = true then 0 else 1) = 0 → TX M u.1)) (fun u t => va_P D vwCl (xo cs a u.1 N o (oL cs u.2)) t.heap) (kO a o sz)) 1 6 (kO a o sz) := by
  refine va_MetW (cc := cL_shape) (maxL := 4) (ret := (some .int)) (hh := [(0, 9, 12, 21)]) (by decide) rfl ?_
  intro p e s m args below meth c s₁ B hml hv
  obtain ⟨rfl, hsz, hP, hK, hT, hZ, hNc⟩ := hv
  have hx := B.exec
  have hb := B.bytes
  have hr := B.returns
  have hts := atoms_spec (ws := wsL_shape) B.pre
  have hown : s.vm.findClass RL = some m.cls := findClass_of_methodNamed B.named
  have hlocks := B.notSynchronized
  have hK1 := hK.1
  have htb := vx_table (x := yL_shape) B (hts _ List.mem_cons_self)
  subst hsz
  have hS : va_S (kO a o s.heap.size) s.heap s.heap [] := va_S.rf
  have hl := lv_entry ([.ref (a 0), .int x, .ref o]) (n := 4) (Nat.le_of_ble_eq_true rfl)
  rw [lg_entry_eq]
  generalize (lg_sl ([.ref (a 0), .int x, .ref o]) ++ List.replicate (4 - (lg_sl ([.ref (a 0), .int x, .ref o])).length) Slot.unset).toArray = ls at hl ⊢
  have hl : lv_has ls 4 [(0, .ref (a 0)), (1, .int x), (2, .ref o)] := hl
  refine W_Q (fun Q hQ => ?_)
  refine lv_aload_n hx hb dL_shape_0 rfl (lv_at hl 2 rfl) ?_
  refine lv_iconst (v := nI 0) hx hb dL_shape_1 (by decide) ?_
  refine lv_aload_n hx hb dL_shape_2 rfl (lv_at hl 0 rfl) ?_
  refine lv_iload_n hx hb dL_shape_3 rfl (lv_at hl 1 rfl) ?_
  refine xcallLi (vx_runV (As := [.int x]) (rest := [.int (nI 0), .ref o]) ⟨hx, hb, hml, hown, hts⟩ (c_X4_shape l hl0 D cs sa a M N _ hI n x hn hn24) (cwV 1 hts gL_shape_X4_shape rfl rfl rfl (by decide +kernel) ⟨(Nat.le_of_ble_eq_true rfl), (Nat.le_of_ble_eq_true rfl)⟩) (xpreVL (xoP hP) hK hT hZ hS (kO_le hS.1) (ci := 4) 0 rfl rfl) rfl rfl hl.1 rfl (lv_room (Nat.le_of_ble_eq_true rfl)) dL_shape_4 ⟨(Nat.le_of_ble_eq_true rfl), (Nat.le_of_ble_eq_true rfl)⟩) hS (kO_le hS.1) hP ho (fun E ce q9 u9 H locs hXE hP hS hce hcv hcl => ?_) (fun r9 u9 H locs hrel hP hS => ?_)
  ·
    obtain ⟨hXE, hTX⟩ := hXE
    rcases hXE with ⟨rfl, hc⟩
    ·
      refine vx_catch (E := "java/lang/IndexOutOfBoundsException") (name := "java/lang/IndexOutOfBoundsException") hown [] ⟨0, 9, 12, 21⟩ [] htb (fun z hz => nomatch hz) (by decide) (by decide) (hts (.classLink RL 21 "java/lang/IndexOutOfBoundsException") (List.mem_of_getElem? (i := 1) rfl)) (va_Nw.use rfl hT.2.2.1) hce hcv hcl ?_
      refine lv_astore_n (lv' := [(3, .ref q9), (0, .ref (a 0)), (1, .int x), (2, .ref o)]) hx hb dL_shape_12 rfl hl (by decide) rfl (fun ls hl => ?_)
      refine lv_iconst (v := nI 1) hx hb dL_shape_13 (by decide) ?_
      subst hQ
      refine W.widen (k := 1) (n := 6) (by decide) (by decide) ?_
      have hcz : ¬ (if (isIn 4 x) = true then 0 else 1) = 0 := by rw [hc]; decide
      exact W.iret hx hb hr (fun t ht hW => ⟨⟨_, (u9, g0), rfl, ⟨by rw [hc], fun h0 => absurd h0 hcz, fun _ => hTX⟩, by rw [← ht] at hP; exact hP⟩, hS.F ht⟩) hS.2.2 dL_shape_14
  ·
    obtain ⟨hr9, hcz, hrel⟩ := hrel
    refine lv_i2l (v := r9.toInt64) hx hb dL_shape_7 rfl ?_
    refine xlast (j := 0) (q0 := 29) (t0 := 1) (ws' := xo cs a u9 N o (oL cs (vp_updL g0 0 r9.toInt64))) hx hb hK1 hP (xoD hI ho) hS rfl rfl (by decide) (by decide) rfl dL_shape_8 (fun H locs hP hS => ?_)
    refine lv_goto (tgt := 15) hx hb dL_shape_9 (by decide) ?_
    refine lv_iconst (v := nI 0) hx hb dL_shape_15 (by decide) ?_
    subst hQ
    refine W.widen (k := 1) (n := 6) (by decide) (by decide) ?_
    exact W.iret hx hb hr (fun t ht hW => ⟨⟨_, (u9, vp_updL g0 0 r9.toInt64), rfl, ⟨by rw [hcz], fun _ => ⟨hrel, (show r9.toInt64 = _ from by rw [hr9])⟩, fun h0 => absurd hcz h0⟩, by rw [← ht] at hP; exact hP⟩, hS.F ht⟩) hS.2.2 dL_shape_16
set_option maxHeartbeats 4000000 in
set_option maxRecDepth 100000 in
theorem c_L_atom (l : Launch) (hl0 : l.stackTraces = false) (D : va_G) (cs sa : Nat → Nat) (a : Nat → Nat) (M : Nat → Nat → Int32) (N : Nat → Int64) (o : Nat) (g0 : Nat → Int64) (sz : Nat) (hI : kI a 29) (ho : ∀ k, k < 29 → a k ≠ o) (nf : Nat) (x : Int32) (hfc : M 0 2 = nI nf) (hf40 : nf ≤ 40) : Met l yL_atom wsL_atom ({ frames := 9, cells := 2, slots := 12, locals := 211 } : Room) (va_Pc [.ref (a 0), .int x, .ref o] (LBT D cs sa a o (xo cs a M N o (oL cs g0)) sz)) (va_Qi (fun r (u : (Nat → Nat → Int32) × (Nat → Int64)) => r = nI (if (isIn 6 x) = true then (if (decide (nf < 40)) = true then 0 else 2) else 1) ∧ ((if (isIn 6 x) = true then (if (decide (nf < 40)) = true then 0 else 2) else 1) = 0 → u.1 = appM M nf 0 x (-1) (-1) ∧ u.2 0 = (nI nf).toInt64) ∧ (¬ (if (isIn 6 x) = true then (if (decide (nf < 40)) = true then 0 else 2) else 1) = 0 → TX M u.1)) (fun u t => va_P D vwCl (xo cs a u.1 (if (if (isIn 6 x) = true then (if (decide (nf < 40)) = true then 0 else 2) else 1) = 0 then appN N nf 0 (-1) (-1) else N) o (oL cs u.2)) t.heap) (kO a o sz)) 2 12 (kO a o sz) := by
  refine va_MetW (cc := cL_atom) (maxL := 4) (ret := (some .int)) (hh := [(0, 9, 12, 21), (0, 9, 15, 15)]) (by decide) rfl ?_
  intro p e s m args below meth c s₁ B hml hv
  obtain ⟨rfl, hsz, hP, hK, hT, hZ, hNc⟩ := hv
  have hx := B.exec
  have hb := B.bytes
  have hr := B.returns
  have hts := atoms_spec (ws := wsL_atom) B.pre
  have hown : s.vm.findClass RL = some m.cls := findClass_of_methodNamed B.named
  have hlocks := B.notSynchronized
  have hK1 := hK.1
  have htb := vx_table (x := yL_atom) B (hts _ List.mem_cons_self)
  subst hsz
  have hS : va_S (kO a o s.heap.size) s.heap s.heap [] := va_S.rf
  have hl := lv_entry ([.ref (a 0), .int x, .ref o]) (n := 4) (Nat.le_of_ble_eq_true rfl)
  rw [lg_entry_eq]
  generalize (lg_sl ([.ref (a 0), .int x, .ref o]) ++ List.replicate (4 - (lg_sl ([.ref (a 0), .int x, .ref o])).length) Slot.unset).toArray = ls at hl ⊢
  have hl : lv_has ls 4 [(0, .ref (a 0)), (1, .int x), (2, .ref o)] := hl
  refine W_Q (fun Q hQ => ?_)
  refine lv_aload_n hx hb dL_atom_0 rfl (lv_at hl 2 rfl) ?_
  refine lv_iconst (v := nI 0) hx hb dL_atom_1 (by decide) ?_
  refine lv_aload_n hx hb dL_atom_2 rfl (lv_at hl 0 rfl) ?_
  refine lv_iload_n hx hb dL_atom_3 rfl (lv_at hl 1 rfl) ?_
  refine xcallLi (vx_runV (As := [.int x]) (rest := [.int (nI 0), .ref o]) ⟨hx, hb, hml, hown, hts⟩ (c_X4_atom l hl0 D cs sa a M N _ hI nf x hfc hf40) (cwV 1 hts gL_atom_X4_atom rfl rfl rfl (by decide +kernel) ⟨(Nat.le_of_ble_eq_true rfl), (Nat.le_of_ble_eq_true rfl)⟩) (xpreVL (xoP hP) hK hT hZ hS (kO_le hS.1) (ci := 4) 0 rfl rfl) rfl rfl hl.1 rfl (lv_room (Nat.le_of_ble_eq_true rfl)) dL_atom_4 ⟨(Nat.le_of_ble_eq_true rfl), (Nat.le_of_ble_eq_true rfl)⟩) hS (kO_le hS.1) hP ho (fun E ce q9 u9 H locs hXE hP hS hce hcv hcl => ?_) (fun r9 u9 H locs hrel hP hS => ?_)
  ·
    obtain ⟨hXE, hTX⟩ := hXE
    rcases hXE with ⟨rfl, hc⟩ | ⟨rfl, hc⟩
    ·
      refine vx_catch (E := "java/lang/IndexOutOfBoundsException") (name := "java/lang/IndexOutOfBoundsException") hown [] ⟨0, 9, 12, 21⟩ [⟨0, 9, 15, 15⟩] htb (fun z hz => nomatch hz) (by decide) (by decide) (hts (.classLink RL 21 "java/lang/IndexOutOfBoundsException") (List.mem_of_getElem? (i := 1) rfl)) (va_Nw.use rfl hT.2.2.1) hce hcv hcl ?_
      refine lv_astore_n (lv' := [(3, .ref q9), (0, .ref (a 0)), (1, .int x), (2, .ref o)]) hx hb dL_atom_12 rfl hl (by decide) rfl (fun ls hl => ?_)
      refine lv_iconst (v := nI 1) hx hb dL_atom_13 (by decide) ?_
      subst hQ
      refine W.widen (k := 2) (n := 12) (by decide) (by decide) ?_
      have hcz : ¬ (if (isIn 6 x) = true then (if (decide (nf < 40)) = true then 0 else 2) else 1) = 0 := by rw [hc]; decide
      exact W.iret hx hb hr (fun t ht hW => ⟨⟨_, (u9, g0), rfl, ⟨by rw [hc], fun h0 => absurd h0 hcz, fun _ => hTX⟩, by rw [if_neg hcz]; rw [← ht] at hP; exact hP⟩, hS.F ht⟩) hS.2.2 dL_atom_14
    ·
      refine vx_catch (E := "java/lang/IllegalStateException") (name := "java/lang/IllegalStateException") hown [⟨0, 9, 12, 21⟩] ⟨0, 9, 15, 15⟩ [] htb (by intro z hz; simp only [List.mem_cons, List.not_mem_nil, or_false] at hz; rcases hz with rfl; exact Or.inr ⟨by decide, "java/lang/IndexOutOfBoundsException", hts (.classLink RL 21 "java/lang/IndexOutOfBoundsException") (List.mem_of_getElem? (i := 1) rfl), hNc.2.1⟩) (by decide) (by decide) (hts (.classLink RL 15 "java/lang/IllegalStateException") (List.mem_of_getElem? (i := 2) rfl)) (va_Nw.use rfl hT.1) hce hcv hcl ?_
      refine lv_astore_n (lv' := [(3, .ref q9), (0, .ref (a 0)), (1, .int x), (2, .ref o)]) hx hb dL_atom_15 rfl hl (by decide) rfl (fun ls hl => ?_)
      refine lv_iconst (v := nI 2) hx hb dL_atom_16 (by decide) ?_
      subst hQ
      refine W.widen (k := 2) (n := 12) (by decide) (by decide) ?_
      have hcz : ¬ (if (isIn 6 x) = true then (if (decide (nf < 40)) = true then 0 else 2) else 1) = 0 := by rw [hc]; decide
      exact W.iret hx hb hr (fun t ht hW => ⟨⟨_, (u9, g0), rfl, ⟨by rw [hc], fun h0 => absurd h0 hcz, fun _ => hTX⟩, by rw [if_neg hcz]; rw [← ht] at hP; exact hP⟩, hS.F ht⟩) hS.2.2 dL_atom_17
  ·
    obtain ⟨hr9, hcz, hrel⟩ := hrel
    refine lv_i2l (v := r9.toInt64) hx hb dL_atom_7 rfl ?_
    refine xlast (j := 0) (q0 := 29) (t0 := 1) (ws' := xo cs a u9 (appN N nf 0 (-1) (-1)) o (oL cs (vp_updL g0 0 r9.toInt64))) hx hb hK1 hP (xoD hI ho) hS rfl rfl (by decide) (by decide) rfl dL_atom_8 (fun H locs hP hS => ?_)
    refine lv_goto (tgt := 18) hx hb dL_atom_9 (by decide) ?_
    refine lv_iconst (v := nI 0) hx hb dL_atom_18 (by decide) ?_
    subst hQ
    refine W.widen (k := 2) (n := 12) (by decide) (by decide) ?_
    exact W.iret hx hb hr (fun t ht hW => ⟨⟨_, (u9, vp_updL g0 0 r9.toInt64), rfl, ⟨by rw [hcz], fun _ => ⟨hrel, (show r9.toInt64 = _ from by rw [hr9])⟩, fun h0 => absurd hcz h0⟩, by rw [if_pos hcz]; rw [← ht] at hP; exact hP⟩, hS.F ht⟩) hS.2.2 dL_atom_19
set_option maxHeartbeats 4000000 in
set_option maxRecDepth 100000 in
theorem c_L_not (l : Launch) (hl0 : l.stackTraces = false) (D : va_G) (cs sa : Nat → Nat) (a : Nat → Nat) (M : Nat → Nat → Int32) (N : Nat → Int64) (o : Nat) (g0 : Nat → Int64) (sz : Nat) (hI : kI a 29) (ho : ∀ k, k < 29 → a k ≠ o) (nf : Nat) (x : Int32) (hfc : M 0 2 = nI nf) (hf40 : nf ≤ 40) : Met l yL_not wsL_not ({ frames := 9, cells := 2, slots := 12, locals := 211 } : Room) (va_Pc [.ref (a 0), .int x, .ref o] (LBT D cs sa a o (xo cs a M N o (oL cs g0)) sz)) (va_Qi (fun r (u : (Nat → Nat → Int32) × (Nat → Int64)) => r = nI (if (isIn nf x) = true then (if (decide (nf < 40)) = true then 0 else 2) else 1) ∧ ((if (isIn nf x) = true then (if (decide (nf < 40)) = true then 0 else 2) else 1) = 0 → u.1 = appM M nf 1 (nI 0) x (-1) ∧ u.2 0 = (nI nf).toInt64) ∧ (¬ (if (isIn nf x) = true then (if (decide (nf < 40)) = true then 0 else 2) else 1) = 0 → TX M u.1)) (fun u t => va_P D vwCl (xo cs a u.1 (if (if (isIn nf x) = true then (if (decide (nf < 40)) = true then 0 else 2) else 1) = 0 then appN N nf 1 x (-1) else N) o (oL cs u.2)) t.heap) (kO a o sz)) 2 12 (kO a o sz) := by
  refine va_MetW (cc := cL_not) (maxL := 4) (ret := (some .int)) (hh := [(0, 9, 12, 21), (0, 9, 15, 15)]) (by decide) rfl ?_
  intro p e s m args below meth c s₁ B hml hv
  obtain ⟨rfl, hsz, hP, hK, hT, hZ, hNc⟩ := hv
  have hx := B.exec
  have hb := B.bytes
  have hr := B.returns
  have hts := atoms_spec (ws := wsL_not) B.pre
  have hown : s.vm.findClass RL = some m.cls := findClass_of_methodNamed B.named
  have hlocks := B.notSynchronized
  have hK1 := hK.1
  have htb := vx_table (x := yL_not) B (hts _ List.mem_cons_self)
  subst hsz
  have hS : va_S (kO a o s.heap.size) s.heap s.heap [] := va_S.rf
  have hl := lv_entry ([.ref (a 0), .int x, .ref o]) (n := 4) (Nat.le_of_ble_eq_true rfl)
  rw [lg_entry_eq]
  generalize (lg_sl ([.ref (a 0), .int x, .ref o]) ++ List.replicate (4 - (lg_sl ([.ref (a 0), .int x, .ref o])).length) Slot.unset).toArray = ls at hl ⊢
  have hl : lv_has ls 4 [(0, .ref (a 0)), (1, .int x), (2, .ref o)] := hl
  refine W_Q (fun Q hQ => ?_)
  refine lv_aload_n hx hb dL_not_0 rfl (lv_at hl 2 rfl) ?_
  refine lv_iconst (v := nI 0) hx hb dL_not_1 (by decide) ?_
  refine lv_aload_n hx hb dL_not_2 rfl (lv_at hl 0 rfl) ?_
  refine lv_iload_n hx hb dL_not_3 rfl (lv_at hl 1 rfl) ?_
  refine xcallLi (vx_runV (As := [.int x]) (rest := [.int (nI 0), .ref o]) ⟨hx, hb, hml, hown, hts⟩ (c_X4_not l hl0 D cs sa a M N _ hI nf x hfc hf40) (cwV 1 hts gL_not_X4_not rfl rfl rfl (by decide +kernel) ⟨(Nat.le_of_ble_eq_true rfl), (Nat.le_of_ble_eq_true rfl)⟩) (xpreVL (xoP hP) hK hT hZ hS (kO_le hS.1) (ci := 4) 0 rfl rfl) rfl rfl hl.1 rfl (lv_room (Nat.le_of_ble_eq_true rfl)) dL_not_4 ⟨(Nat.le_of_ble_eq_true rfl), (Nat.le_of_ble_eq_true rfl)⟩) hS (kO_le hS.1) hP ho (fun E ce q9 u9 H locs hXE hP hS hce hcv hcl => ?_) (fun r9 u9 H locs hrel hP hS => ?_)
  ·
    obtain ⟨hXE, hTX⟩ := hXE
    rcases hXE with ⟨rfl, hc⟩ | ⟨rfl, hc⟩
    ·
      refine vx_catch (E := "java/lang/IndexOutOfBoundsException") (name := "java/lang/IndexOutOfBoundsException") hown [] ⟨0, 9, 12, 21⟩ [⟨0, 9, 15, 15⟩] htb (fun z hz => nomatch hz) (by decide) (by decide) (hts (.classLink RL 21 "java/lang/IndexOutOfBoundsException") (List.mem_of_getElem? (i := 1) rfl)) (va_Nw.use rfl hT.2.2.1) hce hcv hcl ?_
      refine lv_astore_n (lv' := [(3, .ref q9), (0, .ref (a 0)), (1, .int x), (2, .ref o)]) hx hb dL_not_12 rfl hl (by decide) rfl (fun ls hl => ?_)
      refine lv_iconst (v := nI 1) hx hb dL_not_13 (by decide) ?_
      subst hQ
      refine W.widen (k := 2) (n := 12) (by decide) (by decide) ?_
      have hcz : ¬ (if (isIn nf x) = true then (if (decide (nf < 40)) = true then 0 else 2) else 1) = 0 := by rw [hc]; decide
      exact W.iret hx hb hr (fun t ht hW => ⟨⟨_, (u9, g0), rfl, ⟨by rw [hc], fun h0 => absurd h0 hcz, fun _ => hTX⟩, by rw [if_neg hcz]; rw [← ht] at hP; exact hP⟩, hS.F ht⟩) hS.2.2 dL_not_14
    ·
      refine vx_catch (E := "java/lang/IllegalStateException") (name := "java/lang/IllegalStateException") hown [⟨0, 9, 12, 21⟩] ⟨0, 9, 15, 15⟩ [] htb (by intro z hz; simp only [List.mem_cons, List.not_mem_nil, or_false] at hz; rcases hz with rfl; exact Or.inr ⟨by decide, "java/lang/IndexOutOfBoundsException", hts (.classLink RL 21 "java/lang/IndexOutOfBoundsException") (List.mem_of_getElem? (i := 1) rfl), hNc.2.1⟩) (by decide) (by decide) (hts (.classLink RL 15 "java/lang/IllegalStateException") (List.mem_of_getElem? (i := 2) rfl)) (va_Nw.use rfl hT.1) hce hcv hcl ?_
      refine lv_astore_n (lv' := [(3, .ref q9), (0, .ref (a 0)), (1, .int x), (2, .ref o)]) hx hb dL_not_15 rfl hl (by decide) rfl (fun ls hl => ?_)
      refine lv_iconst (v := nI 2) hx hb dL_not_16 (by decide) ?_
      subst hQ
      refine W.widen (k := 2) (n := 12) (by decide) (by decide) ?_
      have hcz : ¬ (if (isIn nf x) = true then (if (decide (nf < 40)) = true then 0 else 2) else 1) = 0 := by rw [hc]; decide
      exact W.iret hx hb hr (fun t ht hW => ⟨⟨_, (u9, g0), rfl, ⟨by rw [hc], fun h0 => absurd h0 hcz, fun _ => hTX⟩, by rw [if_neg hcz]; rw [← ht] at hP; exact hP⟩, hS.F ht⟩) hS.2.2 dL_not_17
  ·
    obtain ⟨hr9, hcz, hrel⟩ := hrel
    refine lv_i2l (v := r9.toInt64) hx hb dL_not_7 rfl ?_
    refine xlast (j := 0) (q0 := 29) (t0 := 1) (ws' := xo cs a u9 (appN N nf 1 x (-1)) o (oL cs (vp_updL g0 0 r9.toInt64))) hx hb hK1 hP (xoD hI ho) hS rfl rfl (by decide) (by decide) rfl dL_not_8 (fun H locs hP hS => ?_)
    refine lv_goto (tgt := 18) hx hb dL_not_9 (by decide) ?_
    refine lv_iconst (v := nI 0) hx hb dL_not_18 (by decide) ?_
    subst hQ
    refine W.widen (k := 2) (n := 12) (by decide) (by decide) ?_
    exact W.iret hx hb hr (fun t ht hW => ⟨⟨_, (u9, vp_updL g0 0 r9.toInt64), rfl, ⟨by rw [hcz], fun _ => ⟨hrel, (show r9.toInt64 = _ from by rw [hr9])⟩, fun h0 => absurd hcz h0⟩, by rw [if_pos hcz]; rw [← ht] at hP; exact hP⟩, hS.F ht⟩) hS.2.2 dL_not_19
set_option maxHeartbeats 4000000 in
set_option maxRecDepth 100000 in
theorem c_L_both (l : Launch) (hl0 : l.stackTraces = false) (D : va_G) (cs sa : Nat → Nat) (a : Nat → Nat) (M : Nat → Nat → Int32) (N : Nat → Int64) (o : Nat) (g0 : Nat → Int64) (sz : Nat) (hI : kI a 29) (ho : ∀ k, k < 29 → a k ≠ o) (nf : Nat) (x : Int32) (y : Int32) (hfc : M 0 2 = nI nf) (hf40 : nf ≤ 40) : Met l yL_both wsL_both ({ frames := 9, cells := 3, slots := 18, locals := 211 } : Room) (va_Pc [.ref (a 0), .int x, .int y, .ref o] (LBT D cs sa a o (xo cs a M N o (oL cs g0)) sz)) (va_Qi (fun r (u : (Nat → Nat → Int32) × (Nat → Int64)) => r = nI (if (isIn nf x) = true then (if (isIn nf y) = true then (if (decide (nf < 40)) = true then 0 else 2) else 1) else 1) ∧ ((if (isIn nf x) = true then (if (isIn nf y) = true then (if (decide (nf < 40)) = true then 0 else 2) else 1) else 1) = 0 → u.1 = appM M nf 2 (nI 0) x y ∧ u.2 0 = (nI nf).toInt64) ∧ (¬ (if (isIn nf x) = true then (if (isIn nf y) = true then (if (decide (nf < 40)) = true then 0 else 2) else 1) else 1) = 0 → TX M u.1)) (fun u t => va_P D vwCl (xo cs a u.1 (if (if (isIn nf x) = true then (if (isIn nf y) = true then (if (decide (nf < 40)) = true then 0 else 2) else 1) else 1) = 0 then appN N nf 2 x y else N) o (oL cs u.2)) t.heap) (kO a o sz)) 3 18 (kO a o sz) := by
  refine va_MetW (cc := cL_both) (maxL := 5) (ret := (some .int)) (hh := [(0, 10, 13, 21), (0, 10, 17, 15)]) (by decide) rfl ?_
  intro p e s m args below meth c s₁ B hml hv
  obtain ⟨rfl, hsz, hP, hK, hT, hZ, hNc⟩ := hv
  have hx := B.exec
  have hb := B.bytes
  have hr := B.returns
  have hts := atoms_spec (ws := wsL_both) B.pre
  have hown : s.vm.findClass RL = some m.cls := findClass_of_methodNamed B.named
  have hlocks := B.notSynchronized
  have hK1 := hK.1
  have htb := vx_table (x := yL_both) B (hts _ List.mem_cons_self)
  subst hsz
  have hS : va_S (kO a o s.heap.size) s.heap s.heap [] := va_S.rf
  have hl := lv_entry ([.ref (a 0), .int x, .int y, .ref o]) (n := 5) (Nat.le_of_ble_eq_true rfl)
  rw [lg_entry_eq]
  generalize (lg_sl ([.ref (a 0), .int x, .int y, .ref o]) ++ List.replicate (5 - (lg_sl ([.ref (a 0), .int x, .int y, .ref o])).length) Slot.unset).toArray = ls at hl ⊢
  have hl : lv_has ls 5 [(0, .ref (a 0)), (1, .int x), (2, .int y), (3, .ref o)] := hl
  refine W_Q (fun Q hQ => ?_)
  refine lv_aload_n hx hb dL_both_0 rfl (lv_at hl 3 rfl) ?_
  refine lv_iconst (v := nI 0) hx hb dL_both_1 (by decide) ?_
  refine lv_aload_n hx hb dL_both_2 rfl (lv_at hl 0 rfl) ?_
  refine lv_iload_n hx hb dL_both_3 rfl (lv_at hl 1 rfl) ?_
  refine lv_iload_n hx hb dL_both_4 rfl (lv_at hl 2 rfl) ?_
  refine xcallLi (vx_runV (As := [.int x, .int y]) (rest := [.int (nI 0), .ref o]) ⟨hx, hb, hml, hown, hts⟩ (c_X4_both l hl0 D cs sa a M N _ hI nf x y hfc hf40) (cwV 2 hts gL_both_X4_both rfl rfl rfl (by decide +kernel) ⟨(Nat.le_of_ble_eq_true rfl), (Nat.le_of_ble_eq_true rfl)⟩) (xpreVL (xoP hP) hK hT hZ hS (kO_le hS.1) (ci := 4) 0 rfl rfl) rfl rfl hl.1 rfl (lv_room (Nat.le_of_ble_eq_true rfl)) dL_both_5 ⟨(Nat.le_of_ble_eq_true rfl), (Nat.le_of_ble_eq_true rfl)⟩) hS (kO_le hS.1) hP ho (fun E ce q9 u9 H locs hXE hP hS hce hcv hcl => ?_) (fun r9 u9 H locs hrel hP hS => ?_)
  ·
    obtain ⟨hXE, hTX⟩ := hXE
    rcases hXE with ⟨rfl, hc⟩ | ⟨rfl, hc⟩
    ·
      refine vx_catch (E := "java/lang/IndexOutOfBoundsException") (name := "java/lang/IndexOutOfBoundsException") hown [] ⟨0, 10, 13, 21⟩ [⟨0, 10, 17, 15⟩] htb (fun z hz => nomatch hz) (by decide) (by decide) (hts (.classLink RL 21 "java/lang/IndexOutOfBoundsException") (List.mem_of_getElem? (i := 1) rfl)) (va_Nw.use rfl hT.2.2.1) hce hcv hcl ?_
      refine lv_astore (lv' := [(4, .ref q9), (0, .ref (a 0)), (1, .int x), (2, .int y), (3, .ref o)]) hx hb dL_both_13 hl (by decide) rfl (fun ls hl => ?_)
      refine lv_iconst (v := nI 1) hx hb dL_both_15 (by decide) ?_
      subst hQ
      refine W.widen (k := 3) (n := 18) (by decide) (by decide) ?_
      have hcz : ¬ (if (isIn nf x) = true then (if (isIn nf y) = true then (if (decide (nf < 40)) = true then 0 else 2) else 1) else 1) = 0 := by rw [hc]; decide
      exact W.iret hx hb hr (fun t ht hW => ⟨⟨_, (u9, g0), rfl, ⟨by rw [hc], fun h0 => absurd h0 hcz, fun _ => hTX⟩, by rw [if_neg hcz]; rw [← ht] at hP; exact hP⟩, hS.F ht⟩) hS.2.2 dL_both_16
    ·
      refine vx_catch (E := "java/lang/IllegalStateException") (name := "java/lang/IllegalStateException") hown [⟨0, 10, 13, 21⟩] ⟨0, 10, 17, 15⟩ [] htb (by intro z hz; simp only [List.mem_cons, List.not_mem_nil, or_false] at hz; rcases hz with rfl; exact Or.inr ⟨by decide, "java/lang/IndexOutOfBoundsException", hts (.classLink RL 21 "java/lang/IndexOutOfBoundsException") (List.mem_of_getElem? (i := 1) rfl), hNc.2.1⟩) (by decide) (by decide) (hts (.classLink RL 15 "java/lang/IllegalStateException") (List.mem_of_getElem? (i := 2) rfl)) (va_Nw.use rfl hT.1) hce hcv hcl ?_
      refine lv_astore (lv' := [(4, .ref q9), (0, .ref (a 0)), (1, .int x), (2, .int y), (3, .ref o)]) hx hb dL_both_17 hl (by decide) rfl (fun ls hl => ?_)
      refine lv_iconst (v := nI 2) hx hb dL_both_19 (by decide) ?_
      subst hQ
      refine W.widen (k := 3) (n := 18) (by decide) (by decide) ?_
      have hcz : ¬ (if (isIn nf x) = true then (if (isIn nf y) = true then (if (decide (nf < 40)) = true then 0 else 2) else 1) else 1) = 0 := by rw [hc]; decide
      exact W.iret hx hb hr (fun t ht hW => ⟨⟨_, (u9, g0), rfl, ⟨by rw [hc], fun h0 => absurd h0 hcz, fun _ => hTX⟩, by rw [if_neg hcz]; rw [← ht] at hP; exact hP⟩, hS.F ht⟩) hS.2.2 dL_both_20
  ·
    obtain ⟨hr9, hcz, hrel⟩ := hrel
    refine lv_i2l (v := r9.toInt64) hx hb dL_both_8 rfl ?_
    refine xlast (j := 0) (q0 := 29) (t0 := 1) (ws' := xo cs a u9 (appN N nf 2 x y) o (oL cs (vp_updL g0 0 r9.toInt64))) hx hb hK1 hP (xoD hI ho) hS rfl rfl (by decide) (by decide) rfl dL_both_9 (fun H locs hP hS => ?_)
    refine lv_goto (tgt := 21) hx hb dL_both_10 (by decide) ?_
    refine lv_iconst (v := nI 0) hx hb dL_both_21 (by decide) ?_
    subst hQ
    refine W.widen (k := 3) (n := 18) (by decide) (by decide) ?_
    exact W.iret hx hb hr (fun t ht hW => ⟨⟨_, (u9, vp_updL g0 0 r9.toInt64), rfl, ⟨by rw [hcz], fun _ => ⟨hrel, (show r9.toInt64 = _ from by rw [hr9])⟩, fun h0 => absurd hcz h0⟩, by rw [if_pos hcz]; rw [← ht] at hP; exact hP⟩, hS.F ht⟩) hS.2.2 dL_both_22
set_option maxHeartbeats 4000000 in
set_option maxRecDepth 100000 in
theorem c_L_knows (l : Launch) (hl0 : l.stackTraces = false) (D : va_G) (cs sa : Nat → Nat) (a : Nat → Nat) (M : Nat → Nat → Int32) (N : Nat → Int64) (o : Nat) (g0 : Nat → Int64) (sz : Nat) (hI : kI a 29) (ho : ∀ k, k < 29 → a k ≠ o) (nf : Nat) (x : Int32) (y : Int32) (hfc : M 0 2 = nI nf) (hf40 : nf ≤ 40) : Met l yL_knows wsL_knows ({ frames := 9, cells := 3, slots := 18, locals := 211 } : Room) (va_Pc [.ref (a 0), .int x, .int y, .ref o] (LBT D cs sa a o (xo cs a M N o (oL cs g0)) sz)) (va_Qi (fun r (u : (Nat → Nat → Int32) × (Nat → Int64)) => r = nI (if (isIn 4 x) = true then (if (isIn nf y) = true then (if (decide (nf < 40)) = true then 0 else 2) else 1) else 1) ∧ ((if (isIn 4 x) = true then (if (isIn nf y) = true then (if (decide (nf < 40)) = true then 0 else 2) else 1) else 1) = 0 → u.1 = appM M nf 3 (sg x.toNatClampNeg) y (-1) ∧ u.2 0 = (nI nf).toInt64) ∧ (¬ (if (isIn 4 x) = true then (if (isIn nf y) = true then (if (decide (nf < 40)) = true then 0 else 2) else 1) else 1) = 0 → TX M u.1)) (fun u t => va_P D vwCl (xo cs a u.1 (if (if (isIn 4 x) = true then (if (isIn nf y) = true then (if (decide (nf < 40)) = true then 0 else 2) else 1) else 1) = 0 then appN N nf 3 y (-1) else N) o (oL cs u.2)) t.heap) (kO a o sz)) 3 18 (kO a o sz) := by
  refine va_MetW (cc := cL_knows) (maxL := 5) (ret := (some .int)) (hh := [(0, 10, 13, 21), (0, 10, 17, 15)]) (by decide) rfl ?_
  intro p e s m args below meth c s₁ B hml hv
  obtain ⟨rfl, hsz, hP, hK, hT, hZ, hNc⟩ := hv
  have hx := B.exec
  have hb := B.bytes
  have hr := B.returns
  have hts := atoms_spec (ws := wsL_knows) B.pre
  have hown : s.vm.findClass RL = some m.cls := findClass_of_methodNamed B.named
  have hlocks := B.notSynchronized
  have hK1 := hK.1
  have htb := vx_table (x := yL_knows) B (hts _ List.mem_cons_self)
  subst hsz
  have hS : va_S (kO a o s.heap.size) s.heap s.heap [] := va_S.rf
  have hl := lv_entry ([.ref (a 0), .int x, .int y, .ref o]) (n := 5) (Nat.le_of_ble_eq_true rfl)
  rw [lg_entry_eq]
  generalize (lg_sl ([.ref (a 0), .int x, .int y, .ref o]) ++ List.replicate (5 - (lg_sl ([.ref (a 0), .int x, .int y, .ref o])).length) Slot.unset).toArray = ls at hl ⊢
  have hl : lv_has ls 5 [(0, .ref (a 0)), (1, .int x), (2, .int y), (3, .ref o)] := hl
  refine W_Q (fun Q hQ => ?_)
  refine lv_aload_n hx hb dL_knows_0 rfl (lv_at hl 3 rfl) ?_
  refine lv_iconst (v := nI 0) hx hb dL_knows_1 (by decide) ?_
  refine lv_aload_n hx hb dL_knows_2 rfl (lv_at hl 0 rfl) ?_
  refine lv_iload_n hx hb dL_knows_3 rfl (lv_at hl 1 rfl) ?_
  refine lv_iload_n hx hb dL_knows_4 rfl (lv_at hl 2 rfl) ?_
  refine xcallLi (vx_runV (As := [.int x, .int y]) (rest := [.int (nI 0), .ref o]) ⟨hx, hb, hml, hown, hts⟩ (c_X4_knows l hl0 D cs sa a M N _ hI nf x y hfc hf40) (cwV 2 hts gL_knows_X4_knows rfl rfl rfl (by decide +kernel) ⟨(Nat.le_of_ble_eq_true rfl), (Nat.le_of_ble_eq_true rfl)⟩) (xpreVL (xoP hP) hK hT hZ hS (kO_le hS.1) (ci := 4) 0 rfl rfl) rfl rfl hl.1 rfl (lv_room (Nat.le_of_ble_eq_true rfl)) dL_knows_5 ⟨(Nat.le_of_ble_eq_true rfl), (Nat.le_of_ble_eq_true rfl)⟩) hS (kO_le hS.1) hP ho (fun E ce q9 u9 H locs hXE hP hS hce hcv hcl => ?_) (fun r9 u9 H locs hrel hP hS => ?_)
  ·
    obtain ⟨hXE, hTX⟩ := hXE
    rcases hXE with ⟨rfl, hc⟩ | ⟨rfl, hc⟩
    ·
      refine vx_catch (E := "java/lang/IndexOutOfBoundsException") (name := "java/lang/IndexOutOfBoundsException") hown [] ⟨0, 10, 13, 21⟩ [⟨0, 10, 17, 15⟩] htb (fun z hz => nomatch hz) (by decide) (by decide) (hts (.classLink RL 21 "java/lang/IndexOutOfBoundsException") (List.mem_of_getElem? (i := 1) rfl)) (va_Nw.use rfl hT.2.2.1) hce hcv hcl ?_
      refine lv_astore (lv' := [(4, .ref q9), (0, .ref (a 0)), (1, .int x), (2, .int y), (3, .ref o)]) hx hb dL_knows_13 hl (by decide) rfl (fun ls hl => ?_)
      refine lv_iconst (v := nI 1) hx hb dL_knows_15 (by decide) ?_
      subst hQ
      refine W.widen (k := 3) (n := 18) (by decide) (by decide) ?_
      have hcz : ¬ (if (isIn 4 x) = true then (if (isIn nf y) = true then (if (decide (nf < 40)) = true then 0 else 2) else 1) else 1) = 0 := by rw [hc]; decide
      exact W.iret hx hb hr (fun t ht hW => ⟨⟨_, (u9, g0), rfl, ⟨by rw [hc], fun h0 => absurd h0 hcz, fun _ => hTX⟩, by rw [if_neg hcz]; rw [← ht] at hP; exact hP⟩, hS.F ht⟩) hS.2.2 dL_knows_16
    ·
      refine vx_catch (E := "java/lang/IllegalStateException") (name := "java/lang/IllegalStateException") hown [⟨0, 10, 13, 21⟩] ⟨0, 10, 17, 15⟩ [] htb (by intro z hz; simp only [List.mem_cons, List.not_mem_nil, or_false] at hz; rcases hz with rfl; exact Or.inr ⟨by decide, "java/lang/IndexOutOfBoundsException", hts (.classLink RL 21 "java/lang/IndexOutOfBoundsException") (List.mem_of_getElem? (i := 1) rfl), hNc.2.1⟩) (by decide) (by decide) (hts (.classLink RL 15 "java/lang/IllegalStateException") (List.mem_of_getElem? (i := 2) rfl)) (va_Nw.use rfl hT.1) hce hcv hcl ?_
      refine lv_astore (lv' := [(4, .ref q9), (0, .ref (a 0)), (1, .int x), (2, .int y), (3, .ref o)]) hx hb dL_knows_17 hl (by decide) rfl (fun ls hl => ?_)
      refine lv_iconst (v := nI 2) hx hb dL_knows_19 (by decide) ?_
      subst hQ
      refine W.widen (k := 3) (n := 18) (by decide) (by decide) ?_
      have hcz : ¬ (if (isIn 4 x) = true then (if (isIn nf y) = true then (if (decide (nf < 40)) = true then 0 else 2) else 1) else 1) = 0 := by rw [hc]; decide
      exact W.iret hx hb hr (fun t ht hW => ⟨⟨_, (u9, g0), rfl, ⟨by rw [hc], fun h0 => absurd h0 hcz, fun _ => hTX⟩, by rw [if_neg hcz]; rw [← ht] at hP; exact hP⟩, hS.F ht⟩) hS.2.2 dL_knows_20
  ·
    obtain ⟨hr9, hcz, hrel⟩ := hrel
    refine lv_i2l (v := r9.toInt64) hx hb dL_knows_8 rfl ?_
    refine xlast (j := 0) (q0 := 29) (t0 := 1) (ws' := xo cs a u9 (appN N nf 3 y (-1)) o (oL cs (vp_updL g0 0 r9.toInt64))) hx hb hK1 hP (xoD hI ho) hS rfl rfl (by decide) (by decide) rfl dL_knows_9 (fun H locs hP hS => ?_)
    refine lv_goto (tgt := 21) hx hb dL_knows_10 (by decide) ?_
    refine lv_iconst (v := nI 0) hx hb dL_knows_21 (by decide) ?_
    subst hQ
    refine W.widen (k := 3) (n := 18) (by decide) (by decide) ?_
    exact W.iret hx hb hr (fun t ht hW => ⟨⟨_, (u9, vp_updL g0 0 r9.toInt64), rfl, ⟨by rw [hcz], fun _ => ⟨hrel, (show r9.toInt64 = _ from by rw [hr9])⟩, fun h0 => absurd hcz h0⟩, by rw [if_pos hcz]; rw [← ht] at hP; exact hP⟩, hS.F ht⟩) hS.2.2 dL_knows_22
set_option maxHeartbeats 4000000 in
set_option maxRecDepth 100000 in
theorem c_L_ofGroup (l : Launch) (hl0 : l.stackTraces = false) (D : va_G) (cs sa : Nat → Nat) (a : Nat → Nat) (M : Nat → Nat → Int32) (N : Nat → Int64) (o : Nat) (g0 : Nat → Int64) (sz : Nat) (hI : kI a 29) (ho : ∀ k, k < 29 → a k ≠ o) (nf : Nat) (on : Bool) (g : Int32) (y : Int32) (hfc : M 0 2 = nI nf) (hf40 : nf ≤ 40) : Met l yL_ofGroup wsL_ofGroup ({ frames := 9, cells := 3, slots := 18, locals := 211 } : Room) (va_Pc [.ref (a 0), .int (bI on), .int g, .int y, .ref o] (LBT D cs sa a o (xo cs a M N o (oL cs g0)) sz)) (va_Qi (fun r (u : (Nat → Nat → Int32) × (Nat → Int64)) => r = nI (if (isIn nf y) = true then (if (isGr g) = true then (if (decide (nf < 40)) = true then 0 else 3) else 2) else 1) ∧ ((if (isIn nf y) = true then (if (isGr g) = true then (if (decide (nf < 40)) = true then 0 else 3) else 2) else 1) = 0 → u.1 = appM M nf (if on = true then 4 else 5) g y (-1) ∧ u.2 0 = (nI nf).toInt64) ∧ (¬ (if (isIn nf y) = true then (if (isGr g) = true then (if (decide (nf < 40)) = true then 0 else 3) else 2) else 1) = 0 → TX M u.1)) (fun u t => va_P D vwCl (xo cs a u.1 (if (if (isIn nf y) = true then (if (isGr g) = true then (if (decide (nf < 40)) = true then 0 else 3) else 2) else 1) = 0 then appN N nf (if on = true then 4 else 5) y (-1) else N) o (oL cs u.2)) t.heap) (kO a o sz)) 3 18 (kO a o sz) := by
  refine va_MetW (cc := cL_ofGroup) (maxL := 6) (ret := (some .int)) (hh := [(0, 12, 15, 21), (0, 12, 19, 13), (0, 12, 23, 15)]) (by decide) rfl ?_
  intro p e s m args below meth c s₁ B hml hv
  obtain ⟨rfl, hsz, hP, hK, hT, hZ, hNc⟩ := hv
  have hx := B.exec
  have hb := B.bytes
  have hr := B.returns
  have hts := atoms_spec (ws := wsL_ofGroup) B.pre
  have hown : s.vm.findClass RL = some m.cls := findClass_of_methodNamed B.named
  have hlocks := B.notSynchronized
  have hK1 := hK.1
  have htb := vx_table (x := yL_ofGroup) B (hts _ List.mem_cons_self)
  subst hsz
  have hS : va_S (kO a o s.heap.size) s.heap s.heap [] := va_S.rf
  have hl := lv_entry ([.ref (a 0), .int (bI on), .int g, .int y, .ref o]) (n := 6) (Nat.le_of_ble_eq_true rfl)
  rw [lg_entry_eq]
  generalize (lg_sl ([.ref (a 0), .int (bI on), .int g, .int y, .ref o]) ++ List.replicate (6 - (lg_sl ([.ref (a 0), .int (bI on), .int g, .int y, .ref o])).length) Slot.unset).toArray = ls at hl ⊢
  have hl : lv_has ls 6 [(0, .ref (a 0)), (1, .int (bI on)), (2, .int g), (3, .int y), (4, .ref o)] := hl
  refine W_Q (fun Q hQ => ?_)
  refine lv_aload hx hb dL_ofGroup_0 (lv_at hl 4 rfl) ?_
  refine lv_iconst (v := nI 0) hx hb dL_ofGroup_2 (by decide) ?_
  refine lv_aload_n hx hb dL_ofGroup_3 rfl (lv_at hl 0 rfl) ?_
  refine lv_iload_n hx hb dL_ofGroup_4 rfl (lv_at hl 1 rfl) ?_
  refine lv_iload_n hx hb dL_ofGroup_5 rfl (lv_at hl 2 rfl) ?_
  refine lv_iload_n hx hb dL_ofGroup_6 rfl (lv_at hl 3 rfl) ?_
  refine xcallLi (vx_runV (As := [.int (bI on), .int g, .int y]) (rest := [.int (nI 0), .ref o]) ⟨hx, hb, hml, hown, hts⟩ (c_X4_ofGroup l hl0 D cs sa a M N _ hI nf on g y hfc hf40) (cwV 3 hts gL_ofGroup_X4_ofGroup rfl rfl rfl (by decide +kernel) ⟨(Nat.le_of_ble_eq_true rfl), (Nat.le_of_ble_eq_true rfl)⟩) (xpreVL (xoP hP) hK hT hZ hS (kO_le hS.1) (ci := 4) 0 rfl rfl) rfl rfl hl.1 rfl (lv_room (Nat.le_of_ble_eq_true rfl)) dL_ofGroup_7 ⟨(Nat.le_of_ble_eq_true rfl), (Nat.le_of_ble_eq_true rfl)⟩) hS (kO_le hS.1) hP ho (fun E ce q9 u9 H locs hXE hP hS hce hcv hcl => ?_) (fun r9 u9 H locs hrel hP hS => ?_)
  ·
    obtain ⟨hXE, hTX⟩ := hXE
    rcases hXE with ⟨rfl, hc⟩ | ⟨rfl, hc⟩ | ⟨rfl, hc⟩
    ·
      refine vx_catch (E := "java/lang/IndexOutOfBoundsException") (name := "java/lang/IndexOutOfBoundsException") hown [] ⟨0, 12, 15, 21⟩ [⟨0, 12, 19, 13⟩, ⟨0, 12, 23, 15⟩] htb (fun z hz => nomatch hz) (by decide) (by decide) (hts (.classLink RL 21 "java/lang/IndexOutOfBoundsException") (List.mem_of_getElem? (i := 1) rfl)) (va_Nw.use rfl hT.2.2.1) hce hcv hcl ?_
      refine lv_astore (lv' := [(5, .ref q9), (0, .ref (a 0)), (1, .int (bI on)), (2, .int g), (3, .int y), (4, .ref o)]) hx hb dL_ofGroup_15 hl (by decide) rfl (fun ls hl => ?_)
      refine lv_iconst (v := nI 1) hx hb dL_ofGroup_17 (by decide) ?_
      subst hQ
      refine W.widen (k := 3) (n := 18) (by decide) (by decide) ?_
      have hcz : ¬ (if (isIn nf y) = true then (if (isGr g) = true then (if (decide (nf < 40)) = true then 0 else 3) else 2) else 1) = 0 := by rw [hc]; decide
      exact W.iret hx hb hr (fun t ht hW => ⟨⟨_, (u9, g0), rfl, ⟨by rw [hc], fun h0 => absurd h0 hcz, fun _ => hTX⟩, by rw [if_neg hcz]; rw [← ht] at hP; exact hP⟩, hS.F ht⟩) hS.2.2 dL_ofGroup_18
    ·
      refine vx_catch (E := "java/lang/IllegalArgumentException") (name := "java/lang/IllegalArgumentException") hown [⟨0, 12, 15, 21⟩] ⟨0, 12, 19, 13⟩ [⟨0, 12, 23, 15⟩] htb (by intro z hz; simp only [List.mem_cons, List.not_mem_nil, or_false] at hz; rcases hz with rfl; exact Or.inr ⟨by decide, "java/lang/IndexOutOfBoundsException", hts (.classLink RL 21 "java/lang/IndexOutOfBoundsException") (List.mem_of_getElem? (i := 1) rfl), hNc.2.2.1⟩) (by decide) (by decide) (hts (.classLink RL 13 "java/lang/IllegalArgumentException") (List.mem_of_getElem? (i := 2) rfl)) (va_Nw.use rfl hT.2.1) hce hcv hcl ?_
      refine lv_astore (lv' := [(5, .ref q9), (0, .ref (a 0)), (1, .int (bI on)), (2, .int g), (3, .int y), (4, .ref o)]) hx hb dL_ofGroup_19 hl (by decide) rfl (fun ls hl => ?_)
      refine lv_iconst (v := nI 2) hx hb dL_ofGroup_21 (by decide) ?_
      subst hQ
      refine W.widen (k := 3) (n := 18) (by decide) (by decide) ?_
      have hcz : ¬ (if (isIn nf y) = true then (if (isGr g) = true then (if (decide (nf < 40)) = true then 0 else 3) else 2) else 1) = 0 := by rw [hc]; decide
      exact W.iret hx hb hr (fun t ht hW => ⟨⟨_, (u9, g0), rfl, ⟨by rw [hc], fun h0 => absurd h0 hcz, fun _ => hTX⟩, by rw [if_neg hcz]; rw [← ht] at hP; exact hP⟩, hS.F ht⟩) hS.2.2 dL_ofGroup_22
    ·
      refine vx_catch (E := "java/lang/IllegalStateException") (name := "java/lang/IllegalStateException") hown [⟨0, 12, 15, 21⟩, ⟨0, 12, 19, 13⟩] ⟨0, 12, 23, 15⟩ [] htb (by intro z hz; simp only [List.mem_cons, List.not_mem_nil, or_false] at hz; rcases hz with rfl | rfl; exact Or.inr ⟨by decide, "java/lang/IndexOutOfBoundsException", hts (.classLink RL 21 "java/lang/IndexOutOfBoundsException") (List.mem_of_getElem? (i := 1) rfl), hNc.2.1⟩; exact Or.inr ⟨by decide, "java/lang/IllegalArgumentException", hts (.classLink RL 13 "java/lang/IllegalArgumentException") (List.mem_of_getElem? (i := 2) rfl), hNc.1⟩) (by decide) (by decide) (hts (.classLink RL 15 "java/lang/IllegalStateException") (List.mem_of_getElem? (i := 3) rfl)) (va_Nw.use rfl hT.1) hce hcv hcl ?_
      refine lv_astore (lv' := [(5, .ref q9), (0, .ref (a 0)), (1, .int (bI on)), (2, .int g), (3, .int y), (4, .ref o)]) hx hb dL_ofGroup_23 hl (by decide) rfl (fun ls hl => ?_)
      refine lv_iconst (v := nI 3) hx hb dL_ofGroup_25 (by decide) ?_
      subst hQ
      refine W.widen (k := 3) (n := 18) (by decide) (by decide) ?_
      have hcz : ¬ (if (isIn nf y) = true then (if (isGr g) = true then (if (decide (nf < 40)) = true then 0 else 3) else 2) else 1) = 0 := by rw [hc]; decide
      exact W.iret hx hb hr (fun t ht hW => ⟨⟨_, (u9, g0), rfl, ⟨by rw [hc], fun h0 => absurd h0 hcz, fun _ => hTX⟩, by rw [if_neg hcz]; rw [← ht] at hP; exact hP⟩, hS.F ht⟩) hS.2.2 dL_ofGroup_26
  ·
    obtain ⟨hr9, hcz, hrel⟩ := hrel
    refine lv_i2l (v := r9.toInt64) hx hb dL_ofGroup_10 rfl ?_
    refine xlast (j := 0) (q0 := 29) (t0 := 1) (ws' := xo cs a u9 (appN N nf (if on = true then 4 else 5) y (-1)) o (oL cs (vp_updL g0 0 r9.toInt64))) hx hb hK1 hP (xoD hI ho) hS rfl rfl (by decide) (by decide) rfl dL_ofGroup_11 (fun H locs hP hS => ?_)
    refine lv_goto (tgt := 27) hx hb dL_ofGroup_12 (by decide) ?_
    refine lv_iconst (v := nI 0) hx hb dL_ofGroup_27 (by decide) ?_
    subst hQ
    refine W.widen (k := 3) (n := 18) (by decide) (by decide) ?_
    exact W.iret hx hb hr (fun t ht hW => ⟨⟨_, (u9, vp_updL g0 0 r9.toInt64), rfl, ⟨by rw [hcz], fun _ => ⟨hrel, (show r9.toInt64 = _ from by rw [hr9])⟩, fun h0 => absurd hcz h0⟩, by rw [if_pos hcz]; rw [← ht] at hP; exact hP⟩, hS.F ht⟩) hS.2.2 dL_ofGroup_28
set_option maxHeartbeats 4000000 in
set_option maxRecDepth 100000 in
theorem c_L_after (l : Launch) (hl0 : l.stackTraces = false) (D : va_G) (cs sa : Nat → Nat) (a : Nat → Nat) (M : Nat → Nat → Int32) (N : Nat → Int64) (o : Nat) (g0 : Nat → Int64) (sz : Nat) (hI : kI a 29) (ho : ∀ k, k < 29 → a k ≠ o) (nf : Nat) (x : Int32) (y : Int32) (hfc : M 0 2 = nI nf) (hf40 : nf ≤ 40) : Met l yL_after wsL_after ({ frames := 9, cells := 4, slots := 24, locals := 211 } : Room) (va_Pc [.ref (a 0), .int x, .int y, .ref o] (LBT D cs sa a o (xo cs a M N o (oL cs g0)) sz)) (va_Qi (fun r (u : (Nat → Nat → Int32) × (Nat → Int64)) => r = nI (if (isIn nf x) = true then (if (isIn nf y) = true then (if (decide (mx (M 11 x.toNatClampNeg) (M 11 y.toNatClampNeg) < nI 2)) = true then (if (decide (nf < 40)) = true then 0 else 3) else 2) else 1) else 1) ∧ ((if (isIn nf x) = true then (if (isIn nf y) = true then (if (decide (mx (M 11 x.toNatClampNeg) (M 11 y.toNatClampNeg) < nI 2)) = true then (if (decide (nf < 40)) = true then 0 else 3) else 2) else 1) else 1) = 0 → u.1 = appM M nf 6 (nI 0) x y ∧ u.2 0 = (nI nf).toInt64) ∧ (¬ (if (isIn nf x) = true then (if (isIn nf y) = true then (if (decide (mx (M 11 x.toNatClampNeg) (M 11 y.toNatClampNeg) < nI 2)) = true then (if (decide (nf < 40)) = true then 0 else 3) else 2) else 1) else 1) = 0 → TX M u.1)) (fun u t => va_P D vwCl (xo cs a u.1 (if (if (isIn nf x) = true then (if (isIn nf y) = true then (if (decide (mx (M 11 x.toNatClampNeg) (M 11 y.toNatClampNeg) < nI 2)) = true then (if (decide (nf < 40)) = true then 0 else 3) else 2) else 1) else 1) = 0 then appN N nf 6 x y else N) o (oL cs u.2)) t.heap) (kO a o sz)) 4 24 (kO a o sz) := by
  refine va_MetW (cc := cL_after) (maxL := 5) (ret := (some .int)) (hh := [(0, 10, 13, 21), (0, 10, 17, 13), (0, 10, 21, 15)]) (by decide) rfl ?_
  intro p e s m args below meth c s₁ B hml hv
  obtain ⟨rfl, hsz, hP, hK, hT, hZ, hNc⟩ := hv
  have hx := B.exec
  have hb := B.bytes
  have hr := B.returns
  have hts := atoms_spec (ws := wsL_after) B.pre
  have hown : s.vm.findClass RL = some m.cls := findClass_of_methodNamed B.named
  have hlocks := B.notSynchronized
  have hK1 := hK.1
  have htb := vx_table (x := yL_after) B (hts _ List.mem_cons_self)
  subst hsz
  have hS : va_S (kO a o s.heap.size) s.heap s.heap [] := va_S.rf
  have hl := lv_entry ([.ref (a 0), .int x, .int y, .ref o]) (n := 5) (Nat.le_of_ble_eq_true rfl)
  rw [lg_entry_eq]
  generalize (lg_sl ([.ref (a 0), .int x, .int y, .ref o]) ++ List.replicate (5 - (lg_sl ([.ref (a 0), .int x, .int y, .ref o])).length) Slot.unset).toArray = ls at hl ⊢
  have hl : lv_has ls 5 [(0, .ref (a 0)), (1, .int x), (2, .int y), (3, .ref o)] := hl
  refine W_Q (fun Q hQ => ?_)
  refine lv_aload_n hx hb dL_after_0 rfl (lv_at hl 3 rfl) ?_
  refine lv_iconst (v := nI 0) hx hb dL_after_1 (by decide) ?_
  refine lv_aload_n hx hb dL_after_2 rfl (lv_at hl 0 rfl) ?_
  refine lv_iload_n hx hb dL_after_3 rfl (lv_at hl 1 rfl) ?_
  refine lv_iload_n hx hb dL_after_4 rfl (lv_at hl 2 rfl) ?_
  refine xcallLi (vx_runV (As := [.int x, .int y]) (rest := [.int (nI 0), .ref o]) ⟨hx, hb, hml, hown, hts⟩ (c_X4_after l hl0 D cs sa a M N _ hI nf x y hfc hf40) (cwV 2 hts gL_after_X4_after rfl rfl rfl (by decide +kernel) ⟨(Nat.le_of_ble_eq_true rfl), (Nat.le_of_ble_eq_true rfl)⟩) (xpreVL (xoP hP) hK hT hZ hS (kO_le hS.1) (ci := 4) 0 rfl rfl) rfl rfl hl.1 rfl (lv_room (Nat.le_of_ble_eq_true rfl)) dL_after_5 ⟨(Nat.le_of_ble_eq_true rfl), (Nat.le_of_ble_eq_true rfl)⟩) hS (kO_le hS.1) hP ho (fun E ce q9 u9 H locs hXE hP hS hce hcv hcl => ?_) (fun r9 u9 H locs hrel hP hS => ?_)
  ·
    obtain ⟨hXE, hTX⟩ := hXE
    rcases hXE with ⟨rfl, hc⟩ | ⟨rfl, hc⟩ | ⟨rfl, hc⟩
    ·
      refine vx_catch (E := "java/lang/IndexOutOfBoundsException") (name := "java/lang/IndexOutOfBoundsException") hown [] ⟨0, 10, 13, 21⟩ [⟨0, 10, 17, 13⟩, ⟨0, 10, 21, 15⟩] htb (fun z hz => nomatch hz) (by decide) (by decide) (hts (.classLink RL 21 "java/lang/IndexOutOfBoundsException") (List.mem_of_getElem? (i := 1) rfl)) (va_Nw.use rfl hT.2.2.1) hce hcv hcl ?_
      refine lv_astore (lv' := [(4, .ref q9), (0, .ref (a 0)), (1, .int x), (2, .int y), (3, .ref o)]) hx hb dL_after_13 hl (by decide) rfl (fun ls hl => ?_)
      refine lv_iconst (v := nI 1) hx hb dL_after_15 (by decide) ?_
      subst hQ
      refine W.widen (k := 4) (n := 24) (by decide) (by decide) ?_
      have hcz : ¬ (if (isIn nf x) = true then (if (isIn nf y) = true then (if (decide (mx (M 11 x.toNatClampNeg) (M 11 y.toNatClampNeg) < nI 2)) = true then (if (decide (nf < 40)) = true then 0 else 3) else 2) else 1) else 1) = 0 := by rw [hc]; decide
      exact W.iret hx hb hr (fun t ht hW => ⟨⟨_, (u9, g0), rfl, ⟨by rw [hc], fun h0 => absurd h0 hcz, fun _ => hTX⟩, by rw [if_neg hcz]; rw [← ht] at hP; exact hP⟩, hS.F ht⟩) hS.2.2 dL_after_16
    ·
      refine vx_catch (E := "java/lang/IllegalArgumentException") (name := "java/lang/IllegalArgumentException") hown [⟨0, 10, 13, 21⟩] ⟨0, 10, 17, 13⟩ [⟨0, 10, 21, 15⟩] htb (by intro z hz; simp only [List.mem_cons, List.not_mem_nil, or_false] at hz; rcases hz with rfl; exact Or.inr ⟨by decide, "java/lang/IndexOutOfBoundsException", hts (.classLink RL 21 "java/lang/IndexOutOfBoundsException") (List.mem_of_getElem? (i := 1) rfl), hNc.2.2.1⟩) (by decide) (by decide) (hts (.classLink RL 13 "java/lang/IllegalArgumentException") (List.mem_of_getElem? (i := 2) rfl)) (va_Nw.use rfl hT.2.1) hce hcv hcl ?_
      refine lv_astore (lv' := [(4, .ref q9), (0, .ref (a 0)), (1, .int x), (2, .int y), (3, .ref o)]) hx hb dL_after_17 hl (by decide) rfl (fun ls hl => ?_)
      refine lv_iconst (v := nI 2) hx hb dL_after_19 (by decide) ?_
      subst hQ
      refine W.widen (k := 4) (n := 24) (by decide) (by decide) ?_
      have hcz : ¬ (if (isIn nf x) = true then (if (isIn nf y) = true then (if (decide (mx (M 11 x.toNatClampNeg) (M 11 y.toNatClampNeg) < nI 2)) = true then (if (decide (nf < 40)) = true then 0 else 3) else 2) else 1) else 1) = 0 := by rw [hc]; decide
      exact W.iret hx hb hr (fun t ht hW => ⟨⟨_, (u9, g0), rfl, ⟨by rw [hc], fun h0 => absurd h0 hcz, fun _ => hTX⟩, by rw [if_neg hcz]; rw [← ht] at hP; exact hP⟩, hS.F ht⟩) hS.2.2 dL_after_20
    ·
      refine vx_catch (E := "java/lang/IllegalStateException") (name := "java/lang/IllegalStateException") hown [⟨0, 10, 13, 21⟩, ⟨0, 10, 17, 13⟩] ⟨0, 10, 21, 15⟩ [] htb (by intro z hz; simp only [List.mem_cons, List.not_mem_nil, or_false] at hz; rcases hz with rfl | rfl; exact Or.inr ⟨by decide, "java/lang/IndexOutOfBoundsException", hts (.classLink RL 21 "java/lang/IndexOutOfBoundsException") (List.mem_of_getElem? (i := 1) rfl), hNc.2.1⟩; exact Or.inr ⟨by decide, "java/lang/IllegalArgumentException", hts (.classLink RL 13 "java/lang/IllegalArgumentException") (List.mem_of_getElem? (i := 2) rfl), hNc.1⟩) (by decide) (by decide) (hts (.classLink RL 15 "java/lang/IllegalStateException") (List.mem_of_getElem? (i := 3) rfl)) (va_Nw.use rfl hT.1) hce hcv hcl ?_
      refine lv_astore (lv' := [(4, .ref q9), (0, .ref (a 0)), (1, .int x), (2, .int y), (3, .ref o)]) hx hb dL_after_21 hl (by decide) rfl (fun ls hl => ?_)
      refine lv_iconst (v := nI 3) hx hb dL_after_23 (by decide) ?_
      subst hQ
      refine W.widen (k := 4) (n := 24) (by decide) (by decide) ?_
      have hcz : ¬ (if (isIn nf x) = true then (if (isIn nf y) = true then (if (decide (mx (M 11 x.toNatClampNeg) (M 11 y.toNatClampNeg) < nI 2)) = true then (if (decide (nf < 40)) = true then 0 else 3) else 2) else 1) else 1) = 0 := by rw [hc]; decide
      exact W.iret hx hb hr (fun t ht hW => ⟨⟨_, (u9, g0), rfl, ⟨by rw [hc], fun h0 => absurd h0 hcz, fun _ => hTX⟩, by rw [if_neg hcz]; rw [← ht] at hP; exact hP⟩, hS.F ht⟩) hS.2.2 dL_after_24
  ·
    obtain ⟨hr9, hcz, hrel⟩ := hrel
    refine lv_i2l (v := r9.toInt64) hx hb dL_after_8 rfl ?_
    refine xlast (j := 0) (q0 := 29) (t0 := 1) (ws' := xo cs a u9 (appN N nf 6 x y) o (oL cs (vp_updL g0 0 r9.toInt64))) hx hb hK1 hP (xoD hI ho) hS rfl rfl (by decide) (by decide) rfl dL_after_9 (fun H locs hP hS => ?_)
    refine lv_goto (tgt := 25) hx hb dL_after_10 (by decide) ?_
    refine lv_iconst (v := nI 0) hx hb dL_after_25 (by decide) ?_
    subst hQ
    refine W.widen (k := 4) (n := 24) (by decide) (by decide) ?_
    exact W.iret hx hb hr (fun t ht hW => ⟨⟨_, (u9, vp_updL g0 0 r9.toInt64), rfl, ⟨by rw [hcz], fun _ => ⟨hrel, (show r9.toInt64 = _ from by rw [hr9])⟩, fun h0 => absurd hcz h0⟩, by rw [if_pos hcz]; rw [← ht] at hP; exact hP⟩, hS.F ht⟩) hS.2.2 dL_after_26
set_option maxHeartbeats 4000000 in
set_option maxRecDepth 100000 in
theorem c_L_depth (l : Launch) (hl0 : l.stackTraces = false) (D : va_G) (cs sa : Nat → Nat) (a : Nat → Nat) (M : Nat → Nat → Int32) (N : Nat → Int64) (o : Nat) (g0 : Nat → Int64) (sz : Nat) (hI : kI a 29) (ho : ∀ k, k < 29 → a k ≠ o) (nf : Nat) (x : Int32) (hfc : M 0 2 = nI nf) (hf40 : nf ≤ 40) : Met l yL_depth wsL_depth ({ frames := 9, cells := 1, slots := 6, locals := 211 } : Room) (va_Pc [.ref (a 0), .int x, .ref o] (LBT D cs sa a o (xo cs a M N o (oL cs g0)) sz)) (va_Qi (fun r (u : (Nat → Nat → Int32) × (Nat → Int64)) => r = nI (if (isIn nf x) = true then 0 else 1) ∧ ((if (isIn nf x) = true then 0 else 1) = 0 → u.1 = M ∧ u.2 0 = (M 10 x.toNatClampNeg).toInt64) ∧ (¬ (if (isIn nf x) = true then 0 else 1) = 0 → TX M u.1)) (fun u t => va_P D vwCl (xo cs a u.1 N o (oL cs u.2)) t.heap) (kO a o sz)) 1 6 (kO a o sz) := by
  refine va_MetW (cc := cL_depth) (maxL := 4) (ret := (some .int)) (hh := [(0, 9, 12, 21)]) (by decide) rfl ?_
  intro p e s m args below meth c s₁ B hml hv
  obtain ⟨rfl, hsz, hP, hK, hT, hZ, hNc⟩ := hv
  have hx := B.exec
  have hb := B.bytes
  have hr := B.returns
  have hts := atoms_spec (ws := wsL_depth) B.pre
  have hown : s.vm.findClass RL = some m.cls := findClass_of_methodNamed B.named
  have hlocks := B.notSynchronized
  have hK1 := hK.1
  have htb := vx_table (x := yL_depth) B (hts _ List.mem_cons_self)
  subst hsz
  have hS : va_S (kO a o s.heap.size) s.heap s.heap [] := va_S.rf
  have hl := lv_entry ([.ref (a 0), .int x, .ref o]) (n := 4) (Nat.le_of_ble_eq_true rfl)
  rw [lg_entry_eq]
  generalize (lg_sl ([.ref (a 0), .int x, .ref o]) ++ List.replicate (4 - (lg_sl ([.ref (a 0), .int x, .ref o])).length) Slot.unset).toArray = ls at hl ⊢
  have hl : lv_has ls 4 [(0, .ref (a 0)), (1, .int x), (2, .ref o)] := hl
  refine W_Q (fun Q hQ => ?_)
  refine lv_aload_n hx hb dL_depth_0 rfl (lv_at hl 2 rfl) ?_
  refine lv_iconst (v := nI 0) hx hb dL_depth_1 (by decide) ?_
  refine lv_aload_n hx hb dL_depth_2 rfl (lv_at hl 0 rfl) ?_
  refine lv_iload_n hx hb dL_depth_3 rfl (lv_at hl 1 rfl) ?_
  refine xcallLi (vx_runV (As := [.int x]) (rest := [.int (nI 0), .ref o]) ⟨hx, hb, hml, hown, hts⟩ (c_X4_depth l hl0 D cs sa a M N _ hI nf x hfc hf40) (cwV 1 hts gL_depth_X4_depth rfl rfl rfl (by decide +kernel) ⟨(Nat.le_of_ble_eq_true rfl), (Nat.le_of_ble_eq_true rfl)⟩) (xpreVL (xoP hP) hK hT hZ hS (kO_le hS.1) (ci := 4) 0 rfl rfl) rfl rfl hl.1 rfl (lv_room (Nat.le_of_ble_eq_true rfl)) dL_depth_4 ⟨(Nat.le_of_ble_eq_true rfl), (Nat.le_of_ble_eq_true rfl)⟩) hS (kO_le hS.1) hP ho (fun E ce q9 u9 H locs hXE hP hS hce hcv hcl => ?_) (fun r9 u9 H locs hrel hP hS => ?_)
  ·
    obtain ⟨hXE, hTX⟩ := hXE
    rcases hXE with ⟨rfl, hc⟩
    ·
      refine vx_catch (E := "java/lang/IndexOutOfBoundsException") (name := "java/lang/IndexOutOfBoundsException") hown [] ⟨0, 9, 12, 21⟩ [] htb (fun z hz => nomatch hz) (by decide) (by decide) (hts (.classLink RL 21 "java/lang/IndexOutOfBoundsException") (List.mem_of_getElem? (i := 1) rfl)) (va_Nw.use rfl hT.2.2.1) hce hcv hcl ?_
      refine lv_astore_n (lv' := [(3, .ref q9), (0, .ref (a 0)), (1, .int x), (2, .ref o)]) hx hb dL_depth_12 rfl hl (by decide) rfl (fun ls hl => ?_)
      refine lv_iconst (v := nI 1) hx hb dL_depth_13 (by decide) ?_
      subst hQ
      refine W.widen (k := 1) (n := 6) (by decide) (by decide) ?_
      have hcz : ¬ (if (isIn nf x) = true then 0 else 1) = 0 := by rw [hc]; decide
      exact W.iret hx hb hr (fun t ht hW => ⟨⟨_, (u9, g0), rfl, ⟨by rw [hc], fun h0 => absurd h0 hcz, fun _ => hTX⟩, by rw [← ht] at hP; exact hP⟩, hS.F ht⟩) hS.2.2 dL_depth_14
  ·
    obtain ⟨hr9, hcz, hrel⟩ := hrel
    refine lv_i2l (v := r9.toInt64) hx hb dL_depth_7 rfl ?_
    refine xlast (j := 0) (q0 := 29) (t0 := 1) (ws' := xo cs a u9 N o (oL cs (vp_updL g0 0 r9.toInt64))) hx hb hK1 hP (xoD hI ho) hS rfl rfl (by decide) (by decide) rfl dL_depth_8 (fun H locs hP hS => ?_)
    refine lv_goto (tgt := 15) hx hb dL_depth_9 (by decide) ?_
    refine lv_iconst (v := nI 0) hx hb dL_depth_15 (by decide) ?_
    subst hQ
    refine W.widen (k := 1) (n := 6) (by decide) (by decide) ?_
    exact W.iret hx hb hr (fun t ht hW => ⟨⟨_, (u9, vp_updL g0 0 r9.toInt64), rfl, ⟨by rw [hcz], fun _ => ⟨hrel, (show r9.toInt64 = _ from by rw [hr9])⟩, fun h0 => absurd hcz h0⟩, by rw [← ht] at hP; exact hP⟩, hS.F ht⟩) hS.2.2 dL_depth_16
set_option maxHeartbeats 4000000 in
set_option maxRecDepth 100000 in
theorem c_L_nesting (l : Launch) (hl0 : l.stackTraces = false) (D : va_G) (cs sa : Nat → Nat) (a : Nat → Nat) (M : Nat → Nat → Int32) (N : Nat → Int64) (o : Nat) (g0 : Nat → Int64) (sz : Nat) (hI : kI a 29) (ho : ∀ k, k < 29 → a k ≠ o) (nf : Nat) (x : Int32) (hfc : M 0 2 = nI nf) (hf40 : nf ≤ 40) : Met l yL_nesting wsL_nesting ({ frames := 9, cells := 1, slots := 6, locals := 211 } : Room) (va_Pc [.ref (a 0), .int x, .ref o] (LBT D cs sa a o (xo cs a M N o (oL cs g0)) sz)) (va_Qi (fun r (u : (Nat → Nat → Int32) × (Nat → Int64)) => r = nI (if (isIn nf x) = true then 0 else 1) ∧ ((if (isIn nf x) = true then 0 else 1) = 0 → u.1 = M ∧ u.2 0 = (M 11 x.toNatClampNeg).toInt64) ∧ (¬ (if (isIn nf x) = true then 0 else 1) = 0 → TX M u.1)) (fun u t => va_P D vwCl (xo cs a u.1 N o (oL cs u.2)) t.heap) (kO a o sz)) 1 6 (kO a o sz) := by
  refine va_MetW (cc := cL_nesting) (maxL := 4) (ret := (some .int)) (hh := [(0, 9, 12, 21)]) (by decide) rfl ?_
  intro p e s m args below meth c s₁ B hml hv
  obtain ⟨rfl, hsz, hP, hK, hT, hZ, hNc⟩ := hv
  have hx := B.exec
  have hb := B.bytes
  have hr := B.returns
  have hts := atoms_spec (ws := wsL_nesting) B.pre
  have hown : s.vm.findClass RL = some m.cls := findClass_of_methodNamed B.named
  have hlocks := B.notSynchronized
  have hK1 := hK.1
  have htb := vx_table (x := yL_nesting) B (hts _ List.mem_cons_self)
  subst hsz
  have hS : va_S (kO a o s.heap.size) s.heap s.heap [] := va_S.rf
  have hl := lv_entry ([.ref (a 0), .int x, .ref o]) (n := 4) (Nat.le_of_ble_eq_true rfl)
  rw [lg_entry_eq]
  generalize (lg_sl ([.ref (a 0), .int x, .ref o]) ++ List.replicate (4 - (lg_sl ([.ref (a 0), .int x, .ref o])).length) Slot.unset).toArray = ls at hl ⊢
  have hl : lv_has ls 4 [(0, .ref (a 0)), (1, .int x), (2, .ref o)] := hl
  refine W_Q (fun Q hQ => ?_)
  refine lv_aload_n hx hb dL_nesting_0 rfl (lv_at hl 2 rfl) ?_
  refine lv_iconst (v := nI 0) hx hb dL_nesting_1 (by decide) ?_
  refine lv_aload_n hx hb dL_nesting_2 rfl (lv_at hl 0 rfl) ?_
  refine lv_iload_n hx hb dL_nesting_3 rfl (lv_at hl 1 rfl) ?_
  refine xcallLi (vx_runV (As := [.int x]) (rest := [.int (nI 0), .ref o]) ⟨hx, hb, hml, hown, hts⟩ (c_X4_nesting l hl0 D cs sa a M N _ hI nf x hfc hf40) (cwV 1 hts gL_nesting_X4_nesting rfl rfl rfl (by decide +kernel) ⟨(Nat.le_of_ble_eq_true rfl), (Nat.le_of_ble_eq_true rfl)⟩) (xpreVL (xoP hP) hK hT hZ hS (kO_le hS.1) (ci := 4) 0 rfl rfl) rfl rfl hl.1 rfl (lv_room (Nat.le_of_ble_eq_true rfl)) dL_nesting_4 ⟨(Nat.le_of_ble_eq_true rfl), (Nat.le_of_ble_eq_true rfl)⟩) hS (kO_le hS.1) hP ho (fun E ce q9 u9 H locs hXE hP hS hce hcv hcl => ?_) (fun r9 u9 H locs hrel hP hS => ?_)
  ·
    obtain ⟨hXE, hTX⟩ := hXE
    rcases hXE with ⟨rfl, hc⟩
    ·
      refine vx_catch (E := "java/lang/IndexOutOfBoundsException") (name := "java/lang/IndexOutOfBoundsException") hown [] ⟨0, 9, 12, 21⟩ [] htb (fun z hz => nomatch hz) (by decide) (by decide) (hts (.classLink RL 21 "java/lang/IndexOutOfBoundsException") (List.mem_of_getElem? (i := 1) rfl)) (va_Nw.use rfl hT.2.2.1) hce hcv hcl ?_
      refine lv_astore_n (lv' := [(3, .ref q9), (0, .ref (a 0)), (1, .int x), (2, .ref o)]) hx hb dL_nesting_12 rfl hl (by decide) rfl (fun ls hl => ?_)
      refine lv_iconst (v := nI 1) hx hb dL_nesting_13 (by decide) ?_
      subst hQ
      refine W.widen (k := 1) (n := 6) (by decide) (by decide) ?_
      have hcz : ¬ (if (isIn nf x) = true then 0 else 1) = 0 := by rw [hc]; decide
      exact W.iret hx hb hr (fun t ht hW => ⟨⟨_, (u9, g0), rfl, ⟨by rw [hc], fun h0 => absurd h0 hcz, fun _ => hTX⟩, by rw [← ht] at hP; exact hP⟩, hS.F ht⟩) hS.2.2 dL_nesting_14
  ·
    obtain ⟨hr9, hcz, hrel⟩ := hrel
    refine lv_i2l (v := r9.toInt64) hx hb dL_nesting_7 rfl ?_
    refine xlast (j := 0) (q0 := 29) (t0 := 1) (ws' := xo cs a u9 N o (oL cs (vp_updL g0 0 r9.toInt64))) hx hb hK1 hP (xoD hI ho) hS rfl rfl (by decide) (by decide) rfl dL_nesting_8 (fun H locs hP hS => ?_)
    refine lv_goto (tgt := 15) hx hb dL_nesting_9 (by decide) ?_
    refine lv_iconst (v := nI 0) hx hb dL_nesting_15 (by decide) ?_
    subst hQ
    refine W.widen (k := 1) (n := 6) (by decide) (by decide) ?_
    exact W.iret hx hb hr (fun t ht hW => ⟨⟨_, (u9, vp_updL g0 0 r9.toInt64), rfl, ⟨by rw [hcz], fun _ => ⟨hrel, (show r9.toInt64 = _ from by rw [hr9])⟩, fun h0 => absurd hcz h0⟩, by rw [← ht] at hP; exact hP⟩, hS.F ht⟩) hS.2.2 dL_nesting_16
set_option maxHeartbeats 4000000 in
set_option maxRecDepth 100000 in
theorem c_L_where (l : Launch) (hl0 : l.stackTraces = false) (D : va_G) (cs sa : Nat → Nat) (a : Nat → Nat) (M : Nat → Nat → Int32) (N : Nat → Int64) (o : Nat) (g0 : Nat → Int64) (sz : Nat) (hI : kI a 29) (ho : ∀ k, k < 29 → a k ≠ o) (n : Nat) (nf : Nat) (kd : Nat → Nat) (p1 : Nat → Nat) (p2 : Nat → Nat) (ns : Nat → Nat) (sb : Nat → Nat) (x : Int32) (hn : M 0 0 = nI n) (hn24 : n ≤ 24) (hfc : M 0 2 = nI nf) (hf40 : nf ≤ 40) (hwf : WFX M N nf kd p1 p2 ns sb) : Met l yL_where wsL_where ({ frames := 16, cells := 1, slots := 6, locals := 381 } : Room) (va_Pc [.ref (a 0), .int x, .ref o] (LBT D cs sa a o (xo cs a M N o (oL cs g0)) sz)) (va_Qi (fun r (u : (Nat → Nat → Int32) × (Nat → Int64)) => r = nI (if (isIn nf x) = true then 0 else 1) ∧ ((if (isIn nf x) = true then 0 else 1) = 0 → (∀ i x, ¬ (12 ≤ i ∧ i < 15) → u.1 i x = M i x) ∧ u.2 0 = (sem M n kd p1 p2 sb (sg n - nI 1) x.toNatClampNeg).toInt64) ∧ (¬ (if (isIn nf x) = true then 0 else 1) = 0 → TX M u.1)) (fun u t => va_P D vwCl (xo cs a u.1 N o (oL cs u.2)) t.heap) (kO a o sz)) 1 6 (kO a o sz) := by
  refine va_MetW (cc := cL_where) (maxL := 4) (ret := (some .int)) (hh := [(0, 9, 12, 21)]) (by decide) rfl ?_
  intro p e s m args below meth c s₁ B hml hv
  obtain ⟨rfl, hsz, hP, hK, hT, hZ, hNc⟩ := hv
  have hx := B.exec
  have hb := B.bytes
  have hr := B.returns
  have hts := atoms_spec (ws := wsL_where) B.pre
  have hown : s.vm.findClass RL = some m.cls := findClass_of_methodNamed B.named
  have hlocks := B.notSynchronized
  have hK1 := hK.1
  have htb := vx_table (x := yL_where) B (hts _ List.mem_cons_self)
  subst hsz
  have hS : va_S (kO a o s.heap.size) s.heap s.heap [] := va_S.rf
  have hl := lv_entry ([.ref (a 0), .int x, .ref o]) (n := 4) (Nat.le_of_ble_eq_true rfl)
  rw [lg_entry_eq]
  generalize (lg_sl ([.ref (a 0), .int x, .ref o]) ++ List.replicate (4 - (lg_sl ([.ref (a 0), .int x, .ref o])).length) Slot.unset).toArray = ls at hl ⊢
  have hl : lv_has ls 4 [(0, .ref (a 0)), (1, .int x), (2, .ref o)] := hl
  refine W_Q (fun Q hQ => ?_)
  refine lv_aload_n hx hb dL_where_0 rfl (lv_at hl 2 rfl) ?_
  refine lv_iconst (v := nI 0) hx hb dL_where_1 (by decide) ?_
  refine lv_aload_n hx hb dL_where_2 rfl (lv_at hl 0 rfl) ?_
  refine lv_iload_n hx hb dL_where_3 rfl (lv_at hl 1 rfl) ?_
  refine xcallLi (vx_runV (As := [.int x]) (rest := [.int (nI 0), .ref o]) ⟨hx, hb, hml, hown, hts⟩ (c_X4_where l hl0 D cs sa a M N _ hI n nf kd p1 p2 ns sb x hn hn24 hfc hf40 hwf) (cwV 1 hts gL_where_X4_where rfl rfl rfl (by decide +kernel) ⟨(Nat.le_of_ble_eq_true rfl), (Nat.le_of_ble_eq_true rfl)⟩) (xpreVL (xoP hP) hK hT hZ hS (kO_le hS.1) (ci := 4) 0 rfl rfl) rfl rfl hl.1 rfl (lv_room (Nat.le_of_ble_eq_true rfl)) dL_where_4 ⟨(Nat.le_of_ble_eq_true rfl), (Nat.le_of_ble_eq_true rfl)⟩) hS (kO_le hS.1) hP ho (fun E ce q9 u9 H locs hXE hP hS hce hcv hcl => ?_) (fun r9 u9 H locs hrel hP hS => ?_)
  ·
    obtain ⟨hXE, hTX⟩ := hXE
    rcases hXE with ⟨rfl, hc⟩
    ·
      refine vx_catch (E := "java/lang/IndexOutOfBoundsException") (name := "java/lang/IndexOutOfBoundsException") hown [] ⟨0, 9, 12, 21⟩ [] htb (fun z hz => nomatch hz) (by decide) (by decide) (hts (.classLink RL 21 "java/lang/IndexOutOfBoundsException") (List.mem_of_getElem? (i := 1) rfl)) (va_Nw.use rfl hT.2.2.1) hce hcv hcl ?_
      refine lv_astore_n (lv' := [(3, .ref q9), (0, .ref (a 0)), (1, .int x), (2, .ref o)]) hx hb dL_where_12 rfl hl (by decide) rfl (fun ls hl => ?_)
      refine lv_iconst (v := nI 1) hx hb dL_where_13 (by decide) ?_
      subst hQ
      refine W.widen (k := 1) (n := 6) (by decide) (by decide) ?_
      have hcz : ¬ (if (isIn nf x) = true then 0 else 1) = 0 := by rw [hc]; decide
      exact W.iret hx hb hr (fun t ht hW => ⟨⟨_, (u9, g0), rfl, ⟨by rw [hc], fun h0 => absurd h0 hcz, fun _ => hTX⟩, by rw [← ht] at hP; exact hP⟩, hS.F ht⟩) hS.2.2 dL_where_14
  ·
    obtain ⟨hr9, hcz, hrel⟩ := hrel
    refine lv_i2l (v := r9.toInt64) hx hb dL_where_7 rfl ?_
    refine xlast (j := 0) (q0 := 29) (t0 := 1) (ws' := xo cs a u9 N o (oL cs (vp_updL g0 0 r9.toInt64))) hx hb hK1 hP (xoD hI ho) hS rfl rfl (by decide) (by decide) rfl dL_where_8 (fun H locs hP hS => ?_)
    refine lv_goto (tgt := 15) hx hb dL_where_9 (by decide) ?_
    refine lv_iconst (v := nI 0) hx hb dL_where_15 (by decide) ?_
    subst hQ
    refine W.widen (k := 1) (n := 6) (by decide) (by decide) ?_
    exact W.iret hx hb hr (fun t ht hW => ⟨⟨_, (u9, vp_updL g0 0 r9.toInt64), rfl, ⟨by rw [hcz], fun _ => ⟨hrel, (show r9.toInt64 = _ from by rw [hr9])⟩, fun h0 => absurd hcz h0⟩, by rw [← ht] at hP; exact hP⟩, hS.F ht⟩) hS.2.2 dL_where_16
set_option maxHeartbeats 4000000 in
set_option maxRecDepth 100000 in
theorem c_L_holds (l : Launch) (hl0 : l.stackTraces = false) (D : va_G) (cs sa : Nat → Nat) (a : Nat → Nat) (M : Nat → Nat → Int32) (N : Nat → Int64) (o : Nat) (g0 : Nat → Int64) (sz : Nat) (hI : kI a 29) (ho : ∀ k, k < 29 → a k ≠ o) (n : Nat) (nf : Nat) (kd : Nat → Nat) (p1 : Nat → Nat) (p2 : Nat → Nat) (ns : Nat → Nat) (sb : Nat → Nat) (act : Nat) (x : Int32) (hn : M 0 0 = nI n) (hn24 : n ≤ 24) (hfc : M 0 2 = nI nf) (hf40 : nf ≤ 40) (hwf : WFX M N nf kd p1 p2 ns sb) (hact : M 0 1 = nI act) (ha24 : act < 24) : Met l yL_holds wsL_holds ({ frames := 16, cells := 2, slots := 12, locals := 381 } : Room) (va_Pc [.ref (a 0), .int x, .ref o] (LBT D cs sa a o (xo cs a M N o (oL cs g0)) sz)) (va_Qi (fun r (u : (Nat → Nat → Int32) × (Nat → Int64)) => r = nI (if (isIn nf x) = true then (if (!decide (n = 0)) = true then 0 else 2) else 1) ∧ ((if (isIn nf x) = true then (if (!decide (n = 0)) = true then 0 else 2) else 1) = 0 → (∀ i x, ¬ (12 ≤ i ∧ i < 15) → u.1 i x = M i x) ∧ u.2 0 = (if (bt (sem M n kd p1 p2 sb (sg n - nI 1) x.toNatClampNeg) act) = true then (1 : Int64) else 0)) ∧ (¬ (if (isIn nf x) = true then (if (!decide (n = 0)) = true then 0 else 2) else 1) = 0 → TX M u.1)) (fun u t => va_P D vwCl (xo cs a u.1 N o (oL cs u.2)) t.heap) (kO a o sz)) 2 12 (kO a o sz) := by
  refine va_MetW (cc := cL_holds) (maxL := 4) (ret := (some .int)) (hh := [(0, 16, 19, 21), (0, 16, 22, 15)]) (by decide) rfl ?_
  intro p e s m args below meth c s₁ B hml hv
  obtain ⟨rfl, hsz, hP, hK, hT, hZ, hNc⟩ := hv
  have hx := B.exec
  have hb := B.bytes
  have hr := B.returns
  have hts := atoms_spec (ws := wsL_holds) B.pre
  have hown : s.vm.findClass RL = some m.cls := findClass_of_methodNamed B.named
  have hlocks := B.notSynchronized
  have hK1 := hK.1
  have htb := vx_table (x := yL_holds) B (hts _ List.mem_cons_self)
  subst hsz
  have hS : va_S (kO a o s.heap.size) s.heap s.heap [] := va_S.rf
  have hl := lv_entry ([.ref (a 0), .int x, .ref o]) (n := 4) (Nat.le_of_ble_eq_true rfl)
  rw [lg_entry_eq]
  generalize (lg_sl ([.ref (a 0), .int x, .ref o]) ++ List.replicate (4 - (lg_sl ([.ref (a 0), .int x, .ref o])).length) Slot.unset).toArray = ls at hl ⊢
  have hl : lv_has ls 4 [(0, .ref (a 0)), (1, .int x), (2, .ref o)] := hl
  refine W_Q (fun Q hQ => ?_)
  refine lv_aload_n hx hb dL_holds_0 rfl (lv_at hl 2 rfl) ?_
  refine lv_iconst (v := nI 0) hx hb dL_holds_1 (by decide) ?_
  refine lv_aload_n hx hb dL_holds_2 rfl (lv_at hl 0 rfl) ?_
  refine lv_iload_n hx hb dL_holds_3 rfl (lv_at hl 1 rfl) ?_
  refine xcallLi (vx_runV (As := [.int x]) (rest := [.int (nI 0), .ref o]) ⟨hx, hb, hml, hown, hts⟩ (c_X4_holds l hl0 D cs sa a M N _ hI n nf kd p1 p2 ns sb act x hn hn24 hfc hf40 hwf hact ha24) (cwV 1 hts gL_holds_X4_holds rfl rfl rfl (by decide +kernel) ⟨(Nat.le_of_ble_eq_true rfl), (Nat.le_of_ble_eq_true rfl)⟩) (xpreVL (xoP hP) hK hT hZ hS (kO_le hS.1) (ci := 4) 0 rfl rfl) rfl rfl hl.1 rfl (lv_room (Nat.le_of_ble_eq_true rfl)) dL_holds_4 ⟨(Nat.le_of_ble_eq_true rfl), (Nat.le_of_ble_eq_true rfl)⟩) hS (kO_le hS.1) hP ho (fun E ce q9 u9 H locs hXE hP hS hce hcv hcl => ?_) (fun r9 u9 H locs hrel hP hS => ?_)
  ·
    obtain ⟨hXE, hTX⟩ := hXE
    rcases hXE with ⟨rfl, hc⟩ | ⟨rfl, hc⟩
    ·
      refine vx_catch (E := "java/lang/IndexOutOfBoundsException") (name := "java/lang/IndexOutOfBoundsException") hown [] ⟨0, 16, 19, 21⟩ [⟨0, 16, 22, 15⟩] htb (fun z hz => nomatch hz) (by decide) (by decide) (hts (.classLink RL 21 "java/lang/IndexOutOfBoundsException") (List.mem_of_getElem? (i := 1) rfl)) (va_Nw.use rfl hT.2.2.1) hce hcv hcl ?_
      refine lv_astore_n (lv' := [(3, .ref q9), (0, .ref (a 0)), (1, .int x), (2, .ref o)]) hx hb dL_holds_19 rfl hl (by decide) rfl (fun ls hl => ?_)
      refine lv_iconst (v := nI 1) hx hb dL_holds_20 (by decide) ?_
      subst hQ
      refine W.widen (k := 2) (n := 12) (by decide) (by decide) ?_
      have hcz : ¬ (if (isIn nf x) = true then (if (!decide (n = 0)) = true then 0 else 2) else 1) = 0 := by rw [hc]; decide
      exact W.iret hx hb hr (fun t ht hW => ⟨⟨_, (u9, g0), rfl, ⟨by rw [hc], fun h0 => absurd h0 hcz, fun _ => hTX⟩, by rw [← ht] at hP; exact hP⟩, hS.F ht⟩) hS.2.2 dL_holds_21
    ·
      refine vx_catch (E := "java/lang/IllegalStateException") (name := "java/lang/IllegalStateException") hown [⟨0, 16, 19, 21⟩] ⟨0, 16, 22, 15⟩ [] htb (by intro z hz; simp only [List.mem_cons, List.not_mem_nil, or_false] at hz; rcases hz with rfl; exact Or.inr ⟨by decide, "java/lang/IndexOutOfBoundsException", hts (.classLink RL 21 "java/lang/IndexOutOfBoundsException") (List.mem_of_getElem? (i := 1) rfl), hNc.2.1⟩) (by decide) (by decide) (hts (.classLink RL 15 "java/lang/IllegalStateException") (List.mem_of_getElem? (i := 2) rfl)) (va_Nw.use rfl hT.1) hce hcv hcl ?_
      refine lv_astore_n (lv' := [(3, .ref q9), (0, .ref (a 0)), (1, .int x), (2, .ref o)]) hx hb dL_holds_22 rfl hl (by decide) rfl (fun ls hl => ?_)
      refine lv_iconst (v := nI 2) hx hb dL_holds_23 (by decide) ?_
      subst hQ
      refine W.widen (k := 2) (n := 12) (by decide) (by decide) ?_
      have hcz : ¬ (if (isIn nf x) = true then (if (!decide (n = 0)) = true then 0 else 2) else 1) = 0 := by rw [hc]; decide
      exact W.iret hx hb hr (fun t ht hW => ⟨⟨_, (u9, g0), rfl, ⟨by rw [hc], fun h0 => absurd h0 hcz, fun _ => hTX⟩, by rw [← ht] at hP; exact hP⟩, hS.F ht⟩) hS.2.2 dL_holds_24
  ·
    obtain ⟨hr9, hcz, hrel⟩ := hrel
    refine lv_if_eq (tgt := 14) hx hb dL_holds_7 (by decide) (fun c9 => ?_) (fun c9 => ?_)
    ·
      rw [hr9] at c9
      have hb9 : (bt (sem M n kd p1 p2 sb (sg n - nI 1) x.toNatClampNeg) act) = false := bI_0 c9
      refine lv_lconst (v := 0) hx hb dL_holds_14 (by decide) ?_
      refine xlast (j := 0) (q0 := 29) (t0 := 1) (ws' := xo cs a u9 N o (oL cs (vp_updL g0 0 (0 : Int64)))) hx hb hK1 hP (xoD hI ho) hS rfl rfl (by decide) (by decide) rfl dL_holds_15 (fun H locs hP hS => ?_)
      refine lv_goto (tgt := 25) hx hb dL_holds_16 (by decide) ?_
      refine lv_iconst (v := nI 0) hx hb dL_holds_25 (by decide) ?_
      subst hQ
      refine W.widen (k := 2) (n := 12) (by decide) (by decide) ?_
      exact W.iret hx hb hr (fun t ht hW => ⟨⟨_, (u9, vp_updL g0 0 (0 : Int64)), rfl, ⟨by rw [hcz], fun _ => ⟨hrel, (show (0 : Int64) = _ from by rw [hb9]; rfl)⟩, fun h0 => absurd hcz h0⟩, by rw [← ht] at hP; exact hP⟩, hS.F ht⟩) hS.2.2 dL_holds_26
    ·
      rw [hr9] at c9
      have hb9 : (bt (sem M n kd p1 p2 sb (sg n - nI 1) x.toNatClampNeg) act) = true := bI_n0 c9
      refine lv_lconst (v := 1) hx hb dL_holds_10 (by decide) ?_
      refine lv_goto (tgt := 15) hx hb dL_holds_11 (by decide) ?_
      refine xlast (j := 0) (q0 := 29) (t0 := 1) (ws' := xo cs a u9 N o (oL cs (vp_updL g0 0 (1 : Int64)))) hx hb hK1 hP (xoD hI ho) hS rfl rfl (by decide) (by decide) rfl dL_holds_15 (fun H locs hP hS => ?_)
      refine lv_goto (tgt := 25) hx hb dL_holds_16 (by decide) ?_
      refine lv_iconst (v := nI 0) hx hb dL_holds_25 (by decide) ?_
      subst hQ
      refine W.widen (k := 2) (n := 12) (by decide) (by decide) ?_
      exact W.iret hx hb hr (fun t ht hW => ⟨⟨_, (u9, vp_updL g0 0 (1 : Int64)), rfl, ⟨by rw [hcz], fun _ => ⟨hrel, (show (1 : Int64) = _ from by rw [hb9]; rfl)⟩, fun h0 => absurd hcz h0⟩, by rw [← ht] at hP; exact hP⟩, hS.F ht⟩) hS.2.2 dL_holds_26
set_option maxHeartbeats 4000000 in
set_option maxRecDepth 100000 in
theorem c_L_share (l : Launch) (hl0 : l.stackTraces = false) (D : va_G) (cs sa : Nat → Nat) (a : Nat → Nat) (M : Nat → Nat → Int32) (N : Nat → Int64) (o : Nat) (g0 : Nat → UInt64) (sz : Nat) (hI : kI a 29) (ho : ∀ k, k < 29 → a k ≠ o) (n : Nat) (nf : Nat) (kd : Nat → Nat) (p1 : Nat → Nat) (p2 : Nat → Nat) (ns : Nat → Nat) (sb : Nat → Nat) (x : Int32) (hn : M 0 0 = nI n) (hn24 : n ≤ 24) (hfc : M 0 2 = nI nf) (hf40 : nf ≤ 40) (hwf : WFX M N nf kd p1 p2 ns sb) : Met l yL_share wsL_share ({ frames := 16, cells := 1, slots := 6, locals := 381 } : Room) (va_Pc [.ref (a 0), .int x, .ref o] (LBT D cs sa a o (xo cs a M N o (oDb cs g0)) sz)) (va_Qi (fun r (u : (Nat → Nat → Int32) × (Nat → UInt64)) => r = nI (if (isIn nf x) = true then 0 else 1) ∧ ((if (isIn nf x) = true then 0 else 1) = 0 → (∀ i x, ¬ (12 ≤ i ∧ i < 15) → u.1 i x = M i x) ∧ u.2 0 = (if n = 0 then FP.dconst0 else shv (fb_ct (bt (sem M n kd p1 p2 sb (sg n - nI 1) x.toNatClampNeg)) 32) n)) ∧ (¬ (if (isIn nf x) = true then 0 else 1) = 0 → TX M u.1)) (fun u t => va_P D vwCl (xo cs a u.1 N o (oDb cs u.2)) t.heap) (kO a o sz)) 1 6 (kO a o sz) := by
  refine va_MetW (cc := cL_share) (maxL := 4) (ret := (some .int)) (hh := [(0, 8, 11, 21)]) (by decide) rfl ?_
  intro p e s m args below meth c s₁ B hml hv
  obtain ⟨rfl, hsz, hP, hK, hT, hZ, hNc⟩ := hv
  have hx := B.exec
  have hb := B.bytes
  have hr := B.returns
  have hts := atoms_spec (ws := wsL_share) B.pre
  have hown : s.vm.findClass RL = some m.cls := findClass_of_methodNamed B.named
  have hlocks := B.notSynchronized
  have hK1 := hK.1
  have htb := vx_table (x := yL_share) B (hts _ List.mem_cons_self)
  subst hsz
  have hS : va_S (kO a o s.heap.size) s.heap s.heap [] := va_S.rf
  have hl := lv_entry ([.ref (a 0), .int x, .ref o]) (n := 4) (Nat.le_of_ble_eq_true rfl)
  rw [lg_entry_eq]
  generalize (lg_sl ([.ref (a 0), .int x, .ref o]) ++ List.replicate (4 - (lg_sl ([.ref (a 0), .int x, .ref o])).length) Slot.unset).toArray = ls at hl ⊢
  have hl : lv_has ls 4 [(0, .ref (a 0)), (1, .int x), (2, .ref o)] := hl
  refine W_Q (fun Q hQ => ?_)
  refine lv_aload_n hx hb dL_share_0 rfl (lv_at hl 2 rfl) ?_
  refine lv_iconst (v := nI 0) hx hb dL_share_1 (by decide) ?_
  refine lv_aload_n hx hb dL_share_2 rfl (lv_at hl 0 rfl) ?_
  refine lv_iload_n hx hb dL_share_3 rfl (lv_at hl 1 rfl) ?_
  refine xcallLd (vx_runV (As := [.int x]) (rest := [.int (nI 0), .ref o]) ⟨hx, hb, hml, hown, hts⟩ (c_X4_share l hl0 D cs sa a M N _ hI n nf kd p1 p2 ns sb x hn hn24 hfc hf40 hwf) (cwV 1 hts gL_share_X4_share rfl rfl rfl (by decide +kernel) ⟨(Nat.le_of_ble_eq_true rfl), (Nat.le_of_ble_eq_true rfl)⟩) (xpreVL (xoP hP) hK hT hZ hS (kO_le hS.1) (ci := 4) 0 rfl rfl) rfl rfl hl.1 rfl (lv_room (Nat.le_of_ble_eq_true rfl)) dL_share_4 ⟨(Nat.le_of_ble_eq_true rfl), (Nat.le_of_ble_eq_true rfl)⟩) hS (kO_le hS.1) hP ho (fun E ce q9 u9 H locs hXE hP hS hce hcv hcl => ?_) (fun r9 u9 H locs hrel hP hS => ?_)
  ·
    obtain ⟨hXE, hTX⟩ := hXE
    rcases hXE with ⟨rfl, hc⟩
    ·
      refine vx_catch (E := "java/lang/IndexOutOfBoundsException") (name := "java/lang/IndexOutOfBoundsException") hown [] ⟨0, 8, 11, 21⟩ [] htb (fun z hz => nomatch hz) (by decide) (by decide) (hts (.classLink RL 21 "java/lang/IndexOutOfBoundsException") (List.mem_of_getElem? (i := 1) rfl)) (va_Nw.use rfl hT.2.2.1) hce hcv hcl ?_
      refine lv_astore_n (lv' := [(3, .ref q9), (0, .ref (a 0)), (1, .int x), (2, .ref o)]) hx hb dL_share_11 rfl hl (by decide) rfl (fun ls hl => ?_)
      refine lv_iconst (v := nI 1) hx hb dL_share_12 (by decide) ?_
      subst hQ
      refine W.widen (k := 1) (n := 6) (by decide) (by decide) ?_
      have hcz : ¬ (if (isIn nf x) = true then 0 else 1) = 0 := by rw [hc]; decide
      exact W.iret hx hb hr (fun t ht hW => ⟨⟨_, (u9, g0), rfl, ⟨by rw [hc], fun h0 => absurd h0 hcz, fun _ => hTX⟩, by rw [← ht] at hP; exact hP⟩, hS.F ht⟩) hS.2.2 dL_share_13
  ·
    obtain ⟨hr9, hcz, hrel⟩ := hrel
    refine va_dast hx hb hK1 hP (xoD hI ho) hS 29 4 rfl rfl (vp_in_nI (show 0 < 1 by decide) (by decide)) dL_share_7 (fun H locs hP _ hS => ?_)
    refine lv_goto (tgt := 14) hx hb dL_share_8 (by decide) ?_
    refine lv_iconst (v := nI 0) hx hb dL_share_14 (by decide) ?_
    subst hQ
    refine W.widen (k := 1) (n := 6) (by decide) (by decide) ?_
    exact W.iret hx hb hr (fun t ht hW => ⟨⟨_, (u9, vf_upd g0 0 r9), rfl, ⟨by rw [hcz], fun _ => ⟨hrel, (show r9 = _ from hr9)⟩, fun h0 => absurd hcz h0⟩, by rw [← ht] at hP; exact hP⟩, hS.F ht⟩) hS.2.2 dL_share_15
set_option maxHeartbeats 4000000 in
set_option maxRecDepth 100000 in
theorem c_L_decided (l : Launch) (hl0 : l.stackTraces = false) (D : va_G) (cs sa : Nat → Nat) (a : Nat → Nat) (M : Nat → Nat → Int32) (N : Nat → Int64) (o : Nat) (g0 : Nat → Int64) (sz : Nat) (hI : kI a 29) (ho : ∀ k, k < 29 → a k ≠ o) (n : Nat) (act : Nat) (x : Int32) (hn : M 0 0 = nI n) (hn24 : n ≤ 24) (hact : M 0 1 = nI act) (ha24 : act < 24) : Met l yL_decided wsL_decided ({ frames := 9, cells := 2, slots := 12, locals := 211 } : Room) (va_Pc [.ref (a 0), .int x, .ref o] (LBT D cs sa a o (xo cs a M N o (oL cs g0)) sz)) (va_Qi (fun r (u : (Nat → Nat → Int32) × (Nat → Int64)) => r = nI (if (isIn 4 x) = true then (if (!decide (n = 0)) = true then 0 else 2) else 1) ∧ ((if (isIn 4 x) = true then (if (!decide (n = 0)) = true then 0 else 2) else 1) = 0 → u.1 = M ∧ u.2 0 = (sameAt M n (M (2 + x.toNatClampNeg) act)).toInt64) ∧ (¬ (if (isIn 4 x) = true then (if (!decide (n = 0)) = true then 0 else 2) else 1) = 0 → TX M u.1)) (fun u t => va_P D vwCl (xo cs a u.1 N o (oL cs u.2)) t.heap) (kO a o sz)) 2 12 (kO a o sz) := by
  refine va_MetW (cc := cL_decided) (maxL := 4) (ret := (some .int)) (hh := [(0, 9, 12, 21), (0, 9, 15, 15)]) (by decide) rfl ?_
  intro p e s m args below meth c s₁ B hml hv
  obtain ⟨rfl, hsz, hP, hK, hT, hZ, hNc⟩ := hv
  have hx := B.exec
  have hb := B.bytes
  have hr := B.returns
  have hts := atoms_spec (ws := wsL_decided) B.pre
  have hown : s.vm.findClass RL = some m.cls := findClass_of_methodNamed B.named
  have hlocks := B.notSynchronized
  have hK1 := hK.1
  have htb := vx_table (x := yL_decided) B (hts _ List.mem_cons_self)
  subst hsz
  have hS : va_S (kO a o s.heap.size) s.heap s.heap [] := va_S.rf
  have hl := lv_entry ([.ref (a 0), .int x, .ref o]) (n := 4) (Nat.le_of_ble_eq_true rfl)
  rw [lg_entry_eq]
  generalize (lg_sl ([.ref (a 0), .int x, .ref o]) ++ List.replicate (4 - (lg_sl ([.ref (a 0), .int x, .ref o])).length) Slot.unset).toArray = ls at hl ⊢
  have hl : lv_has ls 4 [(0, .ref (a 0)), (1, .int x), (2, .ref o)] := hl
  refine W_Q (fun Q hQ => ?_)
  refine lv_aload_n hx hb dL_decided_0 rfl (lv_at hl 2 rfl) ?_
  refine lv_iconst (v := nI 0) hx hb dL_decided_1 (by decide) ?_
  refine lv_aload_n hx hb dL_decided_2 rfl (lv_at hl 0 rfl) ?_
  refine lv_iload_n hx hb dL_decided_3 rfl (lv_at hl 1 rfl) ?_
  refine xcallLi (vx_runV (As := [.int x]) (rest := [.int (nI 0), .ref o]) ⟨hx, hb, hml, hown, hts⟩ (c_X4_decided l hl0 D cs sa a M N _ hI n act x hn hn24 hact ha24) (cwV 1 hts gL_decided_X4_decided rfl rfl rfl (by decide +kernel) ⟨(Nat.le_of_ble_eq_true rfl), (Nat.le_of_ble_eq_true rfl)⟩) (xpreVL (xoP hP) hK hT hZ hS (kO_le hS.1) (ci := 4) 0 rfl rfl) rfl rfl hl.1 rfl (lv_room (Nat.le_of_ble_eq_true rfl)) dL_decided_4 ⟨(Nat.le_of_ble_eq_true rfl), (Nat.le_of_ble_eq_true rfl)⟩) hS (kO_le hS.1) hP ho (fun E ce q9 u9 H locs hXE hP hS hce hcv hcl => ?_) (fun r9 u9 H locs hrel hP hS => ?_)
  ·
    obtain ⟨hXE, hTX⟩ := hXE
    rcases hXE with ⟨rfl, hc⟩ | ⟨rfl, hc⟩
    ·
      refine vx_catch (E := "java/lang/IndexOutOfBoundsException") (name := "java/lang/IndexOutOfBoundsException") hown [] ⟨0, 9, 12, 21⟩ [⟨0, 9, 15, 15⟩] htb (fun z hz => nomatch hz) (by decide) (by decide) (hts (.classLink RL 21 "java/lang/IndexOutOfBoundsException") (List.mem_of_getElem? (i := 1) rfl)) (va_Nw.use rfl hT.2.2.1) hce hcv hcl ?_
      refine lv_astore_n (lv' := [(3, .ref q9), (0, .ref (a 0)), (1, .int x), (2, .ref o)]) hx hb dL_decided_12 rfl hl (by decide) rfl (fun ls hl => ?_)
      refine lv_iconst (v := nI 1) hx hb dL_decided_13 (by decide) ?_
      subst hQ
      refine W.widen (k := 2) (n := 12) (by decide) (by decide) ?_
      have hcz : ¬ (if (isIn 4 x) = true then (if (!decide (n = 0)) = true then 0 else 2) else 1) = 0 := by rw [hc]; decide
      exact W.iret hx hb hr (fun t ht hW => ⟨⟨_, (u9, g0), rfl, ⟨by rw [hc], fun h0 => absurd h0 hcz, fun _ => hTX⟩, by rw [← ht] at hP; exact hP⟩, hS.F ht⟩) hS.2.2 dL_decided_14
    ·
      refine vx_catch (E := "java/lang/IllegalStateException") (name := "java/lang/IllegalStateException") hown [⟨0, 9, 12, 21⟩] ⟨0, 9, 15, 15⟩ [] htb (by intro z hz; simp only [List.mem_cons, List.not_mem_nil, or_false] at hz; rcases hz with rfl; exact Or.inr ⟨by decide, "java/lang/IndexOutOfBoundsException", hts (.classLink RL 21 "java/lang/IndexOutOfBoundsException") (List.mem_of_getElem? (i := 1) rfl), hNc.2.1⟩) (by decide) (by decide) (hts (.classLink RL 15 "java/lang/IllegalStateException") (List.mem_of_getElem? (i := 2) rfl)) (va_Nw.use rfl hT.1) hce hcv hcl ?_
      refine lv_astore_n (lv' := [(3, .ref q9), (0, .ref (a 0)), (1, .int x), (2, .ref o)]) hx hb dL_decided_15 rfl hl (by decide) rfl (fun ls hl => ?_)
      refine lv_iconst (v := nI 2) hx hb dL_decided_16 (by decide) ?_
      subst hQ
      refine W.widen (k := 2) (n := 12) (by decide) (by decide) ?_
      have hcz : ¬ (if (isIn 4 x) = true then (if (!decide (n = 0)) = true then 0 else 2) else 1) = 0 := by rw [hc]; decide
      exact W.iret hx hb hr (fun t ht hW => ⟨⟨_, (u9, g0), rfl, ⟨by rw [hc], fun h0 => absurd h0 hcz, fun _ => hTX⟩, by rw [← ht] at hP; exact hP⟩, hS.F ht⟩) hS.2.2 dL_decided_17
  ·
    obtain ⟨hr9, hcz, hrel⟩ := hrel
    refine lv_i2l (v := r9.toInt64) hx hb dL_decided_7 rfl ?_
    refine xlast (j := 0) (q0 := 29) (t0 := 1) (ws' := xo cs a u9 N o (oL cs (vp_updL g0 0 r9.toInt64))) hx hb hK1 hP (xoD hI ho) hS rfl rfl (by decide) (by decide) rfl dL_decided_8 (fun H locs hP hS => ?_)
    refine lv_goto (tgt := 18) hx hb dL_decided_9 (by decide) ?_
    refine lv_iconst (v := nI 0) hx hb dL_decided_18 (by decide) ?_
    subst hQ
    refine W.widen (k := 2) (n := 12) (by decide) (by decide) ?_
    exact W.iret hx hb hr (fun t ht hW => ⟨⟨_, (u9, vp_updL g0 0 r9.toInt64), rfl, ⟨by rw [hcz], fun _ => ⟨hrel, (show r9.toInt64 = _ from by rw [hr9])⟩, fun h0 => absurd hcz h0⟩, by rw [← ht] at hP; exact hP⟩, hS.F ht⟩) hS.2.2 dL_decided_19
set_option maxHeartbeats 4000000 in
set_option maxRecDepth 100000 in
theorem c_L_reached (l : Launch) (hl0 : l.stackTraces = false) (D : va_G) (cs sa : Nat → Nat) (a : Nat → Nat) (M : Nat → Nat → Int32) (N : Nat → Int64) (o : Nat) (g0 : Nat → Int64) (sz : Nat) (hI : kI a 29) (ho : ∀ k, k < 29 → a k ≠ o) (n : Nat) (g : Int32) (y : Int32) (hn : M 0 0 = nI n) (hn24 : n ≤ 24) : Met l yL_reached wsL_reached ({ frames := 9, cells := 2, slots := 12, locals := 211 } : Room) (va_Pc [.ref (a 0), .int g, .int y, .ref o] (LBT D cs sa a o (xo cs a M N o (oL cs g0)) sz)) (va_Qi (fun r (u : (Nat → Nat → Int32) × (Nat → Int64)) => r = nI (if (isGr g) = true then (if (isIn n y) = true then 0 else 2) else 1) ∧ ((if (isGr g) = true then (if (isIn n y) = true then 0 else 2) else 1) = 0 → u.1 = M ∧ u.2 0 = (reachF M n g y.toNatClampNeg).toInt64) ∧ (¬ (if (isGr g) = true then (if (isIn n y) = true then 0 else 2) else 1) = 0 → TX M u.1)) (fun u t => va_P D vwCl (xo cs a u.1 N o (oL cs u.2)) t.heap) (kO a o sz)) 2 12 (kO a o sz) := by
  refine va_MetW (cc := cL_reached) (maxL := 5) (ret := (some .int)) (hh := [(0, 10, 13, 13), (0, 10, 17, 21)]) (by decide) rfl ?_
  intro p e s m args below meth c s₁ B hml hv
  obtain ⟨rfl, hsz, hP, hK, hT, hZ, hNc⟩ := hv
  have hx := B.exec
  have hb := B.bytes
  have hr := B.returns
  have hts := atoms_spec (ws := wsL_reached) B.pre
  have hown : s.vm.findClass RL = some m.cls := findClass_of_methodNamed B.named
  have hlocks := B.notSynchronized
  have hK1 := hK.1
  have htb := vx_table (x := yL_reached) B (hts _ List.mem_cons_self)
  subst hsz
  have hS : va_S (kO a o s.heap.size) s.heap s.heap [] := va_S.rf
  have hl := lv_entry ([.ref (a 0), .int g, .int y, .ref o]) (n := 5) (Nat.le_of_ble_eq_true rfl)
  rw [lg_entry_eq]
  generalize (lg_sl ([.ref (a 0), .int g, .int y, .ref o]) ++ List.replicate (5 - (lg_sl ([.ref (a 0), .int g, .int y, .ref o])).length) Slot.unset).toArray = ls at hl ⊢
  have hl : lv_has ls 5 [(0, .ref (a 0)), (1, .int g), (2, .int y), (3, .ref o)] := hl
  refine W_Q (fun Q hQ => ?_)
  refine lv_aload_n hx hb dL_reached_0 rfl (lv_at hl 3 rfl) ?_
  refine lv_iconst (v := nI 0) hx hb dL_reached_1 (by decide) ?_
  refine lv_aload_n hx hb dL_reached_2 rfl (lv_at hl 0 rfl) ?_
  refine lv_iload_n hx hb dL_reached_3 rfl (lv_at hl 1 rfl) ?_
  refine lv_iload_n hx hb dL_reached_4 rfl (lv_at hl 2 rfl) ?_
  refine xcallLi (vx_runV (As := [.int g, .int y]) (rest := [.int (nI 0), .ref o]) ⟨hx, hb, hml, hown, hts⟩ (c_X4_reached l hl0 D cs sa a M N _ hI n g y hn hn24) (cwV 2 hts gL_reached_X4_reached rfl rfl rfl (by decide +kernel) ⟨(Nat.le_of_ble_eq_true rfl), (Nat.le_of_ble_eq_true rfl)⟩) (xpreVL (xoP hP) hK hT hZ hS (kO_le hS.1) (ci := 4) 0 rfl rfl) rfl rfl hl.1 rfl (lv_room (Nat.le_of_ble_eq_true rfl)) dL_reached_5 ⟨(Nat.le_of_ble_eq_true rfl), (Nat.le_of_ble_eq_true rfl)⟩) hS (kO_le hS.1) hP ho (fun E ce q9 u9 H locs hXE hP hS hce hcv hcl => ?_) (fun r9 u9 H locs hrel hP hS => ?_)
  ·
    obtain ⟨hXE, hTX⟩ := hXE
    rcases hXE with ⟨rfl, hc⟩ | ⟨rfl, hc⟩
    ·
      refine vx_catch (E := "java/lang/IllegalArgumentException") (name := "java/lang/IllegalArgumentException") hown [] ⟨0, 10, 13, 13⟩ [⟨0, 10, 17, 21⟩] htb (fun z hz => nomatch hz) (by decide) (by decide) (hts (.classLink RL 13 "java/lang/IllegalArgumentException") (List.mem_of_getElem? (i := 1) rfl)) (va_Nw.use rfl hT.2.1) hce hcv hcl ?_
      refine lv_astore (lv' := [(4, .ref q9), (0, .ref (a 0)), (1, .int g), (2, .int y), (3, .ref o)]) hx hb dL_reached_13 hl (by decide) rfl (fun ls hl => ?_)
      refine lv_iconst (v := nI 1) hx hb dL_reached_15 (by decide) ?_
      subst hQ
      refine W.widen (k := 2) (n := 12) (by decide) (by decide) ?_
      have hcz : ¬ (if (isGr g) = true then (if (isIn n y) = true then 0 else 2) else 1) = 0 := by rw [hc]; decide
      exact W.iret hx hb hr (fun t ht hW => ⟨⟨_, (u9, g0), rfl, ⟨by rw [hc], fun h0 => absurd h0 hcz, fun _ => hTX⟩, by rw [← ht] at hP; exact hP⟩, hS.F ht⟩) hS.2.2 dL_reached_16
    ·
      refine vx_catch (E := "java/lang/IndexOutOfBoundsException") (name := "java/lang/IndexOutOfBoundsException") hown [⟨0, 10, 13, 13⟩] ⟨0, 10, 17, 21⟩ [] htb (by intro z hz; simp only [List.mem_cons, List.not_mem_nil, or_false] at hz; rcases hz with rfl; exact Or.inr ⟨by decide, "java/lang/IllegalArgumentException", hts (.classLink RL 13 "java/lang/IllegalArgumentException") (List.mem_of_getElem? (i := 1) rfl), hNc.2.2.2⟩) (by decide) (by decide) (hts (.classLink RL 21 "java/lang/IndexOutOfBoundsException") (List.mem_of_getElem? (i := 2) rfl)) (va_Nw.use rfl hT.2.2.1) hce hcv hcl ?_
      refine lv_astore (lv' := [(4, .ref q9), (0, .ref (a 0)), (1, .int g), (2, .int y), (3, .ref o)]) hx hb dL_reached_17 hl (by decide) rfl (fun ls hl => ?_)
      refine lv_iconst (v := nI 2) hx hb dL_reached_19 (by decide) ?_
      subst hQ
      refine W.widen (k := 2) (n := 12) (by decide) (by decide) ?_
      have hcz : ¬ (if (isGr g) = true then (if (isIn n y) = true then 0 else 2) else 1) = 0 := by rw [hc]; decide
      exact W.iret hx hb hr (fun t ht hW => ⟨⟨_, (u9, g0), rfl, ⟨by rw [hc], fun h0 => absurd h0 hcz, fun _ => hTX⟩, by rw [← ht] at hP; exact hP⟩, hS.F ht⟩) hS.2.2 dL_reached_20
  ·
    obtain ⟨hr9, hcz, hrel⟩ := hrel
    refine lv_i2l (v := r9.toInt64) hx hb dL_reached_8 rfl ?_
    refine xlast (j := 0) (q0 := 29) (t0 := 1) (ws' := xo cs a u9 N o (oL cs (vp_updL g0 0 r9.toInt64))) hx hb hK1 hP (xoD hI ho) hS rfl rfl (by decide) (by decide) rfl dL_reached_9 (fun H locs hP hS => ?_)
    refine lv_goto (tgt := 21) hx hb dL_reached_10 (by decide) ?_
    refine lv_iconst (v := nI 0) hx hb dL_reached_21 (by decide) ?_
    subst hQ
    refine W.widen (k := 2) (n := 12) (by decide) (by decide) ?_
    exact W.iret hx hb hr (fun t ht hW => ⟨⟨_, (u9, vp_updL g0 0 r9.toInt64), rfl, ⟨by rw [hcz], fun _ => ⟨hrel, (show r9.toInt64 = _ from by rw [hr9])⟩, fun h0 => absurd hcz h0⟩, by rw [← ht] at hP; exact hP⟩, hS.F ht⟩) hS.2.2 dL_reached_22
set_option maxHeartbeats 4000000 in
set_option maxRecDepth 100000 in
theorem c_L_areAlike (l : Launch) (hl0 : l.stackTraces = false) (D : va_G) (cs sa : Nat → Nat) (a : Nat → Nat) (M : Nat → Nat → Int32) (N : Nat → Int64) (o : Nat) (g0 : Nat → Int64) (sz : Nat) (hI : kI a 29) (ho : ∀ k, k < 29 → a k ≠ o) (n : Nat) (x : Int32) (y : Int32) (hn : M 0 0 = nI n) (hn24 : n ≤ 24) : Met l yL_areAlike wsL_areAlike ({ frames := 9, cells := 2, slots := 12, locals := 211 } : Room) (va_Pc [.ref (a 0), .int x, .int y, .ref o] (LBT D cs sa a o (xo cs a M N o (oL cs g0)) sz)) (va_Qi (fun r (u : (Nat → Nat → Int32) × (Nat → Int64)) => r = nI (if (isIn n x) = true then (if (isIn n y) = true then 0 else 1) else 1) ∧ ((if (isIn n x) = true then (if (isIn n y) = true then 0 else 1) else 1) = 0 → FindF M n u.1 ∧ u.2 0 = (if (decide (u.1 15 x.toNatClampNeg = u.1 15 y.toNatClampNeg)) = true then (1 : Int64) else 0)) ∧ (¬ (if (isIn n x) = true then (if (isIn n y) = true then 0 else 1) else 1) = 0 → TX M u.1)) (fun u t => va_P D vwCl (xo cs a u.1 N o (oL cs u.2)) t.heap) (kO a o sz)) 2 12 (kO a o sz) := by
  refine va_MetW (cc := cL_areAlike) (maxL := 5) (ret := (some .int)) (hh := [(0, 17, 20, 21)]) (by decide) rfl ?_
  intro p e s m args below meth c s₁ B hml hv
  obtain ⟨rfl, hsz, hP, hK, hT, hZ, hNc⟩ := hv
  have hx := B.exec
  have hb := B.bytes
  have hr := B.returns
  have hts := atoms_spec (ws := wsL_areAlike) B.pre
  have hown : s.vm.findClass RL = some m.cls := findClass_of_methodNamed B.named
  have hlocks := B.notSynchronized
  have hK1 := hK.1
  have htb := vx_table (x := yL_areAlike) B (hts _ List.mem_cons_self)
  subst hsz
  have hS : va_S (kO a o s.heap.size) s.heap s.heap [] := va_S.rf
  have hl := lv_entry ([.ref (a 0), .int x, .int y, .ref o]) (n := 5) (Nat.le_of_ble_eq_true rfl)
  rw [lg_entry_eq]
  generalize (lg_sl ([.ref (a 0), .int x, .int y, .ref o]) ++ List.replicate (5 - (lg_sl ([.ref (a 0), .int x, .int y, .ref o])).length) Slot.unset).toArray = ls at hl ⊢
  have hl : lv_has ls 5 [(0, .ref (a 0)), (1, .int x), (2, .int y), (3, .ref o)] := hl
  refine W_Q (fun Q hQ => ?_)
  refine lv_aload_n hx hb dL_areAlike_0 rfl (lv_at hl 3 rfl) ?_
  refine lv_iconst (v := nI 0) hx hb dL_areAlike_1 (by decide) ?_
  refine lv_aload_n hx hb dL_areAlike_2 rfl (lv_at hl 0 rfl) ?_
  refine lv_iload_n hx hb dL_areAlike_3 rfl (lv_at hl 1 rfl) ?_
  refine lv_iload_n hx hb dL_areAlike_4 rfl (lv_at hl 2 rfl) ?_
  refine xcallLi (vx_runV (As := [.int x, .int y]) (rest := [.int (nI 0), .ref o]) ⟨hx, hb, hml, hown, hts⟩ (c_X4_areAlike l hl0 D cs sa a M N _ hI n x y hn hn24) (cwV 2 hts gL_areAlike_X4_areAlike rfl rfl rfl (by decide +kernel) ⟨(Nat.le_of_ble_eq_true rfl), (Nat.le_of_ble_eq_true rfl)⟩) (xpreVL (xoP hP) hK hT hZ hS (kO_le hS.1) (ci := 4) 0 rfl rfl) rfl rfl hl.1 rfl (lv_room (Nat.le_of_ble_eq_true rfl)) dL_areAlike_5 ⟨(Nat.le_of_ble_eq_true rfl), (Nat.le_of_ble_eq_true rfl)⟩) hS (kO_le hS.1) hP ho (fun E ce q9 u9 H locs hXE hP hS hce hcv hcl => ?_) (fun r9 u9 H locs hrel hP hS => ?_)
  ·
    obtain ⟨hXE, hTX⟩ := hXE
    rcases hXE with ⟨rfl, hc⟩
    ·
      refine vx_catch (E := "java/lang/IndexOutOfBoundsException") (name := "java/lang/IndexOutOfBoundsException") hown [] ⟨0, 17, 20, 21⟩ [] htb (fun z hz => nomatch hz) (by decide) (by decide) (hts (.classLink RL 21 "java/lang/IndexOutOfBoundsException") (List.mem_of_getElem? (i := 1) rfl)) (va_Nw.use rfl hT.2.2.1) hce hcv hcl ?_
      refine lv_astore (lv' := [(4, .ref q9), (0, .ref (a 0)), (1, .int x), (2, .int y), (3, .ref o)]) hx hb dL_areAlike_20 hl (by decide) rfl (fun ls hl => ?_)
      refine lv_iconst (v := nI 1) hx hb dL_areAlike_22 (by decide) ?_
      subst hQ
      refine W.widen (k := 2) (n := 12) (by decide) (by decide) ?_
      have hcz : ¬ (if (isIn n x) = true then (if (isIn n y) = true then 0 else 1) else 1) = 0 := by rw [hc]; decide
      exact W.iret hx hb hr (fun t ht hW => ⟨⟨_, (u9, g0), rfl, ⟨by rw [hc], fun h0 => absurd h0 hcz, fun _ => hTX⟩, by rw [← ht] at hP; exact hP⟩, hS.F ht⟩) hS.2.2 dL_areAlike_23
  ·
    obtain ⟨hr9, hcz, hrel⟩ := hrel
    refine lv_if_eq (tgt := 15) hx hb dL_areAlike_8 (by decide) (fun c9 => ?_) (fun c9 => ?_)
    ·
      rw [hr9] at c9
      have hb9 : (decide (u9 15 x.toNatClampNeg = u9 15 y.toNatClampNeg)) = false := bI_0 c9
      refine lv_lconst (v := 0) hx hb dL_areAlike_15 (by decide) ?_
      refine xlast (j := 0) (q0 := 29) (t0 := 1) (ws' := xo cs a u9 N o (oL cs (vp_updL g0 0 (0 : Int64)))) hx hb hK1 hP (xoD hI ho) hS rfl rfl (by decide) (by decide) rfl dL_areAlike_16 (fun H locs hP hS => ?_)
      refine lv_goto (tgt := 24) hx hb dL_areAlike_17 (by decide) ?_
      refine lv_iconst (v := nI 0) hx hb dL_areAlike_24 (by decide) ?_
      subst hQ
      refine W.widen (k := 2) (n := 12) (by decide) (by decide) ?_
      exact W.iret hx hb hr (fun t ht hW => ⟨⟨_, (u9, vp_updL g0 0 (0 : Int64)), rfl, ⟨by rw [hcz], fun _ => ⟨hrel, (show (0 : Int64) = _ from by rw [hb9]; rfl)⟩, fun h0 => absurd hcz h0⟩, by rw [← ht] at hP; exact hP⟩, hS.F ht⟩) hS.2.2 dL_areAlike_25
    ·
      rw [hr9] at c9
      have hb9 : (decide (u9 15 x.toNatClampNeg = u9 15 y.toNatClampNeg)) = true := bI_n0 c9
      refine lv_lconst (v := 1) hx hb dL_areAlike_11 (by decide) ?_
      refine lv_goto (tgt := 16) hx hb dL_areAlike_12 (by decide) ?_
      refine xlast (j := 0) (q0 := 29) (t0 := 1) (ws' := xo cs a u9 N o (oL cs (vp_updL g0 0 (1 : Int64)))) hx hb hK1 hP (xoD hI ho) hS rfl rfl (by decide) (by decide) rfl dL_areAlike_16 (fun H locs hP hS => ?_)
      refine lv_goto (tgt := 24) hx hb dL_areAlike_17 (by decide) ?_
      refine lv_iconst (v := nI 0) hx hb dL_areAlike_24 (by decide) ?_
      subst hQ
      refine W.widen (k := 2) (n := 12) (by decide) (by decide) ?_
      exact W.iret hx hb hr (fun t ht hW => ⟨⟨_, (u9, vp_updL g0 0 (1 : Int64)), rfl, ⟨by rw [hcz], fun _ => ⟨hrel, (show (1 : Int64) = _ from by rw [hb9]; rfl)⟩, fun h0 => absurd hcz h0⟩, by rw [← ht] at hP; exact hP⟩, hS.F ht⟩) hS.2.2 dL_areAlike_25
set_option maxHeartbeats 4000000 in
set_option maxRecDepth 100000 in
theorem c_L_announce (l : Launch) (hl0 : l.stackTraces = false) (D : va_G) (cs sa : Nat → Nat) (a : Nat → Nat) (M : Nat → Nat → Int32) (N : Nat → Int64) (o : Nat) (g0 : Nat → Int64) (sz : Nat) (hI : kI a 29) (ho : ∀ k, k < 29 → a k ≠ o) (n : Nat) (nf : Nat) (kd : Nat → Nat) (p1 : Nat → Nat) (p2 : Nat → Nat) (ns : Nat → Nat) (sb : Nat → Nat) (act : Nat) (x : Int32) (hn : M 0 0 = nI n) (hn24 : n ≤ 24) (hfc : M 0 2 = nI nf) (hf40 : nf ≤ 40) (hwf : WFX M N nf kd p1 p2 ns sb) (hact : M 0 1 = nI act) (ha24 : act < 24) : Met l yL_announce wsL_announce ({ frames := 16, cells := 3, slots := 18, locals := 381 } : Room) (va_Pc [.ref (a 0), .int x, .ref o] (LBT D cs sa a o (xo cs a M N o (oL cs g0)) sz)) (va_Qi (fun r (u : (Nat → Nat → Int32) × (Nat → Int64)) => r = nI (if (isIn nf x) = true then (if (!decide (n = 0) && bt (sem M n kd p1 p2 sb (sg n - nI 1) x.toNatClampNeg) act) = true then 0 else 2) else 1) ∧ ((if (isIn nf x) = true then (if (!decide (n = 0) && bt (sem M n kd p1 p2 sb (sg n - nI 1) x.toNatClampNeg) act) = true then 0 else 2) else 1) = 0 → (∃ v, (∀ i x, ¬ (12 ≤ i ∧ i < 15) → v i x = M i x) ∧ KeepF v n act (sem M n kd p1 p2 sb (sg n - nI 1) x.toNatClampNeg) u.1) ∧ u.2 0 = ((nI n - bc (sem M n kd p1 p2 sb (sg n - nI 1) x.toNatClampNeg))).toInt64) ∧ (¬ (if (isIn nf x) = true then (if (!decide (n = 0) && bt (sem M n kd p1 p2 sb (sg n - nI 1) x.toNatClampNeg) act) = true then 0 else 2) else 1) = 0 → TX M u.1)) (fun u t => va_P D vwCl (xo cs a u.1 N o (oL cs u.2)) t.heap) (kO a o sz)) 3 18 (kO a o sz) := by
  refine va_MetW (cc := cL_announce) (maxL := 4) (ret := (some .int)) (hh := [(0, 9, 12, 21), (0, 9, 15, 15)]) (by decide) rfl ?_
  intro p e s m args below meth c s₁ B hml hv
  obtain ⟨rfl, hsz, hP, hK, hT, hZ, hNc⟩ := hv
  have hx := B.exec
  have hb := B.bytes
  have hr := B.returns
  have hts := atoms_spec (ws := wsL_announce) B.pre
  have hown : s.vm.findClass RL = some m.cls := findClass_of_methodNamed B.named
  have hlocks := B.notSynchronized
  have hK1 := hK.1
  have htb := vx_table (x := yL_announce) B (hts _ List.mem_cons_self)
  subst hsz
  have hS : va_S (kO a o s.heap.size) s.heap s.heap [] := va_S.rf
  have hl := lv_entry ([.ref (a 0), .int x, .ref o]) (n := 4) (Nat.le_of_ble_eq_true rfl)
  rw [lg_entry_eq]
  generalize (lg_sl ([.ref (a 0), .int x, .ref o]) ++ List.replicate (4 - (lg_sl ([.ref (a 0), .int x, .ref o])).length) Slot.unset).toArray = ls at hl ⊢
  have hl : lv_has ls 4 [(0, .ref (a 0)), (1, .int x), (2, .ref o)] := hl
  refine W_Q (fun Q hQ => ?_)
  refine lv_aload_n hx hb dL_announce_0 rfl (lv_at hl 2 rfl) ?_
  refine lv_iconst (v := nI 0) hx hb dL_announce_1 (by decide) ?_
  refine lv_aload_n hx hb dL_announce_2 rfl (lv_at hl 0 rfl) ?_
  refine lv_iload_n hx hb dL_announce_3 rfl (lv_at hl 1 rfl) ?_
  refine xcallLi (vx_runV (As := [.int x]) (rest := [.int (nI 0), .ref o]) ⟨hx, hb, hml, hown, hts⟩ (c_X4_announce l hl0 D cs sa a M N _ hI n nf kd p1 p2 ns sb act x hn hn24 hfc hf40 hwf hact ha24) (cwV 1 hts gL_announce_X4_announce rfl rfl rfl (by decide +kernel) ⟨(Nat.le_of_ble_eq_true rfl), (Nat.le_of_ble_eq_true rfl)⟩) (xpreVL (xoP hP) hK hT hZ hS (kO_le hS.1) (ci := 4) 0 rfl rfl) rfl rfl hl.1 rfl (lv_room (Nat.le_of_ble_eq_true rfl)) dL_announce_4 ⟨(Nat.le_of_ble_eq_true rfl), (Nat.le_of_ble_eq_true rfl)⟩) hS (kO_le hS.1) hP ho (fun E ce q9 u9 H locs hXE hP hS hce hcv hcl => ?_) (fun r9 u9 H locs hrel hP hS => ?_)
  ·
    obtain ⟨hXE, hTX⟩ := hXE
    rcases hXE with ⟨rfl, hc⟩ | ⟨rfl, hc⟩
    ·
      refine vx_catch (E := "java/lang/IndexOutOfBoundsException") (name := "java/lang/IndexOutOfBoundsException") hown [] ⟨0, 9, 12, 21⟩ [⟨0, 9, 15, 15⟩] htb (fun z hz => nomatch hz) (by decide) (by decide) (hts (.classLink RL 21 "java/lang/IndexOutOfBoundsException") (List.mem_of_getElem? (i := 1) rfl)) (va_Nw.use rfl hT.2.2.1) hce hcv hcl ?_
      refine lv_astore_n (lv' := [(3, .ref q9), (0, .ref (a 0)), (1, .int x), (2, .ref o)]) hx hb dL_announce_12 rfl hl (by decide) rfl (fun ls hl => ?_)
      refine lv_iconst (v := nI 1) hx hb dL_announce_13 (by decide) ?_
      subst hQ
      refine W.widen (k := 3) (n := 18) (by decide) (by decide) ?_
      have hcz : ¬ (if (isIn nf x) = true then (if (!decide (n = 0) && bt (sem M n kd p1 p2 sb (sg n - nI 1) x.toNatClampNeg) act) = true then 0 else 2) else 1) = 0 := by rw [hc]; decide
      exact W.iret hx hb hr (fun t ht hW => ⟨⟨_, (u9, g0), rfl, ⟨by rw [hc], fun h0 => absurd h0 hcz, fun _ => hTX⟩, by rw [← ht] at hP; exact hP⟩, hS.F ht⟩) hS.2.2 dL_announce_14
    ·
      refine vx_catch (E := "java/lang/IllegalStateException") (name := "java/lang/IllegalStateException") hown [⟨0, 9, 12, 21⟩] ⟨0, 9, 15, 15⟩ [] htb (by intro z hz; simp only [List.mem_cons, List.not_mem_nil, or_false] at hz; rcases hz with rfl; exact Or.inr ⟨by decide, "java/lang/IndexOutOfBoundsException", hts (.classLink RL 21 "java/lang/IndexOutOfBoundsException") (List.mem_of_getElem? (i := 1) rfl), hNc.2.1⟩) (by decide) (by decide) (hts (.classLink RL 15 "java/lang/IllegalStateException") (List.mem_of_getElem? (i := 2) rfl)) (va_Nw.use rfl hT.1) hce hcv hcl ?_
      refine lv_astore_n (lv' := [(3, .ref q9), (0, .ref (a 0)), (1, .int x), (2, .ref o)]) hx hb dL_announce_15 rfl hl (by decide) rfl (fun ls hl => ?_)
      refine lv_iconst (v := nI 2) hx hb dL_announce_16 (by decide) ?_
      subst hQ
      refine W.widen (k := 3) (n := 18) (by decide) (by decide) ?_
      have hcz : ¬ (if (isIn nf x) = true then (if (!decide (n = 0) && bt (sem M n kd p1 p2 sb (sg n - nI 1) x.toNatClampNeg) act) = true then 0 else 2) else 1) = 0 := by rw [hc]; decide
      exact W.iret hx hb hr (fun t ht hW => ⟨⟨_, (u9, g0), rfl, ⟨by rw [hc], fun h0 => absurd h0 hcz, fun _ => hTX⟩, by rw [← ht] at hP; exact hP⟩, hS.F ht⟩) hS.2.2 dL_announce_17
  ·
    obtain ⟨hr9, hcz, hrel⟩ := hrel
    refine lv_i2l (v := r9.toInt64) hx hb dL_announce_7 rfl ?_
    refine xlast (j := 0) (q0 := 29) (t0 := 1) (ws' := xo cs a u9 N o (oL cs (vp_updL g0 0 r9.toInt64))) hx hb hK1 hP (xoD hI ho) hS rfl rfl (by decide) (by decide) rfl dL_announce_8 (fun H locs hP hS => ?_)
    refine lv_goto (tgt := 18) hx hb dL_announce_9 (by decide) ?_
    refine lv_iconst (v := nI 0) hx hb dL_announce_18 (by decide) ?_
    subst hQ
    refine W.widen (k := 3) (n := 18) (by decide) (by decide) ?_
    exact W.iret hx hb hr (fun t ht hW => ⟨⟨_, (u9, vp_updL g0 0 r9.toInt64), rfl, ⟨by rw [hcz], fun _ => ⟨hrel, (show r9.toInt64 = _ from by rw [hr9])⟩, fun h0 => absurd hcz h0⟩, by rw [← ht] at hP; exact hP⟩, hS.F ht⟩) hS.2.2 dL_announce_19
set_option maxHeartbeats 4000000 in
set_option maxRecDepth 100000 in
theorem c_L_tell (l : Launch) (hl0 : l.stackTraces = false) (D : va_G) (cs sa : Nat → Nat) (a : Nat → Nat) (M : Nat → Nat → Int32) (N : Nat → Int64) (o : Nat) (g0 : Nat → Int64) (sz : Nat) (hI : kI a 29) (ho : ∀ k, k < 29 → a k ≠ o) (n : Nat) (nf : Nat) (kd : Nat → Nat) (p1 : Nat → Nat) (p2 : Nat → Nat) (ns : Nat → Nat) (sb : Nat → Nat) (g : Int32) (y : Int32) (hn : M 0 0 = nI n) (hn24 : n ≤ 24) (hfc : M 0 2 = nI nf) (hf40 : nf ≤ 40) (hwf : WFX M N nf kd p1 p2 ns sb) : Met l yL_tell wsL_tell ({ frames := 16, cells := 2, slots := 12, locals := 381 } : Room) (va_Pc [.ref (a 0), .int g, .int y, .ref o] (LBT D cs sa a o (xo cs a M N o (oL cs g0)) sz)) (va_Qi (fun r (u : (Nat → Nat → Int32) × (Nat → Int64)) => r = nI (if (isIn nf y) = true then (if (isGr g) = true then 0 else 2) else 1) ∧ ((if (isIn nf y) = true then (if (isGr g) = true then 0 else 2) else 1) = 0 → (∃ v, (∀ i x, ¬ (12 ≤ i ∧ i < 15) → v i x = M i x) ∧ u.1 = cutC v g (sem M n kd p1 p2 sb (sg n - nI 1) y.toNatClampNeg) n 4 0) ∧ u.2 0 = (cutN M g (sem M n kd p1 p2 sb (sg n - nI 1) y.toNatClampNeg) n 4).toInt64) ∧ (¬ (if (isIn nf y) = true then (if (isGr g) = true then 0 else 2) else 1) = 0 → TX M u.1)) (fun u t => va_P D vwCl (xo cs a u.1 N o (oL cs u.2)) t.heap) (kO a o sz)) 2 12 (kO a o sz) := by
  refine va_MetW (cc := cL_tell) (maxL := 5) (ret := (some .int)) (hh := [(0, 10, 13, 21), (0, 10, 17, 13)]) (by decide) rfl ?_
  intro p e s m args below meth c s₁ B hml hv
  obtain ⟨rfl, hsz, hP, hK, hT, hZ, hNc⟩ := hv
  have hx := B.exec
  have hb := B.bytes
  have hr := B.returns
  have hts := atoms_spec (ws := wsL_tell) B.pre
  have hown : s.vm.findClass RL = some m.cls := findClass_of_methodNamed B.named
  have hlocks := B.notSynchronized
  have hK1 := hK.1
  have htb := vx_table (x := yL_tell) B (hts _ List.mem_cons_self)
  subst hsz
  have hS : va_S (kO a o s.heap.size) s.heap s.heap [] := va_S.rf
  have hl := lv_entry ([.ref (a 0), .int g, .int y, .ref o]) (n := 5) (Nat.le_of_ble_eq_true rfl)
  rw [lg_entry_eq]
  generalize (lg_sl ([.ref (a 0), .int g, .int y, .ref o]) ++ List.replicate (5 - (lg_sl ([.ref (a 0), .int g, .int y, .ref o])).length) Slot.unset).toArray = ls at hl ⊢
  have hl : lv_has ls 5 [(0, .ref (a 0)), (1, .int g), (2, .int y), (3, .ref o)] := hl
  refine W_Q (fun Q hQ => ?_)
  refine lv_aload_n hx hb dL_tell_0 rfl (lv_at hl 3 rfl) ?_
  refine lv_iconst (v := nI 0) hx hb dL_tell_1 (by decide) ?_
  refine lv_aload_n hx hb dL_tell_2 rfl (lv_at hl 0 rfl) ?_
  refine lv_iload_n hx hb dL_tell_3 rfl (lv_at hl 1 rfl) ?_
  refine lv_iload_n hx hb dL_tell_4 rfl (lv_at hl 2 rfl) ?_
  refine xcallLi (vx_runV (As := [.int g, .int y]) (rest := [.int (nI 0), .ref o]) ⟨hx, hb, hml, hown, hts⟩ (c_X4_tell l hl0 D cs sa a M N _ hI n nf kd p1 p2 ns sb g y hn hn24 hfc hf40 hwf) (cwV 2 hts gL_tell_X4_tell rfl rfl rfl (by decide +kernel) ⟨(Nat.le_of_ble_eq_true rfl), (Nat.le_of_ble_eq_true rfl)⟩) (xpreVL (xoP hP) hK hT hZ hS (kO_le hS.1) (ci := 4) 0 rfl rfl) rfl rfl hl.1 rfl (lv_room (Nat.le_of_ble_eq_true rfl)) dL_tell_5 ⟨(Nat.le_of_ble_eq_true rfl), (Nat.le_of_ble_eq_true rfl)⟩) hS (kO_le hS.1) hP ho (fun E ce q9 u9 H locs hXE hP hS hce hcv hcl => ?_) (fun r9 u9 H locs hrel hP hS => ?_)
  ·
    obtain ⟨hXE, hTX⟩ := hXE
    rcases hXE with ⟨rfl, hc⟩ | ⟨rfl, hc⟩
    ·
      refine vx_catch (E := "java/lang/IndexOutOfBoundsException") (name := "java/lang/IndexOutOfBoundsException") hown [] ⟨0, 10, 13, 21⟩ [⟨0, 10, 17, 13⟩] htb (fun z hz => nomatch hz) (by decide) (by decide) (hts (.classLink RL 21 "java/lang/IndexOutOfBoundsException") (List.mem_of_getElem? (i := 1) rfl)) (va_Nw.use rfl hT.2.2.1) hce hcv hcl ?_
      refine lv_astore (lv' := [(4, .ref q9), (0, .ref (a 0)), (1, .int g), (2, .int y), (3, .ref o)]) hx hb dL_tell_13 hl (by decide) rfl (fun ls hl => ?_)
      refine lv_iconst (v := nI 1) hx hb dL_tell_15 (by decide) ?_
      subst hQ
      refine W.widen (k := 2) (n := 12) (by decide) (by decide) ?_
      have hcz : ¬ (if (isIn nf y) = true then (if (isGr g) = true then 0 else 2) else 1) = 0 := by rw [hc]; decide
      exact W.iret hx hb hr (fun t ht hW => ⟨⟨_, (u9, g0), rfl, ⟨by rw [hc], fun h0 => absurd h0 hcz, fun _ => hTX⟩, by rw [← ht] at hP; exact hP⟩, hS.F ht⟩) hS.2.2 dL_tell_16
    ·
      refine vx_catch (E := "java/lang/IllegalArgumentException") (name := "java/lang/IllegalArgumentException") hown [⟨0, 10, 13, 21⟩] ⟨0, 10, 17, 13⟩ [] htb (by intro z hz; simp only [List.mem_cons, List.not_mem_nil, or_false] at hz; rcases hz with rfl; exact Or.inr ⟨by decide, "java/lang/IndexOutOfBoundsException", hts (.classLink RL 21 "java/lang/IndexOutOfBoundsException") (List.mem_of_getElem? (i := 1) rfl), hNc.2.2.1⟩) (by decide) (by decide) (hts (.classLink RL 13 "java/lang/IllegalArgumentException") (List.mem_of_getElem? (i := 2) rfl)) (va_Nw.use rfl hT.2.1) hce hcv hcl ?_
      refine lv_astore (lv' := [(4, .ref q9), (0, .ref (a 0)), (1, .int g), (2, .int y), (3, .ref o)]) hx hb dL_tell_17 hl (by decide) rfl (fun ls hl => ?_)
      refine lv_iconst (v := nI 2) hx hb dL_tell_19 (by decide) ?_
      subst hQ
      refine W.widen (k := 2) (n := 12) (by decide) (by decide) ?_
      have hcz : ¬ (if (isIn nf y) = true then (if (isGr g) = true then 0 else 2) else 1) = 0 := by rw [hc]; decide
      exact W.iret hx hb hr (fun t ht hW => ⟨⟨_, (u9, g0), rfl, ⟨by rw [hc], fun h0 => absurd h0 hcz, fun _ => hTX⟩, by rw [← ht] at hP; exact hP⟩, hS.F ht⟩) hS.2.2 dL_tell_20
  ·
    obtain ⟨hr9, hcz, hrel⟩ := hrel
    refine lv_i2l (v := r9.toInt64) hx hb dL_tell_8 rfl ?_
    refine xlast (j := 0) (q0 := 29) (t0 := 1) (ws' := xo cs a u9 N o (oL cs (vp_updL g0 0 r9.toInt64))) hx hb hK1 hP (xoD hI ho) hS rfl rfl (by decide) (by decide) rfl dL_tell_9 (fun H locs hP hS => ?_)
    refine lv_goto (tgt := 21) hx hb dL_tell_10 (by decide) ?_
    refine lv_iconst (v := nI 0) hx hb dL_tell_21 (by decide) ?_
    subst hQ
    refine W.widen (k := 2) (n := 12) (by decide) (by decide) ?_
    exact W.iret hx hb hr (fun t ht hW => ⟨⟨_, (u9, vp_updL g0 0 r9.toInt64), rfl, ⟨by rw [hcz], fun _ => ⟨hrel, (show r9.toInt64 = _ from by rw [hr9])⟩, fun h0 => absurd hcz h0⟩, by rw [← ht] at hP; exact hP⟩, hS.F ht⟩) hS.2.2 dL_tell_22
set_option maxHeartbeats 4000000 in
set_option maxRecDepth 100000 in
theorem c_L_whisper (l : Launch) (hl0 : l.stackTraces = false) (D : va_G) (cs sa : Nat → Nat) (a : Nat → Nat) (M : Nat → Nat → Int32) (N : Nat → Int64) (o : Nat) (g0 : Nat → Int64) (sz : Nat) (hI : kI a 29) (ho : ∀ k, k < 29 → a k ≠ o) (n : Nat) (nf : Nat) (kd : Nat → Nat) (p1 : Nat → Nat) (p2 : Nat → Nat) (ns : Nat → Nat) (sb : Nat → Nat) (act : Nat) (g : Int32) (y : Int32) (hn : M 0 0 = nI n) (hn24 : n ≤ 24) (hfc : M 0 2 = nI nf) (hf40 : nf ≤ 40) (hwf : WFX M N nf kd p1 p2 ns sb) (hact : M 0 1 = nI act) (ha24 : act < 24) : Met l yL_whisper wsL_whisper ({ frames := 16, cells := 5, slots := 30, locals := 381 } : Room) (va_Pc [.ref (a 0), .int g, .int y, .ref o] (LBT D cs sa a o (xo cs a M N o (oL cs g0)) sz)) (va_Qi (fun r (u : (Nat → Nat → Int32) × (Nat → Int64)) => r = nI (if (isIn nf y) = true then (if (isGr g) = true then (if (!decide (n = 0) && bt (sem M n kd p1 p2 sb (sg n - nI 1) y.toNatClampNeg) act) = true then (if (decide (n + fb_ct (bt (sem M n kd p1 p2 sb (sg n - nI 1) y.toNatClampNeg)) 32 ≤ 24)) = true then 0 else 3) else 3) else 2) else 1) ∧ ((if (isIn nf y) = true then (if (isGr g) = true then (if (!decide (n = 0) && bt (sem M n kd p1 p2 sb (sg n - nI 1) y.toNatClampNeg) act) = true then (if (decide (n + fb_ct (bt (sem M n kd p1 p2 sb (sg n - nI 1) y.toNatClampNeg)) 32 ≤ 24)) = true then 0 else 3) else 3) else 2) else 1) = 0 → (∃ v, (∀ i x, ¬ (12 ≤ i ∧ i < 15) → v i x = M i x) ∧ CopyF v n act g (sem M n kd p1 p2 sb (sg n - nI 1) y.toNatClampNeg) u.1) ∧ u.2 0 = (nI (n + rk (sem M n kd p1 p2 sb (sg n - nI 1) y.toNatClampNeg) n)).toInt64) ∧ (¬ (if (isIn nf y) = true then (if (isGr g) = true then (if (!decide (n = 0) && bt (sem M n kd p1 p2 sb (sg n - nI 1) y.toNatClampNeg) act) = true then (if (decide (n + fb_ct (bt (sem M n kd p1 p2 sb (sg n - nI 1) y.toNatClampNeg)) 32 ≤ 24)) = true then 0 else 3) else 3) else 2) else 1) = 0 → TX M u.1)) (fun u t => va_P D vwCl (xo cs a u.1 N o (oL cs u.2)) t.heap) (kO a o sz)) 5 30 (kO a o sz) := by
  refine va_MetW (cc := cL_whisper) (maxL := 5) (ret := (some .int)) (hh := [(0, 10, 13, 21), (0, 10, 17, 13), (0, 10, 21, 15)]) (by decide) rfl ?_
  intro p e s m args below meth c s₁ B hml hv
  obtain ⟨rfl, hsz, hP, hK, hT, hZ, hNc⟩ := hv
  have hx := B.exec
  have hb := B.bytes
  have hr := B.returns
  have hts := atoms_spec (ws := wsL_whisper) B.pre
  have hown : s.vm.findClass RL = some m.cls := findClass_of_methodNamed B.named
  have hlocks := B.notSynchronized
  have hK1 := hK.1
  have htb := vx_table (x := yL_whisper) B (hts _ List.mem_cons_self)
  subst hsz
  have hS : va_S (kO a o s.heap.size) s.heap s.heap [] := va_S.rf
  have hl := lv_entry ([.ref (a 0), .int g, .int y, .ref o]) (n := 5) (Nat.le_of_ble_eq_true rfl)
  rw [lg_entry_eq]
  generalize (lg_sl ([.ref (a 0), .int g, .int y, .ref o]) ++ List.replicate (5 - (lg_sl ([.ref (a 0), .int g, .int y, .ref o])).length) Slot.unset).toArray = ls at hl ⊢
  have hl : lv_has ls 5 [(0, .ref (a 0)), (1, .int g), (2, .int y), (3, .ref o)] := hl
  refine W_Q (fun Q hQ => ?_)
  refine lv_aload_n hx hb dL_whisper_0 rfl (lv_at hl 3 rfl) ?_
  refine lv_iconst (v := nI 0) hx hb dL_whisper_1 (by decide) ?_
  refine lv_aload_n hx hb dL_whisper_2 rfl (lv_at hl 0 rfl) ?_
  refine lv_iload_n hx hb dL_whisper_3 rfl (lv_at hl 1 rfl) ?_
  refine lv_iload_n hx hb dL_whisper_4 rfl (lv_at hl 2 rfl) ?_
  refine xcallLi (vx_runV (As := [.int g, .int y]) (rest := [.int (nI 0), .ref o]) ⟨hx, hb, hml, hown, hts⟩ (c_X4_whisper l hl0 D cs sa a M N _ hI n nf kd p1 p2 ns sb act g y hn hn24 hfc hf40 hwf hact ha24) (cwV 2 hts gL_whisper_X4_whisper rfl rfl rfl (by decide +kernel) ⟨(Nat.le_of_ble_eq_true rfl), (Nat.le_of_ble_eq_true rfl)⟩) (xpreVL (xoP hP) hK hT hZ hS (kO_le hS.1) (ci := 4) 0 rfl rfl) rfl rfl hl.1 rfl (lv_room (Nat.le_of_ble_eq_true rfl)) dL_whisper_5 ⟨(Nat.le_of_ble_eq_true rfl), (Nat.le_of_ble_eq_true rfl)⟩) hS (kO_le hS.1) hP ho (fun E ce q9 u9 H locs hXE hP hS hce hcv hcl => ?_) (fun r9 u9 H locs hrel hP hS => ?_)
  ·
    obtain ⟨hXE, hTX⟩ := hXE
    rcases hXE with ⟨rfl, hc⟩ | ⟨rfl, hc⟩ | ⟨rfl, hc⟩
    ·
      refine vx_catch (E := "java/lang/IndexOutOfBoundsException") (name := "java/lang/IndexOutOfBoundsException") hown [] ⟨0, 10, 13, 21⟩ [⟨0, 10, 17, 13⟩, ⟨0, 10, 21, 15⟩] htb (fun z hz => nomatch hz) (by decide) (by decide) (hts (.classLink RL 21 "java/lang/IndexOutOfBoundsException") (List.mem_of_getElem? (i := 1) rfl)) (va_Nw.use rfl hT.2.2.1) hce hcv hcl ?_
      refine lv_astore (lv' := [(4, .ref q9), (0, .ref (a 0)), (1, .int g), (2, .int y), (3, .ref o)]) hx hb dL_whisper_13 hl (by decide) rfl (fun ls hl => ?_)
      refine lv_iconst (v := nI 1) hx hb dL_whisper_15 (by decide) ?_
      subst hQ
      refine W.widen (k := 5) (n := 30) (by decide) (by decide) ?_
      have hcz : ¬ (if (isIn nf y) = true then (if (isGr g) = true then (if (!decide (n = 0) && bt (sem M n kd p1 p2 sb (sg n - nI 1) y.toNatClampNeg) act) = true then (if (decide (n + fb_ct (bt (sem M n kd p1 p2 sb (sg n - nI 1) y.toNatClampNeg)) 32 ≤ 24)) = true then 0 else 3) else 3) else 2) else 1) = 0 := by rw [hc]; decide
      exact W.iret hx hb hr (fun t ht hW => ⟨⟨_, (u9, g0), rfl, ⟨by rw [hc], fun h0 => absurd h0 hcz, fun _ => hTX⟩, by rw [← ht] at hP; exact hP⟩, hS.F ht⟩) hS.2.2 dL_whisper_16
    ·
      refine vx_catch (E := "java/lang/IllegalArgumentException") (name := "java/lang/IllegalArgumentException") hown [⟨0, 10, 13, 21⟩] ⟨0, 10, 17, 13⟩ [⟨0, 10, 21, 15⟩] htb (by intro z hz; simp only [List.mem_cons, List.not_mem_nil, or_false] at hz; rcases hz with rfl; exact Or.inr ⟨by decide, "java/lang/IndexOutOfBoundsException", hts (.classLink RL 21 "java/lang/IndexOutOfBoundsException") (List.mem_of_getElem? (i := 1) rfl), hNc.2.2.1⟩) (by decide) (by decide) (hts (.classLink RL 13 "java/lang/IllegalArgumentException") (List.mem_of_getElem? (i := 2) rfl)) (va_Nw.use rfl hT.2.1) hce hcv hcl ?_
      refine lv_astore (lv' := [(4, .ref q9), (0, .ref (a 0)), (1, .int g), (2, .int y), (3, .ref o)]) hx hb dL_whisper_17 hl (by decide) rfl (fun ls hl => ?_)
      refine lv_iconst (v := nI 2) hx hb dL_whisper_19 (by decide) ?_
      subst hQ
      refine W.widen (k := 5) (n := 30) (by decide) (by decide) ?_
      have hcz : ¬ (if (isIn nf y) = true then (if (isGr g) = true then (if (!decide (n = 0) && bt (sem M n kd p1 p2 sb (sg n - nI 1) y.toNatClampNeg) act) = true then (if (decide (n + fb_ct (bt (sem M n kd p1 p2 sb (sg n - nI 1) y.toNatClampNeg)) 32 ≤ 24)) = true then 0 else 3) else 3) else 2) else 1) = 0 := by rw [hc]; decide
      exact W.iret hx hb hr (fun t ht hW => ⟨⟨_, (u9, g0), rfl, ⟨by rw [hc], fun h0 => absurd h0 hcz, fun _ => hTX⟩, by rw [← ht] at hP; exact hP⟩, hS.F ht⟩) hS.2.2 dL_whisper_20
    ·
      refine vx_catch (E := "java/lang/IllegalStateException") (name := "java/lang/IllegalStateException") hown [⟨0, 10, 13, 21⟩, ⟨0, 10, 17, 13⟩] ⟨0, 10, 21, 15⟩ [] htb (by intro z hz; simp only [List.mem_cons, List.not_mem_nil, or_false] at hz; rcases hz with rfl | rfl; exact Or.inr ⟨by decide, "java/lang/IndexOutOfBoundsException", hts (.classLink RL 21 "java/lang/IndexOutOfBoundsException") (List.mem_of_getElem? (i := 1) rfl), hNc.2.1⟩; exact Or.inr ⟨by decide, "java/lang/IllegalArgumentException", hts (.classLink RL 13 "java/lang/IllegalArgumentException") (List.mem_of_getElem? (i := 2) rfl), hNc.1⟩) (by decide) (by decide) (hts (.classLink RL 15 "java/lang/IllegalStateException") (List.mem_of_getElem? (i := 3) rfl)) (va_Nw.use rfl hT.1) hce hcv hcl ?_
      refine lv_astore (lv' := [(4, .ref q9), (0, .ref (a 0)), (1, .int g), (2, .int y), (3, .ref o)]) hx hb dL_whisper_21 hl (by decide) rfl (fun ls hl => ?_)
      refine lv_iconst (v := nI 3) hx hb dL_whisper_23 (by decide) ?_
      subst hQ
      refine W.widen (k := 5) (n := 30) (by decide) (by decide) ?_
      have hcz : ¬ (if (isIn nf y) = true then (if (isGr g) = true then (if (!decide (n = 0) && bt (sem M n kd p1 p2 sb (sg n - nI 1) y.toNatClampNeg) act) = true then (if (decide (n + fb_ct (bt (sem M n kd p1 p2 sb (sg n - nI 1) y.toNatClampNeg)) 32 ≤ 24)) = true then 0 else 3) else 3) else 2) else 1) = 0 := by rw [hc]; decide
      exact W.iret hx hb hr (fun t ht hW => ⟨⟨_, (u9, g0), rfl, ⟨by rw [hc], fun h0 => absurd h0 hcz, fun _ => hTX⟩, by rw [← ht] at hP; exact hP⟩, hS.F ht⟩) hS.2.2 dL_whisper_24
  ·
    obtain ⟨hr9, hcz, hrel⟩ := hrel
    refine lv_i2l (v := r9.toInt64) hx hb dL_whisper_8 rfl ?_
    refine xlast (j := 0) (q0 := 29) (t0 := 1) (ws' := xo cs a u9 N o (oL cs (vp_updL g0 0 r9.toInt64))) hx hb hK1 hP (xoD hI ho) hS rfl rfl (by decide) (by decide) rfl dL_whisper_9 (fun H locs hP hS => ?_)
    refine lv_goto (tgt := 25) hx hb dL_whisper_10 (by decide) ?_
    refine lv_iconst (v := nI 0) hx hb dL_whisper_25 (by decide) ?_
    subst hQ
    refine W.widen (k := 5) (n := 30) (by decide) (by decide) ?_
    exact W.iret hx hb hr (fun t ht hW => ⟨⟨_, (u9, vp_updL g0 0 r9.toInt64), rfl, ⟨by rw [hcz], fun _ => ⟨hrel, (show r9.toInt64 = _ from by rw [hr9])⟩, fun h0 => absurd hcz h0⟩, by rw [← ht] at hP; exact hP⟩, hS.F ht⟩) hS.2.2 dL_whisper_26

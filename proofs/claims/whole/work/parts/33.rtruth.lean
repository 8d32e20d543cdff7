def begC (M : Nat → Nat → Int32) (lv j : Nat) : Nat → Nat → Int32 := fun i x => if i = 9 ∧ 40 * lv ≤ x ∧ x < 40 * lv + j then nI 0 else M i x
theorem begC_o {M : Nat → Nat → Int32} {lv j i x : Nat} (h : i ≠ 9) : begC M lv j i x = M i x := if_neg (by omega)
theorem begC_s {M : Nat → Nat → Int32} {lv j : Nat} : wr (begC M lv j) 9 (40 * lv + j) (nI 0) = begC M lv (j + 1) := by
  funext i x
  rw [wr_eq]
  unfold begC
  by_cases h : i = 9 ∧ x = 40 * lv + j
  · rw [if_pos h, if_pos (by omega)]
  · rw [if_neg h]
    have : (i = 9 ∧ 40 * lv ≤ x ∧ x < 40 * lv + j) ↔ (i = 9 ∧ 40 * lv ≤ x ∧ x < 40 * lv + (j + 1)) := by omega
    simp only [this]

set_option maxHeartbeats 4000000 in
set_option maxRecDepth 100000 in
theorem c_X5_begin (l : Launch) (D : va_G) (cs : Nat → ClassId) (b : Nat → Nat) (M : Nat → Nat → Int32) (sz : Nat) (hI : kI b 12)  (nf : Nat) (lv : Nat) (x : Int32) (hlv : lv < 3) (hfc : M 0 3 = nI nf) (hf40 : nf ≤ 40) : Met l yX5_begin wsX5_begin ({ frames := 0, cells := 0, slots := 0, locals := 0 } : Room) (va_Pc [.ref (b 0), .int (nI lv), .int x] (XBs D cs (rc cs b M) sz)) (va_Qv (fun (u : Unit) => True) (fun (u : Unit) t => va_P D vwCl (rc cs b (begC (wr M 8 lv x) lv nf)) t.heap) (kA b 12 sz)) 0 0 (kA b 12 sz) := by
  refine Met.ofW (cc := cX5_begin) (maxL := 4) (ret := none) (by decide) rfl ?_
  intro p e s m args below meth c s₁ B hml hv
  obtain ⟨rfl, hsz, hP, hK⟩ := hv
  have hx := B.exec
  have hb := B.bytes
  have hr := B.returns
  have hts := atoms_spec (ws := wsX5_begin) B.pre
  have hown : s.vm.findClass RX5 = some m.cls := findClass_of_methodNamed B.named
  have hlocks := B.notSynchronized
  have hK1 := hK.1
  have hinX5 : ∀ w ∈ wsX50, w ∈ wsX5_begin := fun w h => List.mem_cons_of_mem _ (List.mem_append_right _ h)
  subst hsz
  have hS : va_S (kA b 12 s.heap.size) s.heap s.heap [] := va_S.rf
  have hl := lv_entry ([.ref (b 0), .int (nI lv), .int x]) (n := 4) (Nat.le_of_ble_eq_true rfl)
  rw [lg_entry_eq]
  generalize (lg_sl ([.ref (b 0), .int (nI lv), .int x]) ++ List.replicate (4 - (lg_sl ([.ref (b 0), .int (nI lv), .int x])).length) Slot.unset).toArray = ls at hl ⊢
  have hl : lv_has ls 4 [(0, .ref (b 0)), (1, .int (nI lv)), (2, .int x)] := hl
  refine W_Q (fun Q hQ => ?_)
  show W p l e ({ frames := 0, cells := 0, slots := 0, locals := 0 } : Room) s m ([.ref (b 0), .int (nI lv), .int x] : List Value).toArray below meth c s.heap [] 0 0 Q (F0 m 0 ls [])
  refine lv_aload_n hx hb dX5_begin_0 rfl (lv_at hl 0 rfl) ?_
  refine va_get (D := D) (ci := 5) (v := .ref (b 8)) (C := RX5) (T := TX5) (N := 15) hx hb hts hinX5 hown hK1 hP 0 rfl rfl 11 (by decide) (hts (.fieldLink RX5 31 "KnowledgeModelModel" "lefts" "[I") (List.mem_of_getElem? (i := 1) rfl)) (fun _ h9 => h9) rfl dX5_begin_1 ?_
  refine lv_iload_n hx hb dX5_begin_4 rfl (lv_at hl 1 rfl) ?_
  refine lv_iload_n hx hb dX5_begin_5 rfl (lv_at hl 2 rfl) ?_
  refine xiast (j := lv) (q0 := 8) (t0 := 0) (ws' := rc cs b (wr M 8 lv x)) hx hb hK1 hP (rD hI) hS rfl rfl (by omega) (by decide) rs_8 dX5_begin_6 (fun H locs hP hS => ?_)
  obtain ⟨M_1, hM_1⟩ : ∃ z, z = wr M 8 lv x := ⟨_, rfl⟩
  rw [← hM_1] at hP
  have hk_2 : M_1 0 3 = nI nf := by rw [hM_1]; exact (wr_ne (Or.inl (by omega))).trans hfc
  refine lv_iconst (v := (nI 0)) hx hb dX5_begin_7 (by decide) ?_
  refine lv_istore_n (lv' := [(3, .int (nI 0)), (0, .ref (b 0)), (1, .int (nI lv)), (2, .int x)]) hx hb dX5_begin_8 rfl hl (by decide) rfl (fun ls hl => ?_)
  have cut9 : ∀ (f9 : Nat) (j : Nat) (hj : j ≤ nf), nf + 1 ≤ j + f9 → ∀ (H : Heap) (locs : List Loc), va_P D vwCl (rc cs b (begC (wr M 8 lv x) lv j)) H → va_S (kA b 12 s.heap.size) s.heap H locs → ∀ (ls : Array Slot), lv_has ls 4 [(0, .ref (b 0)), (1, .int (nI lv)), (2, .int x), (3, .int (nI j))] → W p l e ({ frames := 0, cells := 0, slots := 0, locals := 0 } : Room) s m ([.ref (b 0), .int (nI lv), .int x] : List Value).toArray below meth c H locs 0 0 Q (F0 m 9 ls []) := by
    intro f9
    induction f9 with
    | zero => intro j hj hfu9; exact absurd hfu9 (by omega)
    | succ f9 cut9 =>
      intro j hj hfu9 H locs hP hS ls hl
      refine lv_iload_n hx hb dX5_begin_9 rfl (lv_at hl 3 rfl) ?_
      refine lv_aload_n hx hb dX5_begin_10 rfl (lv_at hl 0 rfl) ?_
      refine va_get (D := D) (ci := 5) (v := .int ((begC (wr M 8 lv x) lv j) 0 3)) (C := RX5) (T := TX5) (N := 15) hx hb hts hinX5 hown hK1 hP 0 rfl rfl 5 (by decide) (hts (.fieldLink RX5 51 "KnowledgeModelModel" "formulas" "I") (List.mem_of_getElem? (i := 2) rfl)) (fun _ h9 => h9) rfl dX5_begin_11 ?_
      refine xtop (y := nI nf) (((begC_o (by decide)).trans ((wr_ne (Or.inl (by decide))).trans hfc))) ?_
      refine lv_icmp_ge (tgt := 35) hx hb dX5_begin_14 (by decide) (fun c14 => ?_) (fun c14 => ?_)
      ·
        replace c14 : nf ≤ j := k_get c14 (by omega) (by omega)
        subst hQ
        have hMfin : begC (wr M 8 lv x) lv j = begC (wr M 8 lv x) lv nf := by (have hje : j = nf := by omega); subst hje; rfl
        rw [hMfin] at hP
        have hrel : True := by trivial
        exact W.vret hx hb hr (fun t ht hW => ⟨⟨(), rfl, hrel, by rw [← ht] at hP; exact hP⟩, hS.F ht⟩) hS.2.2 dX5_begin_35
      ·
        replace c14 : j < nf := k_gef c14 (by omega) (by omega)
        refine lv_aload_n hx hb dX5_begin_17 rfl (lv_at hl 0 rfl) ?_
        refine va_get (D := D) (ci := 5) (v := .ref (b 9)) (C := RX5) (T := TX5) (N := 15) hx hb hts hinX5 hown hK1 hP 0 rfl rfl 12 (by decide) (hts (.fieldLink RX5 34 "KnowledgeModelModel" "areKnown" "[Z") (List.mem_of_getElem? (i := 3) rfl)) (fun _ h9 => h9) rfl dX5_begin_18 ?_
        refine lv_bipush (v := (nI 40)) hx hb dX5_begin_21 (by decide) ?_
        refine lv_iload_n hx hb dX5_begin_23 rfl (lv_at hl 1 rfl) ?_
        refine ximul hx hb dX5_begin_24 ?_
        refine lv_iload_n hx hb dX5_begin_25 rfl (lv_at hl 3 rfl) ?_
        refine xiadd hx hb dX5_begin_26 ?_
        refine lv_iconst (v := (nI 0)) hx hb dX5_begin_27 (by decide) ?_
        refine xzast (j := (40 * lv) + j) (q0 := 9) (t0 := 3) (ws' := rc cs b (wr (begC (wr M 8 lv x) lv j) 9 ((40 * lv) + j) (nI 0))) hx hb hK1 hP (rD hI) hS rfl rfl (by omega) (by decide) (by decide) rs_9 dX5_begin_28 (fun H locs hP hS => ?_)
        obtain ⟨M_3, hM_3⟩ : ∃ z, z = wr (begC (wr M 8 lv x) lv j) 9 ((40 * lv) + j) (nI 0) := ⟨_, rfl⟩
        rw [← hM_3] at hP
        have hk_4 : M_3 0 3 = nI nf := by rw [hM_3]; exact (wr_ne (Or.inl (by omega))).trans ((begC_o (by decide)).trans ((wr_ne (Or.inl (by decide))).trans hfc))
        refine lv_iinc (v := (nI (j + 1))) (lv' := [(3, .int (nI (j + 1))), (0, .ref (b 0)), (1, .int (nI lv)), (2, .int x)]) hx hb dX5_begin_29 hl (k := 3) rfl (nI_add j 1) (by decide) rfl (fun ls hl => ?_)
        refine lv_goto (tgt := 9) hx hb dX5_begin_32 (by decide) ?_
        have eM_5 : M_3 = begC (wr M 8 lv x) lv (j + 1) := by rw [← begC_s]; simp only [fo_0, hM_1, c14, hM_3]
        exact cut9 (j + 1) (by omega) (by omega) _ _ (eM_5 ▸ hP) hS ls (lcons (lcons (lcons (lcons (lzero hl) hl 0 rfl rfl) hl 3 rfl rfl) hl 2 rfl rfl) hl 1 rfl rfl)
  have eM_6 : M_1 = begC (wr M 8 lv x) lv 0 := by simp only [fo_0, hM_1]; funext i y; unfold begC; rw [if_neg (by omega)]
  exact cut9 (nf + 1) 0 (by omega) (by omega) _ _ (eM_6 ▸ hP) hS ls (lcons (lcons (lcons (lcons (lzero hl) hl 0 rfl rfl) hl 3 rfl rfl) hl 2 rfl rfl) hl 1 rfl rfl)

def askR (M : Nat → Nat → Int32) (n : Nat) (kd ag : Nat → Nat) (f w : Nat) (mo : Int32) : Int32 := if kd f = 3 then M 2 (24 * ag f + w) else if kd f = 4 then reachR M n (M 4 f) w mo else everyR M n (M 4 f) w
def semRV (M : Nat → Nat → Int32) (n : Nat) (kd p1 p2 sb ag : Nat → Nat) : Nat → Int32 → Nat → Int32
  | 0, _, _ => nI 0
  | k + 1, mo, f =>
    if kd f = 0 then fo (fun w r => if bt mo w && bt (M 1 w) (sb f) then r ||| sg w else r) (nI 0) n
    else if kd f = 1 then mo &&& (semRV M n kd p1 p2 sb ag k mo (p1 f) ^^^ (-1))
    else if kd f = 2 then semRV M n kd p1 p2 sb ag k mo (p1 f) &&& semRV M n kd p1 p2 sb ag k mo (p2 f)
    else if kd f = 6 then (mo &&& (semRV M n kd p1 p2 sb ag k mo (p1 f) ^^^ (-1))) ||| semRV M n kd p1 p2 sb ag k (semRV M n kd p1 p2 sb ag k mo (p1 f)) (p2 f)
    else fo (fun w r => if bt mo w && decide ((askR M n kd ag f w mo &&& mo &&& (semRV M n kd p1 p2 sb ag k mo (p1 f) ^^^ (-1))) = 0) then r ||| sg w else r) (nI 0) n
def semR (M : Nat → Nat → Int32) (n : Nat) (kd p1 p2 sb ag : Nat → Nat) (mo : Int32) (f : Nat) : Int32 := semRV M n kd p1 p2 sb ag (f + 1) mo f
theorem semRV_fuel {M : Nat → Nat → Int32} {n nf : Nat} {kd p1 p2 sb ag : Nat → Nat} (hw : WFp nf kd p1 p2) : ∀ (k f : Nat) (mo : Int32), f < nf → f < k → semRV M n kd p1 p2 sb ag k mo f = semR M n kd p1 p2 sb ag mo f := by
  intro k
  induction k using Nat.strongRecOn with
  | ind k ih =>
    intro f mo hf hk
    obtain ⟨k, rfl⟩ : ∃ k', k = k' + 1 := ⟨k - 1, by omega⟩
    unfold semR
    have key : ∀ (g : Nat) (mo : Int32), g < f → semRV M n kd p1 p2 sb ag k mo g = semRV M n kd p1 p2 sb ag f mo g := by
      intro g mo hg
      rw [ih k (by omega) g mo (by omega) (by omega)]
      rcases Nat.lt_or_ge f k with q | q
      · rw [ih f (by omega) g mo (by omega) hg]
      · rw [show f = k by omega, ih k (by omega) g mo (by omega) (by omega)]
    obtain ⟨h1, h2⟩ := hw f hf
    show (if kd f = 0 then _ else _) = (if kd f = 0 then _ else _)
    by_cases c0 : kd f = 0
    · rw [if_pos c0, if_pos c0]
    rw [if_neg c0, if_neg c0, key _ mo (h1 c0)]
    by_cases c1 : kd f = 1
    · rw [if_pos c1, if_pos c1]
    rw [if_neg c1, if_neg c1]
    by_cases c2 : kd f = 2
    · rw [if_pos c2, if_pos c2, key _ mo (h2 (Or.inl c2))]
    rw [if_neg c2, if_neg c2]
    by_cases c6 : kd f = 6
    · rw [if_pos c6, if_pos c6, key _ _ (h2 (Or.inr c6))]
    rw [if_neg c6, if_neg c6]
theorem semR_eq {M : Nat → Nat → Int32} {n nf : Nat} {kd p1 p2 sb ag : Nat → Nat} (hw : WFp nf kd p1 p2) {f : Nat} (hf : f < nf) (mo : Int32) : semR M n kd p1 p2 sb ag mo f =
    if kd f = 0 then fo (fun w r => if bt mo w && bt (M 1 w) (sb f) then r ||| sg w else r) (nI 0) n
    else if kd f = 1 then mo &&& (semR M n kd p1 p2 sb ag mo (p1 f) ^^^ (-1))
    else if kd f = 2 then semR M n kd p1 p2 sb ag mo (p1 f) &&& semR M n kd p1 p2 sb ag mo (p2 f)
    else if kd f = 6 then (mo &&& (semR M n kd p1 p2 sb ag mo (p1 f) ^^^ (-1))) ||| semR M n kd p1 p2 sb ag (semR M n kd p1 p2 sb ag mo (p1 f)) (p2 f)
    else fo (fun w r => if bt mo w && decide ((askR M n kd ag f w mo &&& mo &&& (semR M n kd p1 p2 sb ag mo (p1 f) ^^^ (-1))) = 0) then r ||| sg w else r) (nI 0) n := by
  obtain ⟨h1, h2⟩ := hw f hf
  show (if kd f = 0 then _ else _) = _
  by_cases c0 : kd f = 0
  · rw [if_pos c0, if_pos c0]
  have q1 := h1 c0
  rw [if_neg c0, if_neg c0, semRV_fuel hw f (p1 f) mo (by omega) q1]
  by_cases c1 : kd f = 1
  · rw [if_pos c1, if_pos c1]
  rw [if_neg c1, if_neg c1]
  by_cases c2 : kd f = 2
  · have q2 := h2 (Or.inl c2)
    rw [if_pos c2, if_pos c2, semRV_fuel hw f (p2 f) mo (by omega) q2]
  rw [if_neg c2, if_neg c2]
  by_cases c6 : kd f = 6
  · have q2 := h2 (Or.inr c6)
    rw [if_pos c6, if_pos c6, semRV_fuel hw f (p2 f) _ (by omega) q2]
  rw [if_neg c6, if_neg c6]
def WFR (M : Nat → Nat → Int32) (nf : Nat) (kd p1 p2 ns sb ag : Nat → Nat) : Prop :=
  WFp nf kd p1 p2 ∧ ∀ f, f < nf → (kd f < 7 ∧ M 3 f = nI (kd f) ∧ ns f ≤ 2) ∧ (kd f = 0 → M 4 f = nI (sb f) ∧ sb f < 6) ∧ (kd f = 1 ∨ kd f = 3 ∨ kd f = 4 ∨ kd f = 5 → M 5 f = nI (p1 f)) ∧ (kd f = 2 ∨ kd f = 6 → M 4 f = nI (p1 f) ∧ M 5 f = nI (p2 f)) ∧ (kd f = 3 → M 4 f = nI (ag f) ∧ ag f < 4) ∧ (kd f ≠ 0 → ns (p1 f) ≤ ns f) ∧ (kd f = 2 → ns (p2 f) ≤ ns f) ∧ (kd f = 6 → ns (p1 f) + 1 ≤ ns f ∧ ns (p2 f) + 1 ≤ ns f)
/-- the table of level lv holds truths in the model mo -/
def TI (M0 M : Nat → Nat → Int32) (n nf : Nat) (kd p1 p2 sb ag : Nat → Nat) (lv : Nat) (mo : Int32) : Prop :=
  M 8 lv = mo ∧ ∀ f, f < nf → M 9 (40 * lv + f) = nI 0 ∨ M 9 (40 * lv + f) = nI 1 ∧ M 10 (40 * lv + f) = semR M0 n kd p1 p2 sb ag mo f
def Ag8 (M M0 : Nat → Nat → Int32) : Prop := ∀ i x, i < 8 → M i x = M0 i x
/-- what asking at level lv leaves -/
def TR (M0 M : Nat → Nat → Int32) (n nf : Nat) (kd p1 p2 sb ag : Nat → Nat) (lv : Nat) (mo : Int32) (u : Nat → Nat → Int32) : Prop :=
  (∀ i x, (i < 8 ∨ i = 11) → u i x = M i x) ∧ TI M0 u n nf kd p1 p2 sb ag lv mo ∧ (∀ k, k < lv → u 8 k = M 8 k) ∧ ∀ x, x < 40 * lv → u 9 x = M 9 x ∧ u 10 x = M 10 x
theorem TR_t {M0 M u v : Nat → Nat → Int32} {n nf : Nat} {kd p1 p2 sb ag : Nat → Nat} {lv : Nat} {mo mo2 : Int32} (h1 : TR M0 M n nf kd p1 p2 sb ag lv mo2 u) (h2 : TR M0 u n nf kd p1 p2 sb ag lv mo v) : TR M0 M n nf kd p1 p2 sb ag lv mo v :=
  ⟨fun i x hi => (h2.1 i x hi).trans (h1.1 i x hi), h2.2.1, fun k hk => (h2.2.2.1 k hk).trans (h1.2.2.1 k hk), fun x hx => ⟨(h2.2.2.2 x hx).1.trans (h1.2.2.2 x hx).1, (h2.2.2.2 x hx).2.trans (h1.2.2.2 x hx).2⟩⟩
theorem TR_r {M0 M : Nat → Nat → Int32} {n nf : Nat} {kd p1 p2 sb ag : Nat → Nat} {lv : Nat} {mo : Int32} (h : TI M0 M n nf kd p1 p2 sb ag lv mo) : TR M0 M n nf kd p1 p2 sb ag lv mo M := ⟨fun _ _ _ => rfl, h, fun _ _ => rfl, fun _ _ => ⟨rfl, rfl⟩⟩
/-- a truth noted -/
theorem TR_w {M0 M u : Nat → Nat → Int32} {n nf : Nat} {kd p1 p2 sb ag : Nat → Nat} {lv f : Nat} {mo : Int32} (h : TR M0 M n nf kd p1 p2 sb ag lv mo u) (hf : f < nf) {v : Int32} (hv : v = semR M0 n kd p1 p2 sb ag mo f) : TR M0 M n nf kd p1 p2 sb ag lv mo (wr (wr u 10 (40 * lv + f) v) 9 (40 * lv + f) (nI 1)) := by
  obtain ⟨h1, h2, h3, h4⟩ := h
  refine ⟨fun i x hi => ?_, ⟨?_, fun g hg => ?_⟩, fun k hk => ?_, fun x hx => ⟨?_, ?_⟩⟩
  · rw [wr_ne (by omega), wr_ne (by omega)]; exact h1 i x hi
  · rw [wr_ne (by omega), wr_ne (by omega)]; exact h2.1
  · by_cases e : g = f
    · subst e
      exact Or.inr ⟨wr_same, (wr_ne (Or.inl (by decide))).trans (wr_same.trans hv)⟩
    · rw [wr_ne (by omega), wr_ne (by omega), wr_ne (by omega), wr_ne (by omega)]
      exact h2.2 g hg
  · rw [wr_ne (by omega), wr_ne (by omega)]; exact h3 k hk
  · rw [wr_ne (by omega), wr_ne (by omega)]; exact (h4 x hx).1
  · rw [wr_ne (by omega), wr_ne (by omega)]; exact (h4 x hx).2
/-- another model begun one level deeper -/
theorem TI_b {M0 u : Nat → Nat → Int32} {n nf : Nat} {kd p1 p2 sb ag : Nat → Nat} {lv : Nat} {x : Int32} (hnf : nf ≤ 40) : TI M0 (begC (wr u 8 lv x) lv nf) n nf kd p1 p2 sb ag lv x :=
  ⟨(begC_o (by decide)).trans wr_same, fun f hf => Or.inl (if_pos ⟨rfl, by omega, by omega⟩)⟩
theorem TR_b {M0 M u v : Nat → Nat → Int32} {n nf : Nat} {kd p1 p2 sb ag : Nat → Nat} {lv : Nat} {mo x : Int32} (h : TR M0 M n nf kd p1 p2 sb ag lv mo u) (hnf : nf ≤ 40) (hv : TR M0 (begC (wr u 8 (lv + 1) x) (lv + 1) nf) n nf kd p1 p2 sb ag (lv + 1) x v) : TR M0 M n nf kd p1 p2 sb ag lv mo v := by
  obtain ⟨h1, h2, h3, h4⟩ := h
  obtain ⟨g1, g2, g3, g4⟩ := hv
  have k9 : ∀ y, y < 40 * (lv + 1) → v 9 y = u 9 y := fun y hy => ((g4 y hy).1.trans (if_neg (by omega))).trans (wr_ne (Or.inl (by decide)))
  have k10 : ∀ y, y < 40 * (lv + 1) → v 10 y = u 10 y := fun y hy => ((g4 y hy).2.trans (begC_o (by decide))).trans (wr_ne (Or.inl (by decide)))
  have k8 : ∀ k, k < lv + 1 → v 8 k = u 8 k := fun k hk => ((g3 k hk).trans (begC_o (by decide))).trans (wr_ne (Or.inr (by omega)))
  refine ⟨fun i y hi => ((g1 i y hi).trans (begC_o (by omega))).trans ((wr_ne (Or.inl (by omega))).trans (h1 i y hi)), ⟨(k8 lv (by omega)).trans h2.1, fun f hf => ?_⟩, fun k hk => (k8 k (by omega)).trans (h3 k hk), fun y hy => ⟨(k9 y (by omega)).trans (h4 y hy).1, (k10 y (by omega)).trans (h4 y hy).2⟩⟩
  rw [k9 _ (by omega), k10 _ (by omega)]
  exact h2.2 f hf
theorem Ag8_t {M M0 u : Nat → Nat → Int32} {P : Prop} (h : Ag8 M M0) (hu : (∀ i x, (i < 8 ∨ i = 11) → u i x = M i x) ∧ P) : Ag8 u M0 := fun i x hi => (hu.1 i x (Or.inl hi)).trans (h i x hi)
theorem stepR_c {M M0 : Nat → Nat → Int32} {n : Nat} {g fm : Int32} (h : Ag8 M M0) : stepR M n g fm = stepR M0 n g fm := fo_cong (fun i _ r => fo_cong (fun w _ r => by rw [h 2 _ (by decide)]))
theorem reachY_c {M M0 : Nat → Nat → Int32} {n : Nat} {g y0 wi : Int32} {k : Nat} (h : Ag8 M M0) : reachY M n g y0 wi k = reachY M0 n g y0 wi k := fo_cong (fun i _ r => by rw [stepR_c h])
theorem reachR_c {M M0 : Nat → Nat → Int32} {n : Nat} {g wi : Int32} {fr : Nat} (h : Ag8 M M0) : reachR M n g fr wi = reachR M0 n g fr wi := by unfold reachR; rw [reachY_c h, stepR_c h]
theorem everyR_c {M M0 : Nat → Nat → Int32} {n : Nat} {g : Int32} {fr : Nat} (h : Ag8 M M0) : everyR M n g fr = everyR M0 n g fr := fo_cong (fun i _ r => by rw [h 2 _ (by decide)])

set_option maxHeartbeats 4000000 in
set_option maxRecDepth 100000 in
theorem c_X5_truth_2 (l : Launch) (D : va_G) (cs : Nat → ClassId) (b : Nat → Nat) (hI : kI b 12) (n nf : Nat) (kd p1 p2 ns sb ag : Nat → Nat) (M0 : Nat → Nat → Int32) (hn0 : M0 0 1 = nI n) (hn24 : n ≤ 24) (hwf : WFR M0 nf kd p1 p2 ns sb ag) (hfc0 : M0 0 3 = nI nf) (hf40 : nf ≤ 40) (f : Nat) : ∀ (M : Nat → Nat → Int32) (sz lv : Nat) (mo : Int32) (hag : Ag8 M M0) (hlv : lv = 2) (hf : f < nf) (hns : ns f + lv ≤ 2) (hti : TI M0 M n nf kd p1 p2 sb ag lv mo), Met l yX5_truth wsX5_truth ({ frames := 6 + f, cells := 0, slots := 0, locals := 100 + 31 * f } : Room) (va_Pc [.ref (b 0), .int (nI lv), .int (nI f)] (XBs D cs (rc cs b M) sz)) (va_Qi (fun r (u : Nat → Nat → Int32) => r = semR M0 n kd p1 p2 sb ag mo f ∧ TR M0 M n nf kd p1 p2 sb ag lv mo u) (fun u t => va_P D vwCl (rc cs b u) t.heap) (kA b 12 sz)) 0 0 (kA b 12 sz) := by
  refine Nat.strongRecOn f (fun f ih => ?_)
  intro M sz lv mo hag hlv hf hns hti
  have hn : M 0 1 = nI n := (hag 0 1 (by decide)).trans hn0
  have hfc : M 0 3 = nI nf := (hag 0 3 (by decide)).trans hfc0
  refine Met.ofW (cc := cX5_truth) (maxL := 12) (ret := (some .int)) (by decide) rfl ?_
  intro p e s m args below meth c s₁ B hml hv
  obtain ⟨rfl, hsz, hP, hK⟩ := hv
  have hx := B.exec
  have hb := B.bytes
  have hr := B.returns
  have hts := atoms_spec (ws := wsX5_truth) B.pre
  have hown : s.vm.findClass RX5 = some m.cls := findClass_of_methodNamed B.named
  have hlocks := B.notSynchronized
  have hK1 := hK.1
  have hinX5 : ∀ w ∈ wsX50, w ∈ wsX5_truth := fun w h => List.mem_cons_of_mem _ (List.mem_append_right _ h)
  subst hsz
  have hS : va_S (kA b 12 s.heap.size) s.heap s.heap [] := va_S.rf
  have hl := lv_entry ([.ref (b 0), .int (nI lv), .int (nI f)]) (n := 12) (Nat.le_of_ble_eq_true rfl)
  rw [lg_entry_eq]
  generalize (lg_sl ([.ref (b 0), .int (nI lv), .int (nI f)]) ++ List.replicate (12 - (lg_sl ([.ref (b 0), .int (nI lv), .int (nI f)])).length) Slot.unset).toArray = ls at hl ⊢
  have hl : lv_has ls 12 [(0, .ref (b 0)), (1, .int (nI lv)), (2, .int (nI f))] := hl
  refine W_Q (fun Q hQ => ?_)
  show W p l e ({ frames := 6 + f, cells := 0, slots := 0, locals := 100 + 31 * f } : Room) s m ([.ref (b 0), .int (nI lv), .int (nI f)] : List Value).toArray below meth c s.heap [] 0 0 Q (F0 m 0 ls [])
  obtain ⟨⟨hk7, hk3, hk2⟩, hA, hB, hC, hG, hE1, hE2, hE6⟩ := hwf.2 f hf
  have hwp := hwf.1
  have hL := hwf.1 f hf
  rcases (show kd f = 0 ∨ kd f = 1 ∨ kd f = 2 ∨ kd f = 3 ∨ kd f = 4 ∨ kd f = 5 ∨ kd f = 6 by omega) with hkd | hkd | hkd | hkd | hkd | hkd | hkd
  ·
    obtain ⟨hA1, hA2⟩ := hA hkd
    refine lv_bipush (v := (nI 40)) hx hb dX5_truth_0 (by decide) ?_
    refine lv_iload_n hx hb dX5_truth_2 rfl (lv_at hl 1 rfl) ?_
    refine ximul hx hb dX5_truth_3 ?_
    refine lv_iload_n hx hb dX5_truth_4 rfl (lv_at hl 2 rfl) ?_
    refine xiadd hx hb dX5_truth_5 ?_
    refine lv_istore_n (lv' := [(3, .int (nI ((40 * lv) + f))), (0, .ref (b 0)), (1, .int (nI lv)), (2, .int (nI f))]) hx hb dX5_truth_6 rfl hl (by decide) rfl (fun ls hl => ?_)
    refine lv_aload_n hx hb dX5_truth_7 rfl (lv_at hl 1 rfl) ?_
    refine va_get (D := D) (ci := 5) (v := .ref (b 9)) (C := RX5) (T := TX5) (N := 15) hx hb hts hinX5 hown hK1 hP 0 rfl rfl 12 (by decide) (hts (.fieldLink RX5 34 "KnowledgeModelModel" "areKnown" "[Z") (List.mem_of_getElem? (i := 1) rfl)) (fun _ h9 => h9) rfl dX5_truth_8 ?_
    refine lv_iload_n hx hb dX5_truth_11 rfl (lv_at hl 0 rfl) ?_
    refine xzald (j := (40 * lv) + f) (q0 := 9) (t0 := 3) hx hb hK1 hP rfl rfl (by omega) (by decide) dX5_truth_12 ?_
    refine lv_if_eq (tgt := 23) hx hb dX5_truth_13 (by decide) (fun c13 => ?_) (fun c13 => ?_)
    ·
      refine lv_aload_n hx hb dX5_truth_23 rfl (lv_at hl 1 rfl) ?_
      refine va_get (D := D) (ci := 5) (v := .ref (b 8)) (C := RX5) (T := TX5) (N := 15) hx hb hts hinX5 hown hK1 hP 0 rfl rfl 11 (by decide) (hts (.fieldLink RX5 31 "KnowledgeModelModel" "lefts" "[I") (List.mem_of_getElem? (i := 3) rfl)) (fun _ h9 => h9) rfl dX5_truth_24 ?_
      refine lv_iload_n hx hb dX5_truth_27 rfl (lv_at hl 2 rfl) ?_
      refine xiald (j := lv) (q0 := 8) (t0 := 0) hx hb hK1 hP rfl rfl (by omega) (by decide) dX5_truth_28 ?_
      refine xtop (y := mo) (by exact hti.1) ?_
      refine lv_istore (lv' := [(4, .int mo), (3, .int (nI ((40 * lv) + f))), (0, .ref (b 0)), (1, .int (nI lv)), (2, .int (nI f))]) hx hb dX5_truth_29 hl (by decide) rfl (fun ls hl => ?_)
      refine lv_aload_n hx hb dX5_truth_31 rfl (lv_at hl 2 rfl) ?_
      refine va_get (D := D) (ci := 5) (v := .ref (b 4)) (C := RX5) (T := TX5) (N := 15) hx hb hts hinX5 hown hK1 hP 0 rfl rfl 7 (by decide) (hts (.fieldLink RX5 19 "KnowledgeModelModel" "firsts" "[I") (List.mem_of_getElem? (i := 4) rfl)) (fun _ h9 => h9) rfl dX5_truth_32 ?_
      refine lv_iload_n hx hb dX5_truth_35 rfl (lv_at hl 4 rfl) ?_
      refine xiald (j := f) (q0 := 4) (t0 := 0) hx hb hK1 hP rfl rfl (by omega) (by decide) dX5_truth_36 ?_
      refine xtop (y := (nI (sb f))) (by exact (hag 4 f (by decide)).trans hA1) ?_
      refine lv_istore (lv' := [(5, .int (nI (sb f))), (4, .int mo), (3, .int (nI ((40 * lv) + f))), (0, .ref (b 0)), (1, .int (nI lv)), (2, .int (nI f))]) hx hb dX5_truth_37 hl (by decide) rfl (fun ls hl => ?_)
      refine lv_aload_n hx hb dX5_truth_39 rfl (lv_at hl 3 rfl) ?_
      refine va_get (D := D) (ci := 5) (v := .ref (b 5)) (C := RX5) (T := TX5) (N := 15) hx hb hts hinX5 hown hK1 hP 0 rfl rfl 8 (by decide) (hts (.fieldLink RX5 22 "KnowledgeModelModel" "seconds" "[I") (List.mem_of_getElem? (i := 5) rfl)) (fun _ h9 => h9) rfl dX5_truth_40 ?_
      refine lv_iload_n hx hb dX5_truth_43 rfl (lv_at hl 5 rfl) ?_
      refine xiald (j := f) (q0 := 5) (t0 := 0) hx hb hK1 hP rfl rfl (by omega) (by decide) dX5_truth_44 ?_
      refine xtop (y := (M0 5 f)) (by exact hag 5 f (by decide)) ?_
      refine lv_istore (lv' := [(6, .int (M0 5 f)), (5, .int (nI (sb f))), (4, .int mo), (3, .int (nI ((40 * lv) + f))), (0, .ref (b 0)), (1, .int (nI lv)), (2, .int (nI f))]) hx hb dX5_truth_45 hl (by decide) rfl (fun ls hl => ?_)
      refine lv_iconst (v := (nI 0)) hx hb dX5_truth_47 (by decide) ?_
      refine lv_istore (lv' := [(7, .int (nI 0)), (6, .int (M0 5 f)), (5, .int (nI (sb f))), (4, .int mo), (3, .int (nI ((40 * lv) + f))), (0, .ref (b 0)), (1, .int (nI lv)), (2, .int (nI f))]) hx hb dX5_truth_48 hl (by decide) rfl (fun ls hl => ?_)
      refine lv_aload_n hx hb dX5_truth_50 rfl (lv_at hl 5 rfl) ?_
      refine va_get (D := D) (ci := 5) (v := .ref (b 3)) (C := RX5) (T := TX5) (N := 15) hx hb hts hinX5 hown hK1 hP 0 rfl rfl 6 (by decide) (hts (.fieldLink RX5 16 "KnowledgeModelModel" "kinds" "[I") (List.mem_of_getElem? (i := 6) rfl)) (fun _ h9 => h9) rfl dX5_truth_51 ?_
      refine lv_iload_n hx hb dX5_truth_54 rfl (lv_at hl 7 rfl) ?_
      refine xiald (j := f) (q0 := 3) (t0 := 0) hx hb hK1 hP rfl rfl (by omega) (by decide) dX5_truth_55 ?_
      refine xtop (y := (nI 0)) (by exact ((hag 3 f (by decide)).trans hk3).trans (congrArg nI hkd)) ?_
      refine lv_iconst (v := (nI 2)) hx hb dX5_truth_56 (by decide) ?_
      refine lv_icmp_ne (tgt := 80) hx hb dX5_truth_57 (by decide) (fun c57 => ?_) (fun c57 => ?_)
      ·
        replace c57 : ¬ 0 = 2 := k_net c57 (by omega) (by omega)
        refine lv_aload_n hx hb dX5_truth_80 rfl (lv_at hl 5 rfl) ?_
        refine va_get (D := D) (ci := 5) (v := .ref (b 3)) (C := RX5) (T := TX5) (N := 15) hx hb hts hinX5 hown hK1 hP 0 rfl rfl 6 (by decide) (hts (.fieldLink RX5 16 "KnowledgeModelModel" "kinds" "[I") (List.mem_of_getElem? (i := 6) rfl)) (fun _ h9 => h9) rfl dX5_truth_81 ?_
        refine lv_iload_n hx hb dX5_truth_84 rfl (lv_at hl 7 rfl) ?_
        refine xiald (j := f) (q0 := 3) (t0 := 0) hx hb hK1 hP rfl rfl (by omega) (by decide) dX5_truth_85 ?_
        refine xtop (y := (nI 0)) (by exact ((hag 3 f (by decide)).trans hk3).trans (congrArg nI hkd)) ?_
        refine lv_iconst (v := (nI 1)) hx hb dX5_truth_86 (by decide) ?_
        refine lv_icmp_ne (tgt := 107) hx hb dX5_truth_87 (by decide) (fun c87 => ?_) (fun c87 => ?_)
        ·
          replace c87 : ¬ 0 = 1 := k_net c87 (by omega) (by omega)
          refine lv_aload_n hx hb dX5_truth_107 rfl (lv_at hl 5 rfl) ?_
          refine va_get (D := D) (ci := 5) (v := .ref (b 3)) (C := RX5) (T := TX5) (N := 15) hx hb hts hinX5 hown hK1 hP 0 rfl rfl 6 (by decide) (hts (.fieldLink RX5 16 "KnowledgeModelModel" "kinds" "[I") (List.mem_of_getElem? (i := 6) rfl)) (fun _ h9 => h9) rfl dX5_truth_108 ?_
          refine lv_iload_n hx hb dX5_truth_111 rfl (lv_at hl 7 rfl) ?_
          refine xiald (j := f) (q0 := 3) (t0 := 0) hx hb hK1 hP rfl rfl (by omega) (by decide) dX5_truth_112 ?_
          refine xtop (y := (nI 0)) (by exact ((hag 3 f (by decide)).trans hk3).trans (congrArg nI hkd)) ?_
          refine lv_bipush (v := (nI 6)) hx hb dX5_truth_113 (by decide) ?_
          refine lv_icmp_ne (tgt := 158) hx hb dX5_truth_115 (by decide) (fun c115 => ?_) (fun c115 => ?_)
          ·
            replace c115 : ¬ 0 = 6 := k_net c115 (by omega) (by omega)
            refine lv_aload_n hx hb dX5_truth_158 rfl (lv_at hl 5 rfl) ?_
            refine va_get (D := D) (ci := 5) (v := .ref (b 3)) (C := RX5) (T := TX5) (N := 15) hx hb hts hinX5 hown hK1 hP 0 rfl rfl 6 (by decide) (hts (.fieldLink RX5 16 "KnowledgeModelModel" "kinds" "[I") (List.mem_of_getElem? (i := 6) rfl)) (fun _ h9 => h9) rfl dX5_truth_159 ?_
            refine lv_iload_n hx hb dX5_truth_162 rfl (lv_at hl 7 rfl) ?_
            refine xiald (j := f) (q0 := 3) (t0 := 0) hx hb hK1 hP rfl rfl (by omega) (by decide) dX5_truth_163 ?_
            refine xtop (y := (nI 0)) (by exact ((hag 3 f (by decide)).trans hk3).trans (congrArg nI hkd)) ?_
            refine lv_if_ne (tgt := 171) hx hb dX5_truth_164 (by decide) (fun c164 => ?_) (fun c164 => ?_)
            ·
              replace c164 : ¬ 0 = 0 := k0_net c164 (by omega)
              exfalso; omega
            ·
              replace c164 : 0 = 0 := k0_nef c164 (by omega)
              refine lv_iconst (v := (nI 0)) hx hb dX5_truth_167 (by decide) ?_
              refine lv_goto (tgt := 178) hx hb dX5_truth_168 (by decide) ?_
              refine lv_istore (lv' := [(8, .int (nI 0)), (7, .int (nI 0)), (6, .int (M0 5 f)), (5, .int (nI (sb f))), (4, .int mo), (3, .int (nI ((40 * lv) + f))), (0, .ref (b 0)), (1, .int (nI lv)), (2, .int (nI f))]) hx hb dX5_truth_178 hl (by decide) rfl (fun ls hl => ?_)
              refine lv_iconst (v := (nI 0)) hx hb dX5_truth_180 (by decide) ?_
              refine lv_istore (lv' := [(9, .int (nI 0)), (8, .int (nI 0)), (7, .int (nI 0)), (6, .int (M0 5 f)), (5, .int (nI (sb f))), (4, .int mo), (3, .int (nI ((40 * lv) + f))), (0, .ref (b 0)), (1, .int (nI lv)), (2, .int (nI f))]) hx hb dX5_truth_181 hl (by decide) rfl (fun ls hl => ?_)
              have cut183 : ∀ (f183 : Nat) (j : Nat) (hj : j ≤ n), n + 1 ≤ j + f183 → ∀ (H : Heap) (locs : List Loc), va_P D vwCl (rc cs b M) H → va_S (kA b 12 s.heap.size) s.heap H locs → ∀ (ls : Array Slot), lv_has ls 12 [(0, .ref (b 0)), (1, .int (nI lv)), (2, .int (nI f)), (3, .int (nI ((40 * lv) + f))), (4, .int mo), (5, .int (nI (sb f))), (6, .int (M0 5 f)), (7, .int (fo (fun w r => if bt mo w && bt (M0 1 w) (sb f) then r ||| sg w else r) (nI 0) j)), (8, .int (nI 0)), (9, .int (nI j))] → W p l e ({ frames := 6 + f, cells := 0, slots := 0, locals := 100 + 31 * f } : Room) s m ([.ref (b 0), .int (nI lv), .int (nI f)] : List Value).toArray below meth c H locs 0 0 Q (F0 m 183 ls []) := by
                intro f183
                induction f183 with
                | zero => intro j hj hfu183; exact absurd hfu183 (by omega)
                | succ f183 cut183 =>
                  intro j hj hfu183 H locs hP hS ls hl
                  refine lv_iload hx hb dX5_truth_183 (lv_at hl 9 rfl) ?_
                  refine lv_aload_n hx hb dX5_truth_185 rfl (lv_at hl 0 rfl) ?_
                  refine va_get (D := D) (ci := 5) (v := .int (M 0 1)) (C := RX5) (T := TX5) (N := 15) hx hb hts hinX5 hown hK1 hP 0 rfl rfl 1 (by decide) (hts (.fieldLink RX5 48 "KnowledgeModelModel" "worlds" "I") (List.mem_of_getElem? (i := 7) rfl)) (fun _ h9 => h9) rfl dX5_truth_186 ?_
                  refine xtop (y := nI n) (hn) ?_
                  refine lv_icmp_ge (tgt := 342) hx hb dX5_truth_189 (by decide) (fun c189 => ?_) (fun c189 => ?_)
                  ·
                    replace c189 : n ≤ j := k_get c189 (by omega) (by omega)
                    have hje : j = n := by omega
                    have hval : (fo (fun w r => if bt mo w && bt (M0 1 w) (sb f) then r ||| sg w else r) (nI 0) j) = semR M0 n kd p1 p2 sb ag mo f := by rw [semR_eq hwp hf]; simp only [askR, hkd, if_true, if_false, show (1 : Nat) ≠ 0 by decide, show (2 : Nat) ≠ 0 by decide, show (2 : Nat) ≠ 1 by decide, show (3 : Nat) ≠ 0 by decide, show (3 : Nat) ≠ 1 by decide, show (3 : Nat) ≠ 2 by decide, show (3 : Nat) ≠ 6 by decide, show (4 : Nat) ≠ 0 by decide, show (4 : Nat) ≠ 1 by decide, show (4 : Nat) ≠ 2 by decide, show (4 : Nat) ≠ 3 by decide, show (4 : Nat) ≠ 6 by decide, show (5 : Nat) ≠ 0 by decide, show (5 : Nat) ≠ 1 by decide, show (5 : Nat) ≠ 2 by decide, show (5 : Nat) ≠ 3 by decide, show (5 : Nat) ≠ 4 by decide, show (5 : Nat) ≠ 6 by decide, show (6 : Nat) ≠ 0 by decide, show (6 : Nat) ≠ 1 by decide, show (6 : Nat) ≠ 2 by decide, hje]
                    refine lv_aload_n hx hb dX5_truth_342 rfl (lv_at hl 0 rfl) ?_
                    refine va_get (D := D) (ci := 5) (v := .ref (b 10)) (C := RX5) (T := TX5) (N := 15) hx hb hts hinX5 hown hK1 hP 0 rfl rfl 13 (by decide) (hts (.fieldLink RX5 38 "KnowledgeModelModel" "truths" "[I") (List.mem_of_getElem? (i := 2) rfl)) (fun _ h9 => h9) rfl dX5_truth_343 ?_
                    refine lv_iload_n hx hb dX5_truth_346 rfl (lv_at hl 3 rfl) ?_
                    refine lv_iload hx hb dX5_truth_347 (lv_at hl 7 rfl) ?_
                    refine lv_topi (fun x_1 hx_1 => ?_)
                    refine xiast (j := (40 * lv) + f) (q0 := 10) (t0 := 0) (ws' := rc cs b (wr M 10 ((40 * lv) + f) x_1)) hx hb hK1 hP (rD hI) hS rfl rfl (by omega) (by decide) rs_10 dX5_truth_349 (fun H locs hP hS => ?_)
                    obtain ⟨M_2, hM_2⟩ : ∃ z, z = wr M 10 ((40 * lv) + f) x_1 := ⟨_, rfl⟩
                    rw [← hM_2] at hP
                    have hk_3 : M_2 0 1 = nI n := by rw [hM_2]; exact (wr_ne (Or.inl (by omega))).trans hn
                    have hk_4 : M_2 0 3 = nI nf := by rw [hM_2]; exact (wr_ne (Or.inl (by omega))).trans hfc
                    refine lv_aload_n hx hb dX5_truth_350 rfl (lv_at hl 0 rfl) ?_
                    refine va_get (D := D) (ci := 5) (v := .ref (b 9)) (C := RX5) (T := TX5) (N := 15) hx hb hts hinX5 hown hK1 hP 0 rfl rfl 12 (by decide) (hts (.fieldLink RX5 34 "KnowledgeModelModel" "areKnown" "[Z") (List.mem_of_getElem? (i := 1) rfl)) (fun _ h9 => h9) rfl dX5_truth_351 ?_
                    refine lv_iload_n hx hb dX5_truth_354 rfl (lv_at hl 3 rfl) ?_
                    refine lv_iconst (v := (nI 1)) hx hb dX5_truth_355 (by decide) ?_
                    refine xzast (j := (40 * lv) + f) (q0 := 9) (t0 := 3) (ws' := rc cs b (wr M_2 9 ((40 * lv) + f) (nI 1))) hx hb hK1 hP (rD hI) hS rfl rfl (by omega) (by decide) (by decide) rs_9 dX5_truth_356 (fun H locs hP hS => ?_)
                    obtain ⟨M_5, hM_5⟩ : ∃ z, z = wr M_2 9 ((40 * lv) + f) (nI 1) := ⟨_, rfl⟩
                    rw [← hM_5] at hP
                    have hk_6 : M_5 0 1 = nI n := by rw [hM_5]; exact (wr_ne (Or.inl (by omega))).trans hk_3
                    have hk_7 : M_5 0 3 = nI nf := by rw [hM_5]; exact (wr_ne (Or.inl (by omega))).trans hk_4
                    refine lv_iload hx hb dX5_truth_357 (lv_at hl 7 rfl) ?_
                    subst hQ
                    have hrel : TR M0 M n nf kd p1 p2 sb ag lv mo M_5 := by first | exact TR_r hti | (simp only [fo_0, c13, c57, c87, c115, c164, c189, hx_1, hM_2, hM_5]; exact TR_w (TR_r hti) hf hval) | (simp only [fo_0, c13, c57, c87, c115, c164, c189, hx_1, hM_2, hM_5]; exact TR_w trivial hf hval) | (simp only [fo_0, c13, c57, c87, c115, c164, c189, hx_1, hM_2, hM_5]; exact TR_w (TR_t trivial trivial) hf hval) | (simp only [fo_0, c13, c57, c87, c115, c164, c189, hx_1, hM_2, hM_5]; exact TR_w (TR_b trivial hf40 (by simpa only [fo_0, c13, c57, c87, c115, c164, c189, hx_1, hM_2, hM_5] using trivial)) hf hval)
                    have hfin : (fo (fun w r => if bt mo w && bt (M0 1 w) (sb f) then r ||| sg w else r) (nI 0) j) = semR M0 n kd p1 p2 sb ag mo f := by first | exact hval | rfl
                    exact W.iret hx hb hr (fun t ht hW => ⟨⟨_, M_5, rfl, ⟨hfin, hrel⟩, by rw [← ht] at hP; exact hP⟩, hS.F ht⟩) hS.2.2 dX5_truth_359
                  ·
                    replace c189 : j < n := k_gef c189 (by omega) (by omega)
                    refine lv_iload hx hb dX5_truth_192 (lv_at hl 4 rfl) ?_
                    refine lv_iload hx hb dX5_truth_194 (lv_at hl 9 rfl) ?_
                    refine xcalli (va_runS (As := [.int mo, .int (nI j)]) (rest := []) ⟨hx, hb, hml, hown, hts⟩ (c_X5_has l mo j (by omega)) (va_cwS 2 hts gX5_truth_X5_has rfl rfl rfl (by decide +kernel) ⟨by dsimp only; omega, by dsimp only; omega⟩) xpreN rfl rfl hl.1 rfl (lv_room (Nat.le_of_ble_eq_true rfl)) dX5_truth_196 ⟨Nat.le_of_ble_eq_true rfl, Nat.le_of_ble_eq_true rfl⟩) hS hP (fun H locs hP hS => ?_)
                    refine lv_if_ne (tgt := 205) hx hb dX5_truth_199 (by decide) (fun c199 => ?_) (fun c199 => ?_)
                    ·
                      replace c199 := bI_n0 c199
                      refine lv_aload_n hx hb dX5_truth_205 rfl (lv_at hl 0 rfl) ?_
                      refine va_get (D := D) (ci := 5) (v := .ref (b 3)) (C := RX5) (T := TX5) (N := 15) hx hb hts hinX5 hown hK1 hP 0 rfl rfl 6 (by decide) (hts (.fieldLink RX5 16 "KnowledgeModelModel" "kinds" "[I") (List.mem_of_getElem? (i := 6) rfl)) (fun _ h9 => h9) rfl dX5_truth_206 ?_
                      refine lv_iload_n hx hb dX5_truth_209 rfl (lv_at hl 2 rfl) ?_
                      refine xiald (j := f) (q0 := 3) (t0 := 0) hx hb hK1 hP rfl rfl (by omega) (by decide) dX5_truth_210 ?_
                      refine xtop (y := (nI 0)) (by exact ((hag 3 f (by decide)).trans hk3).trans (congrArg nI hkd)) ?_
                      refine lv_iconst (v := (nI 3)) hx hb dX5_truth_211 (by decide) ?_
                      refine lv_icmp_ne (tgt := 231) hx hb dX5_truth_212 (by decide) (fun c212 => ?_) (fun c212 => ?_)
                      ·
                        replace c212 : ¬ 0 = 3 := k_net c212 (by omega) (by omega)
                        refine lv_aload_n hx hb dX5_truth_231 rfl (lv_at hl 0 rfl) ?_
                        refine va_get (D := D) (ci := 5) (v := .ref (b 3)) (C := RX5) (T := TX5) (N := 15) hx hb hts hinX5 hown hK1 hP 0 rfl rfl 6 (by decide) (hts (.fieldLink RX5 16 "KnowledgeModelModel" "kinds" "[I") (List.mem_of_getElem? (i := 6) rfl)) (fun _ h9 => h9) rfl dX5_truth_232 ?_
                        refine lv_iload_n hx hb dX5_truth_235 rfl (lv_at hl 2 rfl) ?_
                        refine xiald (j := f) (q0 := 3) (t0 := 0) hx hb hK1 hP rfl rfl (by omega) (by decide) dX5_truth_236 ?_
                        refine xtop (y := (nI 0)) (by exact ((hag 3 f (by decide)).trans hk3).trans (congrArg nI hkd)) ?_
                        refine lv_iconst (v := (nI 4)) hx hb dX5_truth_237 (by decide) ?_
                        refine lv_icmp_ne (tgt := 254) hx hb dX5_truth_238 (by decide) (fun c238 => ?_) (fun c238 => ?_)
                        ·
                          replace c238 : ¬ 0 = 4 := k_net c238 (by omega) (by omega)
                          refine lv_aload_n hx hb dX5_truth_254 rfl (lv_at hl 0 rfl) ?_
                          refine va_get (D := D) (ci := 5) (v := .ref (b 3)) (C := RX5) (T := TX5) (N := 15) hx hb hts hinX5 hown hK1 hP 0 rfl rfl 6 (by decide) (hts (.fieldLink RX5 16 "KnowledgeModelModel" "kinds" "[I") (List.mem_of_getElem? (i := 6) rfl)) (fun _ h9 => h9) rfl dX5_truth_255 ?_
                          refine lv_iload_n hx hb dX5_truth_258 rfl (lv_at hl 2 rfl) ?_
                          refine xiald (j := f) (q0 := 3) (t0 := 0) hx hb hK1 hP rfl rfl (by omega) (by decide) dX5_truth_259 ?_
                          refine xtop (y := (nI 0)) (by exact ((hag 3 f (by decide)).trans hk3).trans (congrArg nI hkd)) ?_
                          refine lv_iconst (v := (nI 5)) hx hb dX5_truth_260 (by decide) ?_
                          refine lv_icmp_ne (tgt := 275) hx hb dX5_truth_261 (by decide) (fun c261 => ?_) (fun c261 => ?_)
                          ·
                            replace c261 : ¬ 0 = 5 := k_net c261 (by omega) (by omega)
                            refine lv_iconst (v := (nI 0)) hx hb dX5_truth_275 (by decide) ?_
                            refine lv_istore (lv' := [(10, .int (nI 0)), (0, .ref (b 0)), (1, .int (nI lv)), (2, .int (nI f)), (3, .int (nI ((40 * lv) + f))), (4, .int mo), (5, .int (nI (sb f))), (6, .int (M0 5 f)), (7, .int (fo (fun w r => if bt mo w && bt (M0 1 w) (sb f) then r ||| sg w else r) (nI 0) j)), (8, .int (nI 0)), (9, .int (nI j))]) hx hb dX5_truth_276 hl (by decide) rfl (fun ls hl => ?_)
                            refine lv_aload_n hx hb dX5_truth_278 rfl (lv_at hl 1 rfl) ?_
                            refine va_get (D := D) (ci := 5) (v := .ref (b 3)) (C := RX5) (T := TX5) (N := 15) hx hb hts hinX5 hown hK1 hP 0 rfl rfl 6 (by decide) (hts (.fieldLink RX5 16 "KnowledgeModelModel" "kinds" "[I") (List.mem_of_getElem? (i := 6) rfl)) (fun _ h9 => h9) rfl dX5_truth_279 ?_
                            refine lv_iload_n hx hb dX5_truth_282 rfl (lv_at hl 3 rfl) ?_
                            refine xiald (j := f) (q0 := 3) (t0 := 0) hx hb hK1 hP rfl rfl (by omega) (by decide) dX5_truth_283 ?_
                            refine xtop (y := (nI 0)) (by exact ((hag 3 f (by decide)).trans hk3).trans (congrArg nI hkd)) ?_
                            refine lv_if_ne (tgt := 302) hx hb dX5_truth_284 (by decide) (fun c284 => ?_) (fun c284 => ?_)
                            ·
                              replace c284 : ¬ 0 = 0 := k0_net c284 (by omega)
                              exfalso; omega
                            ·
                              replace c284 : 0 = 0 := k0_nef c284 (by omega)
                              refine lv_aload_n hx hb dX5_truth_287 rfl (lv_at hl 1 rfl) ?_
                              refine va_get (D := D) (ci := 5) (v := .ref (b 1)) (C := RX5) (T := TX5) (N := 15) hx hb hts hinX5 hown hK1 hP 0 rfl rfl 3 (by decide) (hts (.fieldLink RX5 9 "KnowledgeModelModel" "atoms" "[I") (List.mem_of_getElem? (i := 9) rfl)) (fun _ h9 => h9) rfl dX5_truth_288 ?_
                              refine lv_iload hx hb dX5_truth_291 (lv_at hl 10 rfl) ?_
                              refine xiald (j := j) (q0 := 1) (t0 := 0) hx hb hK1 hP rfl rfl (by omega) (by decide) dX5_truth_293 ?_
                              refine xtop (y := (M0 1 j)) (by exact hag 1 _ (by decide)) ?_
                              refine lv_iload hx hb dX5_truth_294 (lv_at hl 6 rfl) ?_
                              refine xcalli (va_runS (As := [.int (M0 1 j), .int (nI (sb f))]) (rest := []) ⟨hx, hb, hml, hown, hts⟩ (c_X5_has l (M0 1 j) (sb f) (by omega)) (va_cwS 2 hts gX5_truth_X5_has rfl rfl rfl (by decide +kernel) ⟨by dsimp only; omega, by dsimp only; omega⟩) xpreN rfl rfl hl.1 rfl (lv_room (Nat.le_of_ble_eq_true rfl)) dX5_truth_296 ⟨Nat.le_of_ble_eq_true rfl, Nat.le_of_ble_eq_true rfl⟩) hS hP (fun H locs hP hS => ?_)
                              refine lv_goto (tgt := 320) hx hb dX5_truth_299 (by decide) ?_
                              refine lv_istore (lv' := [(11, .int (bI (bt (M0 1 j) (sb f)))), (10, .int (nI 0)), (0, .ref (b 0)), (1, .int (nI lv)), (2, .int (nI f)), (3, .int (nI ((40 * lv) + f))), (4, .int mo), (5, .int (nI (sb f))), (6, .int (M0 5 f)), (7, .int (fo (fun w r => if bt mo w && bt (M0 1 w) (sb f) then r ||| sg w else r) (nI 0) j)), (8, .int (nI 0)), (9, .int (nI j))]) hx hb dX5_truth_320 hl (by decide) rfl (fun ls hl => ?_)
                              refine lv_iload hx hb dX5_truth_322 (lv_at hl 0 rfl) ?_
                              refine lv_if_eq (tgt := 336) hx hb dX5_truth_324 (by decide) (fun c324 => ?_) (fun c324 => ?_)
                              ·
                                replace c324 := bI_0 c324
                                refine lv_iinc (v := (nI (j + 1))) (lv' := [(9, .int (nI (j + 1))), (11, .int (bI (bt (M0 1 j) (sb f)))), (10, .int (nI 0)), (0, .ref (b 0)), (1, .int (nI lv)), (2, .int (nI f)), (3, .int (nI ((40 * lv) + f))), (4, .int mo), (5, .int (nI (sb f))), (6, .int (M0 5 f)), (7, .int (fo (fun w r => if bt mo w && bt (M0 1 w) (sb f) then r ||| sg w else r) (nI 0) j)), (8, .int (nI 0))]) hx hb dX5_truth_336 hl (k := 11) rfl (nI_add j 1) (by decide) rfl (fun ls hl => ?_)
                                refine lv_goto (tgt := 183) hx hb dX5_truth_339 (by decide) ?_
                                have e_8 : (fo (fun w r => if bt mo w && bt (M0 1 w) (sb f) then r ||| sg w else r) (nI 0) j) = (fo (fun w r => if bt mo w && bt (M0 1 w) (sb f) then r ||| sg w else r) (nI 0) (j + 1)) := by first | (rw [fo_s, if_neg (by rw [c199]; exact Bool.false_ne_true)]; done) | (rw [fo_s, if_pos (by rw [c199, c324]; rfl)]; assumption) | (rw [fo_s, if_neg (by rw [c199, c324]; exact Bool.false_ne_true)]; done)
                                exact cut183 (j + 1) (by omega) (by omega) _ _ hP hS ls (lcons (lcons (lcons (lcons (lcons (lcons (lcons (lcons (lcons (lcons (lzero hl) hl 0 rfl rfl) hl 11 rfl rfl) hl 10 rfl (congrArg Value.int e_8)) hl 9 rfl rfl) hl 8 rfl rfl) hl 7 rfl rfl) hl 6 rfl rfl) hl 5 rfl rfl) hl 4 rfl rfl) hl 3 rfl rfl)
                              ·
                                replace c324 := bI_n0 c324
                                refine lv_iload hx hb dX5_truth_327 (lv_at hl 9 rfl) ?_
                                refine lv_iconst (v := (nI 1)) hx hb dX5_truth_329 (by decide) ?_
                                refine lv_iload hx hb dX5_truth_330 (lv_at hl 11 rfl) ?_
                                refine lv_ishl hx hb dX5_truth_332 ?_
                                refine lv_ior hx hb dX5_truth_333 ?_
                                refine lv_topi (fun x_9 hx_9 => ?_)
                                refine lv_istore (lv' := [(7, .int x_9), (11, .int (bI (bt (M0 1 j) (sb f)))), (10, .int (nI 0)), (0, .ref (b 0)), (1, .int (nI lv)), (2, .int (nI f)), (3, .int (nI ((40 * lv) + f))), (4, .int mo), (5, .int (nI (sb f))), (6, .int (M0 5 f)), (8, .int (nI 0)), (9, .int (nI j))]) hx hb dX5_truth_334 hl (by decide) rfl (fun ls hl => ?_)
                                refine lv_iinc (v := (nI (j + 1))) (lv' := [(9, .int (nI (j + 1))), (7, .int x_9), (11, .int (bI (bt (M0 1 j) (sb f)))), (10, .int (nI 0)), (0, .ref (b 0)), (1, .int (nI lv)), (2, .int (nI f)), (3, .int (nI ((40 * lv) + f))), (4, .int mo), (5, .int (nI (sb f))), (6, .int (M0 5 f)), (8, .int (nI 0))]) hx hb dX5_truth_336 hl (k := 11) rfl (nI_add j 1) (by decide) rfl (fun ls hl => ?_)
                                refine lv_goto (tgt := 183) hx hb dX5_truth_339 (by decide) ?_
                                have e_10 : x_9 = (fo (fun w r => if bt mo w && bt (M0 1 w) (sb f) then r ||| sg w else r) (nI 0) (j + 1)) := by first | (rw [fo_s, if_neg (by rw [c199]; exact Bool.false_ne_true)]; done) | (rw [fo_s, if_pos (by rw [c199, c324]; rfl)]; assumption) | (rw [fo_s, if_neg (by rw [c199, c324]; exact Bool.false_ne_true)]; done)
                                exact cut183 (j + 1) (by omega) (by omega) _ _ hP hS ls (lcons (lcons (lcons (lcons (lcons (lcons (lcons (lcons (lcons (lcons (lzero hl) hl 0 rfl rfl) hl 11 rfl rfl) hl 1 rfl (congrArg Value.int e_10)) hl 10 rfl rfl) hl 9 rfl rfl) hl 8 rfl rfl) hl 7 rfl rfl) hl 6 rfl rfl) hl 5 rfl rfl) hl 4 rfl rfl)
                          ·
                            replace c261 : 0 = 5 := k_nef c261 (by omega) (by omega)
                            exfalso; omega
                        ·
                          replace c238 : 0 = 4 := k_nef c238 (by omega) (by omega)
                          exfalso; omega
                      ·
                        replace c212 : 0 = 3 := k_nef c212 (by omega) (by omega)
                        exfalso; omega
                    ·
                      replace c199 := bI_0 c199
                      refine lv_goto (tgt := 336) hx hb dX5_truth_202 (by decide) ?_
                      refine lv_iinc (v := (nI (j + 1))) (lv' := [(9, .int (nI (j + 1))), (0, .ref (b 0)), (1, .int (nI lv)), (2, .int (nI f)), (3, .int (nI ((40 * lv) + f))), (4, .int mo), (5, .int (nI (sb f))), (6, .int (M0 5 f)), (7, .int (fo (fun w r => if bt mo w && bt (M0 1 w) (sb f) then r ||| sg w else r) (nI 0) j)), (8, .int (nI 0))]) hx hb dX5_truth_336 hl (k := 9) rfl (nI_add j 1) (by decide) rfl (fun ls hl => ?_)
                      refine lv_goto (tgt := 183) hx hb dX5_truth_339 (by decide) ?_
                      have e_11 : (fo (fun w r => if bt mo w && bt (M0 1 w) (sb f) then r ||| sg w else r) (nI 0) j) = (fo (fun w r => if bt mo w && bt (M0 1 w) (sb f) then r ||| sg w else r) (nI 0) (j + 1)) := by first | (rw [fo_s, if_neg (by rw [c199]; exact Bool.false_ne_true)]; done) | (rw [fo_s, if_pos (by rw [c199, c324]; rfl)]; assumption) | (rw [fo_s, if_neg (by rw [c199, c324]; exact Bool.false_ne_true)]; done)
                      exact cut183 (j + 1) (by omega) (by omega) _ _ hP hS ls (lcons (lcons (lcons (lcons (lcons (lcons (lcons (lcons (lcons (lcons (lzero hl) hl 0 rfl rfl) hl 9 rfl rfl) hl 8 rfl (congrArg Value.int e_11)) hl 7 rfl rfl) hl 6 rfl rfl) hl 5 rfl rfl) hl 4 rfl rfl) hl 3 rfl rfl) hl 2 rfl rfl) hl 1 rfl rfl)
              have e_12 : (nI 0) = (fo (fun w r => if bt mo w && bt (M0 1 w) (sb f) then r ||| sg w else r) (nI 0) 0) := by rfl
              exact cut183 (n + 1) 0 (by omega) (by omega) _ _ hP hS ls (lcons (lcons (lcons (lcons (lcons (lcons (lcons (lcons (lcons (lcons (lzero hl) hl 0 rfl rfl) hl 1 rfl rfl) hl 2 rfl (congrArg Value.int e_12)) hl 3 rfl rfl) hl 4 rfl rfl) hl 5 rfl rfl) hl 6 rfl rfl) hl 9 rfl rfl) hl 8 rfl rfl) hl 7 rfl rfl)
          ·
            replace c115 : 0 = 6 := k_nef c115 (by omega) (by omega)
            exfalso; omega
        ·
          replace c87 : 0 = 1 := k_nef c87 (by omega) (by omega)
          exfalso; omega
      ·
        replace c57 : 0 = 2 := k_nef c57 (by omega) (by omega)
        exfalso; omega
    ·
      refine lv_aload_n hx hb dX5_truth_16 rfl (lv_at hl 1 rfl) ?_
      refine va_get (D := D) (ci := 5) (v := .ref (b 10)) (C := RX5) (T := TX5) (N := 15) hx hb hts hinX5 hown hK1 hP 0 rfl rfl 13 (by decide) (hts (.fieldLink RX5 38 "KnowledgeModelModel" "truths" "[I") (List.mem_of_getElem? (i := 2) rfl)) (fun _ h9 => h9) rfl dX5_truth_17 ?_
      refine lv_iload_n hx hb dX5_truth_20 rfl (lv_at hl 0 rfl) ?_
      refine xiald (j := (40 * lv) + f) (q0 := 10) (t0 := 0) hx hb hK1 hP rfl rfl (by omega) (by decide) dX5_truth_21 ?_
      refine xtop (y := (semR M0 n kd p1 p2 sb ag mo f)) (by exact ((hti.2 f hf).resolve_left c13).2) ?_
      subst hQ
      have hrel : TR M0 M n nf kd p1 p2 sb ag lv mo M := by first | exact TR_r hti | (simp only [fo_0, c13]; exact TR_w (TR_r hti) hf hval) | (simp only [fo_0, c13]; exact TR_w trivial hf hval) | (simp only [fo_0, c13]; exact TR_w (TR_t trivial trivial) hf hval) | (simp only [fo_0, c13]; exact TR_w (TR_b trivial hf40 (by simpa only [fo_0, c13] using trivial)) hf hval)
      have hfin : (semR M0 n kd p1 p2 sb ag mo f) = semR M0 n kd p1 p2 sb ag mo f := by first | exact hval | rfl
      exact W.iret hx hb hr (fun t ht hW => ⟨⟨_, M, rfl, ⟨hfin, hrel⟩, by rw [← ht] at hP; exact hP⟩, hS.F ht⟩) hS.2.2 dX5_truth_22
  ·
    have hq1 := hL.1 (by omega)
    have hz1 := hE1 (by omega)
    have hB1 := hB (by omega)
    refine lv_bipush (v := (nI 40)) hx hb dX5_truth_0 (by decide) ?_
    refine lv_iload_n hx hb dX5_truth_2 rfl (lv_at hl 1 rfl) ?_
    refine ximul hx hb dX5_truth_3 ?_
    refine lv_iload_n hx hb dX5_truth_4 rfl (lv_at hl 2 rfl) ?_
    refine xiadd hx hb dX5_truth_5 ?_
    refine lv_istore_n (lv' := [(3, .int (nI ((40 * lv) + f))), (0, .ref (b 0)), (1, .int (nI lv)), (2, .int (nI f))]) hx hb dX5_truth_6 rfl hl (by decide) rfl (fun ls hl => ?_)
    refine lv_aload_n hx hb dX5_truth_7 rfl (lv_at hl 1 rfl) ?_
    refine va_get (D := D) (ci := 5) (v := .ref (b 9)) (C := RX5) (T := TX5) (N := 15) hx hb hts hinX5 hown hK1 hP 0 rfl rfl 12 (by decide) (hts (.fieldLink RX5 34 "KnowledgeModelModel" "areKnown" "[Z") (List.mem_of_getElem? (i := 1) rfl)) (fun _ h9 => h9) rfl dX5_truth_8 ?_
    refine lv_iload_n hx hb dX5_truth_11 rfl (lv_at hl 0 rfl) ?_
    refine xzald (j := (40 * lv) + f) (q0 := 9) (t0 := 3) hx hb hK1 hP rfl rfl (by omega) (by decide) dX5_truth_12 ?_
    refine lv_if_eq (tgt := 23) hx hb dX5_truth_13 (by decide) (fun c13 => ?_) (fun c13 => ?_)
    ·
      refine lv_aload_n hx hb dX5_truth_23 rfl (lv_at hl 1 rfl) ?_
      refine va_get (D := D) (ci := 5) (v := .ref (b 8)) (C := RX5) (T := TX5) (N := 15) hx hb hts hinX5 hown hK1 hP 0 rfl rfl 11 (by decide) (hts (.fieldLink RX5 31 "KnowledgeModelModel" "lefts" "[I") (List.mem_of_getElem? (i := 3) rfl)) (fun _ h9 => h9) rfl dX5_truth_24 ?_
      refine lv_iload_n hx hb dX5_truth_27 rfl (lv_at hl 2 rfl) ?_
      refine xiald (j := lv) (q0 := 8) (t0 := 0) hx hb hK1 hP rfl rfl (by omega) (by decide) dX5_truth_28 ?_
      refine xtop (y := mo) (by exact hti.1) ?_
      refine lv_istore (lv' := [(4, .int mo), (3, .int (nI ((40 * lv) + f))), (0, .ref (b 0)), (1, .int (nI lv)), (2, .int (nI f))]) hx hb dX5_truth_29 hl (by decide) rfl (fun ls hl => ?_)
      refine lv_aload_n hx hb dX5_truth_31 rfl (lv_at hl 2 rfl) ?_
      refine va_get (D := D) (ci := 5) (v := .ref (b 4)) (C := RX5) (T := TX5) (N := 15) hx hb hts hinX5 hown hK1 hP 0 rfl rfl 7 (by decide) (hts (.fieldLink RX5 19 "KnowledgeModelModel" "firsts" "[I") (List.mem_of_getElem? (i := 4) rfl)) (fun _ h9 => h9) rfl dX5_truth_32 ?_
      refine lv_iload_n hx hb dX5_truth_35 rfl (lv_at hl 4 rfl) ?_
      refine xiald (j := f) (q0 := 4) (t0 := 0) hx hb hK1 hP rfl rfl (by omega) (by decide) dX5_truth_36 ?_
      refine xtop (y := (M0 4 f)) (by exact hag 4 f (by decide)) ?_
      refine lv_istore (lv' := [(5, .int (M0 4 f)), (4, .int mo), (3, .int (nI ((40 * lv) + f))), (0, .ref (b 0)), (1, .int (nI lv)), (2, .int (nI f))]) hx hb dX5_truth_37 hl (by decide) rfl (fun ls hl => ?_)
      refine lv_aload_n hx hb dX5_truth_39 rfl (lv_at hl 3 rfl) ?_
      refine va_get (D := D) (ci := 5) (v := .ref (b 5)) (C := RX5) (T := TX5) (N := 15) hx hb hts hinX5 hown hK1 hP 0 rfl rfl 8 (by decide) (hts (.fieldLink RX5 22 "KnowledgeModelModel" "seconds" "[I") (List.mem_of_getElem? (i := 5) rfl)) (fun _ h9 => h9) rfl dX5_truth_40 ?_
      refine lv_iload_n hx hb dX5_truth_43 rfl (lv_at hl 5 rfl) ?_
      refine xiald (j := f) (q0 := 5) (t0 := 0) hx hb hK1 hP rfl rfl (by omega) (by decide) dX5_truth_44 ?_
      refine xtop (y := (nI (p1 f))) (by exact (hag 5 f (by decide)).trans hB1) ?_
      refine lv_istore (lv' := [(6, .int (nI (p1 f))), (5, .int (M0 4 f)), (4, .int mo), (3, .int (nI ((40 * lv) + f))), (0, .ref (b 0)), (1, .int (nI lv)), (2, .int (nI f))]) hx hb dX5_truth_45 hl (by decide) rfl (fun ls hl => ?_)
      refine lv_iconst (v := (nI 0)) hx hb dX5_truth_47 (by decide) ?_
      refine lv_istore (lv' := [(7, .int (nI 0)), (6, .int (nI (p1 f))), (5, .int (M0 4 f)), (4, .int mo), (3, .int (nI ((40 * lv) + f))), (0, .ref (b 0)), (1, .int (nI lv)), (2, .int (nI f))]) hx hb dX5_truth_48 hl (by decide) rfl (fun ls hl => ?_)
      refine lv_aload_n hx hb dX5_truth_50 rfl (lv_at hl 5 rfl) ?_
      refine va_get (D := D) (ci := 5) (v := .ref (b 3)) (C := RX5) (T := TX5) (N := 15) hx hb hts hinX5 hown hK1 hP 0 rfl rfl 6 (by decide) (hts (.fieldLink RX5 16 "KnowledgeModelModel" "kinds" "[I") (List.mem_of_getElem? (i := 6) rfl)) (fun _ h9 => h9) rfl dX5_truth_51 ?_
      refine lv_iload_n hx hb dX5_truth_54 rfl (lv_at hl 7 rfl) ?_
      refine xiald (j := f) (q0 := 3) (t0 := 0) hx hb hK1 hP rfl rfl (by omega) (by decide) dX5_truth_55 ?_
      refine xtop (y := (nI 1)) (by exact ((hag 3 f (by decide)).trans hk3).trans (congrArg nI hkd)) ?_
      refine lv_iconst (v := (nI 2)) hx hb dX5_truth_56 (by decide) ?_
      refine lv_icmp_ne (tgt := 80) hx hb dX5_truth_57 (by decide) (fun c57 => ?_) (fun c57 => ?_)
      ·
        replace c57 : ¬ 1 = 2 := k_net c57 (by omega) (by omega)
        refine lv_aload_n hx hb dX5_truth_80 rfl (lv_at hl 5 rfl) ?_
        refine va_get (D := D) (ci := 5) (v := .ref (b 3)) (C := RX5) (T := TX5) (N := 15) hx hb hts hinX5 hown hK1 hP 0 rfl rfl 6 (by decide) (hts (.fieldLink RX5 16 "KnowledgeModelModel" "kinds" "[I") (List.mem_of_getElem? (i := 6) rfl)) (fun _ h9 => h9) rfl dX5_truth_81 ?_
        refine lv_iload_n hx hb dX5_truth_84 rfl (lv_at hl 7 rfl) ?_
        refine xiald (j := f) (q0 := 3) (t0 := 0) hx hb hK1 hP rfl rfl (by omega) (by decide) dX5_truth_85 ?_
        refine xtop (y := (nI 1)) (by exact ((hag 3 f (by decide)).trans hk3).trans (congrArg nI hkd)) ?_
        refine lv_iconst (v := (nI 1)) hx hb dX5_truth_86 (by decide) ?_
        refine lv_icmp_ne (tgt := 107) hx hb dX5_truth_87 (by decide) (fun c87 => ?_) (fun c87 => ?_)
        ·
          replace c87 : ¬ 1 = 1 := k_net c87 (by omega) (by omega)
          exfalso; omega
        ·
          replace c87 : 1 = 1 := k_nef c87 (by omega) (by omega)
          refine lv_iload hx hb dX5_truth_90 (lv_at hl 3 rfl) ?_
          refine lv_aload_n hx hb dX5_truth_92 rfl (lv_at hl 5 rfl) ?_
          refine lv_iload_n hx hb dX5_truth_93 rfl (lv_at hl 6 rfl) ?_
          refine lv_iload hx hb dX5_truth_94 (lv_at hl 1 rfl) ?_
          refine xcallwi (va_runV (As := [.int (nI lv), .int (nI (p1 f))]) (rest := [.int mo]) ⟨hx, hb, hml, hown, hts⟩ (ih (p1 f) (by omega) M _ lv mo hag hlv (by omega) (by omega) hti) (cwV 2 hts gX5_truth_X5_truth rfl rfl rfl (by decide +kernel) ⟨by dsimp only; omega, by dsimp only; omega⟩) (xpreVs hP hK (ci := 5) 0 rfl rfl) rfl rfl hl.1 rfl (lv_room (Nat.le_of_ble_eq_true rfl)) dX5_truth_96 ⟨Nat.le_of_ble_eq_true rfl, Nat.le_of_ble_eq_true rfl⟩) hS (kAle hS.1) (fun u_13 H locs hu_13 hP _ _ hS => ?_)
          have hP : va_P D vwCl (rc cs b u_13) H := hP
          have hk_14 : u_13 0 1 = nI n := by rw [hu_13.1 0 1 (by decide)]; exact hn
          have hk_15 : u_13 0 3 = nI nf := by rw [hu_13.1 0 3 (by decide)]; exact hfc
          refine lv_iconst (v := (-1 : Int32)) hx hb dX5_truth_99 (by decide) ?_
          refine lv_ixor hx hb dX5_truth_100 ?_
          refine lv_iand hx hb dX5_truth_101 ?_
          refine lv_istore (lv' := [(7, .int (mo &&& ((semR M0 n kd p1 p2 sb ag mo (p1 f)) ^^^ (-1 : Int32)))), (6, .int (nI (p1 f))), (5, .int (M0 4 f)), (4, .int mo), (3, .int (nI ((40 * lv) + f))), (0, .ref (b 0)), (1, .int (nI lv)), (2, .int (nI f))]) hx hb dX5_truth_102 hl (by decide) rfl (fun ls hl => ?_)
          refine lv_goto (tgt := 342) hx hb dX5_truth_104 (by decide) ?_
          have hval : (mo &&& ((semR M0 n kd p1 p2 sb ag mo (p1 f)) ^^^ (-1 : Int32))) = semR M0 n kd p1 p2 sb ag mo f := by rw [semR_eq hwp hf]; simp only [askR, hkd, if_true, if_false, show (1 : Nat) ≠ 0 by decide, show (2 : Nat) ≠ 0 by decide, show (2 : Nat) ≠ 1 by decide, show (3 : Nat) ≠ 0 by decide, show (3 : Nat) ≠ 1 by decide, show (3 : Nat) ≠ 2 by decide, show (3 : Nat) ≠ 6 by decide, show (4 : Nat) ≠ 0 by decide, show (4 : Nat) ≠ 1 by decide, show (4 : Nat) ≠ 2 by decide, show (4 : Nat) ≠ 3 by decide, show (4 : Nat) ≠ 6 by decide, show (5 : Nat) ≠ 0 by decide, show (5 : Nat) ≠ 1 by decide, show (5 : Nat) ≠ 2 by decide, show (5 : Nat) ≠ 3 by decide, show (5 : Nat) ≠ 4 by decide, show (5 : Nat) ≠ 6 by decide, show (6 : Nat) ≠ 0 by decide, show (6 : Nat) ≠ 1 by decide, show (6 : Nat) ≠ 2 by decide]
          refine lv_aload_n hx hb dX5_truth_342 rfl (lv_at hl 5 rfl) ?_
          refine va_get (D := D) (ci := 5) (v := .ref (b 10)) (C := RX5) (T := TX5) (N := 15) hx hb hts hinX5 hown hK1 hP 0 rfl rfl 13 (by decide) (hts (.fieldLink RX5 38 "KnowledgeModelModel" "truths" "[I") (List.mem_of_getElem? (i := 2) rfl)) (fun _ h9 => h9) rfl dX5_truth_343 ?_
          refine lv_iload_n hx hb dX5_truth_346 rfl (lv_at hl 4 rfl) ?_
          refine lv_iload hx hb dX5_truth_347 (lv_at hl 0 rfl) ?_
          refine lv_topi (fun x_16 hx_16 => ?_)
          refine xiast (j := (40 * lv) + f) (q0 := 10) (t0 := 0) (ws' := rc cs b (wr u_13 10 ((40 * lv) + f) x_16)) hx hb hK1 hP (rD hI) hS rfl rfl (by omega) (by decide) rs_10 dX5_truth_349 (fun H locs hP hS => ?_)
          obtain ⟨M_17, hM_17⟩ : ∃ z, z = wr u_13 10 ((40 * lv) + f) x_16 := ⟨_, rfl⟩
          rw [← hM_17] at hP
          have hk_18 : M_17 0 1 = nI n := by rw [hM_17]; exact (wr_ne (Or.inl (by omega))).trans hk_14
          have hk_19 : M_17 0 3 = nI nf := by rw [hM_17]; exact (wr_ne (Or.inl (by omega))).trans hk_15
          refine lv_aload_n hx hb dX5_truth_350 rfl (lv_at hl 5 rfl) ?_
          refine va_get (D := D) (ci := 5) (v := .ref (b 9)) (C := RX5) (T := TX5) (N := 15) hx hb hts hinX5 hown hK1 hP 0 rfl rfl 12 (by decide) (hts (.fieldLink RX5 34 "KnowledgeModelModel" "areKnown" "[Z") (List.mem_of_getElem? (i := 1) rfl)) (fun _ h9 => h9) rfl dX5_truth_351 ?_
          refine lv_iload_n hx hb dX5_truth_354 rfl (lv_at hl 4 rfl) ?_
          refine lv_iconst (v := (nI 1)) hx hb dX5_truth_355 (by decide) ?_
          refine xzast (j := (40 * lv) + f) (q0 := 9) (t0 := 3) (ws' := rc cs b (wr M_17 9 ((40 * lv) + f) (nI 1))) hx hb hK1 hP (rD hI) hS rfl rfl (by omega) (by decide) (by decide) rs_9 dX5_truth_356 (fun H locs hP hS => ?_)
          obtain ⟨M_20, hM_20⟩ : ∃ z, z = wr M_17 9 ((40 * lv) + f) (nI 1) := ⟨_, rfl⟩
          rw [← hM_20] at hP
          have hk_21 : M_20 0 1 = nI n := by rw [hM_20]; exact (wr_ne (Or.inl (by omega))).trans hk_18
          have hk_22 : M_20 0 3 = nI nf := by rw [hM_20]; exact (wr_ne (Or.inl (by omega))).trans hk_19
          refine lv_iload hx hb dX5_truth_357 (lv_at hl 0 rfl) ?_
          subst hQ
          have hrel : TR M0 M n nf kd p1 p2 sb ag lv mo M_20 := by first | exact TR_r hti | (simp only [fo_0, c13, c57, c87, hx_16, hM_17, hM_20]; exact TR_w (TR_r hti) hf hval) | (simp only [fo_0, c13, c57, c87, hx_16, hM_17, hM_20]; exact TR_w hu_13 hf hval) | (simp only [fo_0, c13, c57, c87, hx_16, hM_17, hM_20]; exact TR_w (TR_t hu_13 hu_13) hf hval) | (simp only [fo_0, c13, c57, c87, hx_16, hM_17, hM_20]; exact TR_w (TR_b hu_13 hf40 (by simpa only [fo_0, c13, c57, c87, hx_16, hM_17, hM_20] using hu_13)) hf hval)
          have hfin : (mo &&& ((semR M0 n kd p1 p2 sb ag mo (p1 f)) ^^^ (-1 : Int32))) = semR M0 n kd p1 p2 sb ag mo f := by first | exact hval | rfl
          exact W.iret hx hb hr (fun t ht hW => ⟨⟨_, M_20, rfl, ⟨hfin, hrel⟩, by rw [← ht] at hP; exact hP⟩, hS.F ht⟩) hS.2.2 dX5_truth_359
      ·
        replace c57 : 1 = 2 := k_nef c57 (by omega) (by omega)
        exfalso; omega
    ·
      refine lv_aload_n hx hb dX5_truth_16 rfl (lv_at hl 1 rfl) ?_
      refine va_get (D := D) (ci := 5) (v := .ref (b 10)) (C := RX5) (T := TX5) (N := 15) hx hb hts hinX5 hown hK1 hP 0 rfl rfl 13 (by decide) (hts (.fieldLink RX5 38 "KnowledgeModelModel" "truths" "[I") (List.mem_of_getElem? (i := 2) rfl)) (fun _ h9 => h9) rfl dX5_truth_17 ?_
      refine lv_iload_n hx hb dX5_truth_20 rfl (lv_at hl 0 rfl) ?_
      refine xiald (j := (40 * lv) + f) (q0 := 10) (t0 := 0) hx hb hK1 hP rfl rfl (by omega) (by decide) dX5_truth_21 ?_
      refine xtop (y := (semR M0 n kd p1 p2 sb ag mo f)) (by exact ((hti.2 f hf).resolve_left c13).2) ?_
      subst hQ
      have hrel : TR M0 M n nf kd p1 p2 sb ag lv mo M := by first | exact TR_r hti | (simp only [fo_0, c13]; exact TR_w (TR_r hti) hf hval) | (simp only [fo_0, c13]; exact TR_w trivial hf hval) | (simp only [fo_0, c13]; exact TR_w (TR_t trivial trivial) hf hval) | (simp only [fo_0, c13]; exact TR_w (TR_b trivial hf40 (by simpa only [fo_0, c13] using trivial)) hf hval)
      have hfin : (semR M0 n kd p1 p2 sb ag mo f) = semR M0 n kd p1 p2 sb ag mo f := by first | exact hval | rfl
      exact W.iret hx hb hr (fun t ht hW => ⟨⟨_, M, rfl, ⟨hfin, hrel⟩, by rw [← ht] at hP; exact hP⟩, hS.F ht⟩) hS.2.2 dX5_truth_22
  ·
    have hq1 := hL.1 (by omega)
    have hz1 := hE1 (by omega)
    obtain ⟨hC1, hC2⟩ := hC (by omega)
    have hq2 := hL.2 (by omega)
    have hz2 := hE2 hkd
    refine lv_bipush (v := (nI 40)) hx hb dX5_truth_0 (by decide) ?_
    refine lv_iload_n hx hb dX5_truth_2 rfl (lv_at hl 1 rfl) ?_
    refine ximul hx hb dX5_truth_3 ?_
    refine lv_iload_n hx hb dX5_truth_4 rfl (lv_at hl 2 rfl) ?_
    refine xiadd hx hb dX5_truth_5 ?_
    refine lv_istore_n (lv' := [(3, .int (nI ((40 * lv) + f))), (0, .ref (b 0)), (1, .int (nI lv)), (2, .int (nI f))]) hx hb dX5_truth_6 rfl hl (by decide) rfl (fun ls hl => ?_)
    refine lv_aload_n hx hb dX5_truth_7 rfl (lv_at hl 1 rfl) ?_
    refine va_get (D := D) (ci := 5) (v := .ref (b 9)) (C := RX5) (T := TX5) (N := 15) hx hb hts hinX5 hown hK1 hP 0 rfl rfl 12 (by decide) (hts (.fieldLink RX5 34 "KnowledgeModelModel" "areKnown" "[Z") (List.mem_of_getElem? (i := 1) rfl)) (fun _ h9 => h9) rfl dX5_truth_8 ?_
    refine lv_iload_n hx hb dX5_truth_11 rfl (lv_at hl 0 rfl) ?_
    refine xzald (j := (40 * lv) + f) (q0 := 9) (t0 := 3) hx hb hK1 hP rfl rfl (by omega) (by decide) dX5_truth_12 ?_
    refine lv_if_eq (tgt := 23) hx hb dX5_truth_13 (by decide) (fun c13 => ?_) (fun c13 => ?_)
    ·
      refine lv_aload_n hx hb dX5_truth_23 rfl (lv_at hl 1 rfl) ?_
      refine va_get (D := D) (ci := 5) (v := .ref (b 8)) (C := RX5) (T := TX5) (N := 15) hx hb hts hinX5 hown hK1 hP 0 rfl rfl 11 (by decide) (hts (.fieldLink RX5 31 "KnowledgeModelModel" "lefts" "[I") (List.mem_of_getElem? (i := 3) rfl)) (fun _ h9 => h9) rfl dX5_truth_24 ?_
      refine lv_iload_n hx hb dX5_truth_27 rfl (lv_at hl 2 rfl) ?_
      refine xiald (j := lv) (q0 := 8) (t0 := 0) hx hb hK1 hP rfl rfl (by omega) (by decide) dX5_truth_28 ?_
      refine xtop (y := mo) (by exact hti.1) ?_
      refine lv_istore (lv' := [(4, .int mo), (3, .int (nI ((40 * lv) + f))), (0, .ref (b 0)), (1, .int (nI lv)), (2, .int (nI f))]) hx hb dX5_truth_29 hl (by decide) rfl (fun ls hl => ?_)
      refine lv_aload_n hx hb dX5_truth_31 rfl (lv_at hl 2 rfl) ?_
      refine va_get (D := D) (ci := 5) (v := .ref (b 4)) (C := RX5) (T := TX5) (N := 15) hx hb hts hinX5 hown hK1 hP 0 rfl rfl 7 (by decide) (hts (.fieldLink RX5 19 "KnowledgeModelModel" "firsts" "[I") (List.mem_of_getElem? (i := 4) rfl)) (fun _ h9 => h9) rfl dX5_truth_32 ?_
      refine lv_iload_n hx hb dX5_truth_35 rfl (lv_at hl 4 rfl) ?_
      refine xiald (j := f) (q0 := 4) (t0 := 0) hx hb hK1 hP rfl rfl (by omega) (by decide) dX5_truth_36 ?_
      refine xtop (y := (nI (p1 f))) (by exact (hag 4 f (by decide)).trans hC1) ?_
      refine lv_istore (lv' := [(5, .int (nI (p1 f))), (4, .int mo), (3, .int (nI ((40 * lv) + f))), (0, .ref (b 0)), (1, .int (nI lv)), (2, .int (nI f))]) hx hb dX5_truth_37 hl (by decide) rfl (fun ls hl => ?_)
      refine lv_aload_n hx hb dX5_truth_39 rfl (lv_at hl 3 rfl) ?_
      refine va_get (D := D) (ci := 5) (v := .ref (b 5)) (C := RX5) (T := TX5) (N := 15) hx hb hts hinX5 hown hK1 hP 0 rfl rfl 8 (by decide) (hts (.fieldLink RX5 22 "KnowledgeModelModel" "seconds" "[I") (List.mem_of_getElem? (i := 5) rfl)) (fun _ h9 => h9) rfl dX5_truth_40 ?_
      refine lv_iload_n hx hb dX5_truth_43 rfl (lv_at hl 5 rfl) ?_
      refine xiald (j := f) (q0 := 5) (t0 := 0) hx hb hK1 hP rfl rfl (by omega) (by decide) dX5_truth_44 ?_
      refine xtop (y := (nI (p2 f))) (by exact (hag 5 f (by decide)).trans hC2) ?_
      refine lv_istore (lv' := [(6, .int (nI (p2 f))), (5, .int (nI (p1 f))), (4, .int mo), (3, .int (nI ((40 * lv) + f))), (0, .ref (b 0)), (1, .int (nI lv)), (2, .int (nI f))]) hx hb dX5_truth_45 hl (by decide) rfl (fun ls hl => ?_)
      refine lv_iconst (v := (nI 0)) hx hb dX5_truth_47 (by decide) ?_
      refine lv_istore (lv' := [(7, .int (nI 0)), (6, .int (nI (p2 f))), (5, .int (nI (p1 f))), (4, .int mo), (3, .int (nI ((40 * lv) + f))), (0, .ref (b 0)), (1, .int (nI lv)), (2, .int (nI f))]) hx hb dX5_truth_48 hl (by decide) rfl (fun ls hl => ?_)
      refine lv_aload_n hx hb dX5_truth_50 rfl (lv_at hl 5 rfl) ?_
      refine va_get (D := D) (ci := 5) (v := .ref (b 3)) (C := RX5) (T := TX5) (N := 15) hx hb hts hinX5 hown hK1 hP 0 rfl rfl 6 (by decide) (hts (.fieldLink RX5 16 "KnowledgeModelModel" "kinds" "[I") (List.mem_of_getElem? (i := 6) rfl)) (fun _ h9 => h9) rfl dX5_truth_51 ?_
      refine lv_iload_n hx hb dX5_truth_54 rfl (lv_at hl 7 rfl) ?_
      refine xiald (j := f) (q0 := 3) (t0 := 0) hx hb hK1 hP rfl rfl (by omega) (by decide) dX5_truth_55 ?_
      refine xtop (y := (nI 2)) (by exact ((hag 3 f (by decide)).trans hk3).trans (congrArg nI hkd)) ?_
      refine lv_iconst (v := (nI 2)) hx hb dX5_truth_56 (by decide) ?_
      refine lv_icmp_ne (tgt := 80) hx hb dX5_truth_57 (by decide) (fun c57 => ?_) (fun c57 => ?_)
      ·
        replace c57 : ¬ 2 = 2 := k_net c57 (by omega) (by omega)
        exfalso; omega
      ·
        replace c57 : 2 = 2 := k_nef c57 (by omega) (by omega)
        refine lv_aload_n hx hb dX5_truth_60 rfl (lv_at hl 5 rfl) ?_
        refine lv_iload_n hx hb dX5_truth_61 rfl (lv_at hl 6 rfl) ?_
        refine lv_iload hx hb dX5_truth_62 (lv_at hl 2 rfl) ?_
        refine xcallwi (va_runV (As := [.int (nI lv), .int (nI (p1 f))]) (rest := []) ⟨hx, hb, hml, hown, hts⟩ (ih (p1 f) (by omega) M _ lv mo hag hlv (by omega) (by omega) hti) (cwV 2 hts gX5_truth_X5_truth rfl rfl rfl (by decide +kernel) ⟨by dsimp only; omega, by dsimp only; omega⟩) (xpreVs hP hK (ci := 5) 0 rfl rfl) rfl rfl hl.1 rfl (lv_room (Nat.le_of_ble_eq_true rfl)) dX5_truth_64 ⟨Nat.le_of_ble_eq_true rfl, Nat.le_of_ble_eq_true rfl⟩) hS (kAle hS.1) (fun u_23 H locs hu_23 hP _ _ hS => ?_)
        have hP : va_P D vwCl (rc cs b u_23) H := hP
        have hk_24 : u_23 0 1 = nI n := by rw [hu_23.1 0 1 (by decide)]; exact hn
        have hk_25 : u_23 0 3 = nI nf := by rw [hu_23.1 0 3 (by decide)]; exact hfc
        refine lv_aload_n hx hb dX5_truth_67 rfl (lv_at hl 5 rfl) ?_
        refine lv_iload_n hx hb dX5_truth_68 rfl (lv_at hl 6 rfl) ?_
        refine lv_iload hx hb dX5_truth_69 (lv_at hl 1 rfl) ?_
        refine xcallwi (va_runV (As := [.int (nI lv), .int (nI (p2 f))]) (rest := [.int (semR M0 n kd p1 p2 sb ag mo (p1 f))]) ⟨hx, hb, hml, hown, hts⟩ (ih (p2 f) (by omega) u_23 _ lv mo (Ag8_t hag hu_23) hlv (by omega) (by omega) hu_23.2.1) (cwV 2 hts gX5_truth_X5_truth rfl rfl rfl (by decide +kernel) ⟨by dsimp only; omega, by dsimp only; omega⟩) (xpreVs hP hK (ci := 5) 0 rfl rfl) rfl rfl hl.1 rfl (lv_room (Nat.le_of_ble_eq_true rfl)) dX5_truth_71 ⟨Nat.le_of_ble_eq_true rfl, Nat.le_of_ble_eq_true rfl⟩) hS (kAle hS.1) (fun u_26 H locs hu_26 hP _ _ hS => ?_)
        have hP : va_P D vwCl (rc cs b u_26) H := hP
        have hk_27 : u_26 0 1 = nI n := by rw [hu_26.1 0 1 (by decide)]; exact hk_24
        have hk_28 : u_26 0 3 = nI nf := by rw [hu_26.1 0 3 (by decide)]; exact hk_25
        refine lv_iand hx hb dX5_truth_74 ?_
        refine lv_istore (lv' := [(7, .int ((semR M0 n kd p1 p2 sb ag mo (p1 f)) &&& (semR M0 n kd p1 p2 sb ag mo (p2 f)))), (6, .int (nI (p2 f))), (5, .int (nI (p1 f))), (4, .int mo), (3, .int (nI ((40 * lv) + f))), (0, .ref (b 0)), (1, .int (nI lv)), (2, .int (nI f))]) hx hb dX5_truth_75 hl (by decide) rfl (fun ls hl => ?_)
        refine lv_goto (tgt := 342) hx hb dX5_truth_77 (by decide) ?_
        have hval : ((semR M0 n kd p1 p2 sb ag mo (p1 f)) &&& (semR M0 n kd p1 p2 sb ag mo (p2 f))) = semR M0 n kd p1 p2 sb ag mo f := by rw [semR_eq hwp hf]; simp only [askR, hkd, if_true, if_false, show (1 : Nat) ≠ 0 by decide, show (2 : Nat) ≠ 0 by decide, show (2 : Nat) ≠ 1 by decide, show (3 : Nat) ≠ 0 by decide, show (3 : Nat) ≠ 1 by decide, show (3 : Nat) ≠ 2 by decide, show (3 : Nat) ≠ 6 by decide, show (4 : Nat) ≠ 0 by decide, show (4 : Nat) ≠ 1 by decide, show (4 : Nat) ≠ 2 by decide, show (4 : Nat) ≠ 3 by decide, show (4 : Nat) ≠ 6 by decide, show (5 : Nat) ≠ 0 by decide, show (5 : Nat) ≠ 1 by decide, show (5 : Nat) ≠ 2 by decide, show (5 : Nat) ≠ 3 by decide, show (5 : Nat) ≠ 4 by decide, show (5 : Nat) ≠ 6 by decide, show (6 : Nat) ≠ 0 by decide, show (6 : Nat) ≠ 1 by decide, show (6 : Nat) ≠ 2 by decide]
        refine lv_aload_n hx hb dX5_truth_342 rfl (lv_at hl 5 rfl) ?_
        refine va_get (D := D) (ci := 5) (v := .ref (b 10)) (C := RX5) (T := TX5) (N := 15) hx hb hts hinX5 hown hK1 hP 0 rfl rfl 13 (by decide) (hts (.fieldLink RX5 38 "KnowledgeModelModel" "truths" "[I") (List.mem_of_getElem? (i := 2) rfl)) (fun _ h9 => h9) rfl dX5_truth_343 ?_
        refine lv_iload_n hx hb dX5_truth_346 rfl (lv_at hl 4 rfl) ?_
        refine lv_iload hx hb dX5_truth_347 (lv_at hl 0 rfl) ?_
        refine lv_topi (fun x_29 hx_29 => ?_)
        refine xiast (j := (40 * lv) + f) (q0 := 10) (t0 := 0) (ws' := rc cs b (wr u_26 10 ((40 * lv) + f) x_29)) hx hb hK1 hP (rD hI) hS rfl rfl (by omega) (by decide) rs_10 dX5_truth_349 (fun H locs hP hS => ?_)
        obtain ⟨M_30, hM_30⟩ : ∃ z, z = wr u_26 10 ((40 * lv) + f) x_29 := ⟨_, rfl⟩
        rw [← hM_30] at hP
        have hk_31 : M_30 0 1 = nI n := by rw [hM_30]; exact (wr_ne (Or.inl (by omega))).trans hk_27
        have hk_32 : M_30 0 3 = nI nf := by rw [hM_30]; exact (wr_ne (Or.inl (by omega))).trans hk_28
        refine lv_aload_n hx hb dX5_truth_350 rfl (lv_at hl 5 rfl) ?_
        refine va_get (D := D) (ci := 5) (v := .ref (b 9)) (C := RX5) (T := TX5) (N := 15) hx hb hts hinX5 hown hK1 hP 0 rfl rfl 12 (by decide) (hts (.fieldLink RX5 34 "KnowledgeModelModel" "areKnown" "[Z") (List.mem_of_getElem? (i := 1) rfl)) (fun _ h9 => h9) rfl dX5_truth_351 ?_
        refine lv_iload_n hx hb dX5_truth_354 rfl (lv_at hl 4 rfl) ?_
        refine lv_iconst (v := (nI 1)) hx hb dX5_truth_355 (by decide) ?_
        refine xzast (j := (40 * lv) + f) (q0 := 9) (t0 := 3) (ws' := rc cs b (wr M_30 9 ((40 * lv) + f) (nI 1))) hx hb hK1 hP (rD hI) hS rfl rfl (by omega) (by decide) (by decide) rs_9 dX5_truth_356 (fun H locs hP hS => ?_)
        obtain ⟨M_33, hM_33⟩ : ∃ z, z = wr M_30 9 ((40 * lv) + f) (nI 1) := ⟨_, rfl⟩
        rw [← hM_33] at hP
        have hk_34 : M_33 0 1 = nI n := by rw [hM_33]; exact (wr_ne (Or.inl (by omega))).trans hk_31
        have hk_35 : M_33 0 3 = nI nf := by rw [hM_33]; exact (wr_ne (Or.inl (by omega))).trans hk_32
        refine lv_iload hx hb dX5_truth_357 (lv_at hl 0 rfl) ?_
        subst hQ
        have hrel : TR M0 M n nf kd p1 p2 sb ag lv mo M_33 := by first | exact TR_r hti | (simp only [fo_0, c13, c57, hx_29, hM_30, hM_33]; exact TR_w (TR_r hti) hf hval) | (simp only [fo_0, c13, c57, hx_29, hM_30, hM_33]; exact TR_w hu_23 hf hval) | (simp only [fo_0, c13, c57, hx_29, hM_30, hM_33]; exact TR_w (TR_t hu_23 hu_26) hf hval) | (simp only [fo_0, c13, c57, hx_29, hM_30, hM_33]; exact TR_w (TR_b hu_23 hf40 (by simpa only [fo_0, c13, c57, hx_29, hM_30, hM_33] using hu_26)) hf hval)
        have hfin : ((semR M0 n kd p1 p2 sb ag mo (p1 f)) &&& (semR M0 n kd p1 p2 sb ag mo (p2 f))) = semR M0 n kd p1 p2 sb ag mo f := by first | exact hval | rfl
        exact W.iret hx hb hr (fun t ht hW => ⟨⟨_, M_33, rfl, ⟨hfin, hrel⟩, by rw [← ht] at hP; exact hP⟩, hS.F ht⟩) hS.2.2 dX5_truth_359
    ·
      refine lv_aload_n hx hb dX5_truth_16 rfl (lv_at hl 1 rfl) ?_
      refine va_get (D := D) (ci := 5) (v := .ref (b 10)) (C := RX5) (T := TX5) (N := 15) hx hb hts hinX5 hown hK1 hP 0 rfl rfl 13 (by decide) (hts (.fieldLink RX5 38 "KnowledgeModelModel" "truths" "[I") (List.mem_of_getElem? (i := 2) rfl)) (fun _ h9 => h9) rfl dX5_truth_17 ?_
      refine lv_iload_n hx hb dX5_truth_20 rfl (lv_at hl 0 rfl) ?_
      refine xiald (j := (40 * lv) + f) (q0 := 10) (t0 := 0) hx hb hK1 hP rfl rfl (by omega) (by decide) dX5_truth_21 ?_
      refine xtop (y := (semR M0 n kd p1 p2 sb ag mo f)) (by exact ((hti.2 f hf).resolve_left c13).2) ?_
      subst hQ
      have hrel : TR M0 M n nf kd p1 p2 sb ag lv mo M := by first | exact TR_r hti | (simp only [fo_0, c13]; exact TR_w (TR_r hti) hf hval) | (simp only [fo_0, c13]; exact TR_w trivial hf hval) | (simp only [fo_0, c13]; exact TR_w (TR_t trivial trivial) hf hval) | (simp only [fo_0, c13]; exact TR_w (TR_b trivial hf40 (by simpa only [fo_0, c13] using trivial)) hf hval)
      have hfin : (semR M0 n kd p1 p2 sb ag mo f) = semR M0 n kd p1 p2 sb ag mo f := by first | exact hval | rfl
      exact W.iret hx hb hr (fun t ht hW => ⟨⟨_, M, rfl, ⟨hfin, hrel⟩, by rw [← ht] at hP; exact hP⟩, hS.F ht⟩) hS.2.2 dX5_truth_22
  ·
    have hq1 := hL.1 (by omega)
    have hz1 := hE1 (by omega)
    have hB1 := hB (by omega)
    obtain ⟨hG1, hG2⟩ := hG hkd
    refine lv_bipush (v := (nI 40)) hx hb dX5_truth_0 (by decide) ?_
    refine lv_iload_n hx hb dX5_truth_2 rfl (lv_at hl 1 rfl) ?_
    refine ximul hx hb dX5_truth_3 ?_
    refine lv_iload_n hx hb dX5_truth_4 rfl (lv_at hl 2 rfl) ?_
    refine xiadd hx hb dX5_truth_5 ?_
    refine lv_istore_n (lv' := [(3, .int (nI ((40 * lv) + f))), (0, .ref (b 0)), (1, .int (nI lv)), (2, .int (nI f))]) hx hb dX5_truth_6 rfl hl (by decide) rfl (fun ls hl => ?_)
    refine lv_aload_n hx hb dX5_truth_7 rfl (lv_at hl 1 rfl) ?_
    refine va_get (D := D) (ci := 5) (v := .ref (b 9)) (C := RX5) (T := TX5) (N := 15) hx hb hts hinX5 hown hK1 hP 0 rfl rfl 12 (by decide) (hts (.fieldLink RX5 34 "KnowledgeModelModel" "areKnown" "[Z") (List.mem_of_getElem? (i := 1) rfl)) (fun _ h9 => h9) rfl dX5_truth_8 ?_
    refine lv_iload_n hx hb dX5_truth_11 rfl (lv_at hl 0 rfl) ?_
    refine xzald (j := (40 * lv) + f) (q0 := 9) (t0 := 3) hx hb hK1 hP rfl rfl (by omega) (by decide) dX5_truth_12 ?_
    refine lv_if_eq (tgt := 23) hx hb dX5_truth_13 (by decide) (fun c13 => ?_) (fun c13 => ?_)
    ·
      refine lv_aload_n hx hb dX5_truth_23 rfl (lv_at hl 1 rfl) ?_
      refine va_get (D := D) (ci := 5) (v := .ref (b 8)) (C := RX5) (T := TX5) (N := 15) hx hb hts hinX5 hown hK1 hP 0 rfl rfl 11 (by decide) (hts (.fieldLink RX5 31 "KnowledgeModelModel" "lefts" "[I") (List.mem_of_getElem? (i := 3) rfl)) (fun _ h9 => h9) rfl dX5_truth_24 ?_
      refine lv_iload_n hx hb dX5_truth_27 rfl (lv_at hl 2 rfl) ?_
      refine xiald (j := lv) (q0 := 8) (t0 := 0) hx hb hK1 hP rfl rfl (by omega) (by decide) dX5_truth_28 ?_
      refine xtop (y := mo) (by exact hti.1) ?_
      refine lv_istore (lv' := [(4, .int mo), (3, .int (nI ((40 * lv) + f))), (0, .ref (b 0)), (1, .int (nI lv)), (2, .int (nI f))]) hx hb dX5_truth_29 hl (by decide) rfl (fun ls hl => ?_)
      refine lv_aload_n hx hb dX5_truth_31 rfl (lv_at hl 2 rfl) ?_
      refine va_get (D := D) (ci := 5) (v := .ref (b 4)) (C := RX5) (T := TX5) (N := 15) hx hb hts hinX5 hown hK1 hP 0 rfl rfl 7 (by decide) (hts (.fieldLink RX5 19 "KnowledgeModelModel" "firsts" "[I") (List.mem_of_getElem? (i := 4) rfl)) (fun _ h9 => h9) rfl dX5_truth_32 ?_
      refine lv_iload_n hx hb dX5_truth_35 rfl (lv_at hl 4 rfl) ?_
      refine xiald (j := f) (q0 := 4) (t0 := 0) hx hb hK1 hP rfl rfl (by omega) (by decide) dX5_truth_36 ?_
      refine xtop (y := (nI (ag f))) (by exact (hag 4 f (by decide)).trans hG1) ?_
      refine lv_istore (lv' := [(5, .int (nI (ag f))), (4, .int mo), (3, .int (nI ((40 * lv) + f))), (0, .ref (b 0)), (1, .int (nI lv)), (2, .int (nI f))]) hx hb dX5_truth_37 hl (by decide) rfl (fun ls hl => ?_)
      refine lv_aload_n hx hb dX5_truth_39 rfl (lv_at hl 3 rfl) ?_
      refine va_get (D := D) (ci := 5) (v := .ref (b 5)) (C := RX5) (T := TX5) (N := 15) hx hb hts hinX5 hown hK1 hP 0 rfl rfl 8 (by decide) (hts (.fieldLink RX5 22 "KnowledgeModelModel" "seconds" "[I") (List.mem_of_getElem? (i := 5) rfl)) (fun _ h9 => h9) rfl dX5_truth_40 ?_
      refine lv_iload_n hx hb dX5_truth_43 rfl (lv_at hl 5 rfl) ?_
      refine xiald (j := f) (q0 := 5) (t0 := 0) hx hb hK1 hP rfl rfl (by omega) (by decide) dX5_truth_44 ?_
      refine xtop (y := (nI (p1 f))) (by exact (hag 5 f (by decide)).trans hB1) ?_
      refine lv_istore (lv' := [(6, .int (nI (p1 f))), (5, .int (nI (ag f))), (4, .int mo), (3, .int (nI ((40 * lv) + f))), (0, .ref (b 0)), (1, .int (nI lv)), (2, .int (nI f))]) hx hb dX5_truth_45 hl (by decide) rfl (fun ls hl => ?_)
      refine lv_iconst (v := (nI 0)) hx hb dX5_truth_47 (by decide) ?_
      refine lv_istore (lv' := [(7, .int (nI 0)), (6, .int (nI (p1 f))), (5, .int (nI (ag f))), (4, .int mo), (3, .int (nI ((40 * lv) + f))), (0, .ref (b 0)), (1, .int (nI lv)), (2, .int (nI f))]) hx hb dX5_truth_48 hl (by decide) rfl (fun ls hl => ?_)
      refine lv_aload_n hx hb dX5_truth_50 rfl (lv_at hl 5 rfl) ?_
      refine va_get (D := D) (ci := 5) (v := .ref (b 3)) (C := RX5) (T := TX5) (N := 15) hx hb hts hinX5 hown hK1 hP 0 rfl rfl 6 (by decide) (hts (.fieldLink RX5 16 "KnowledgeModelModel" "kinds" "[I") (List.mem_of_getElem? (i := 6) rfl)) (fun _ h9 => h9) rfl dX5_truth_51 ?_
      refine lv_iload_n hx hb dX5_truth_54 rfl (lv_at hl 7 rfl) ?_
      refine xiald (j := f) (q0 := 3) (t0 := 0) hx hb hK1 hP rfl rfl (by omega) (by decide) dX5_truth_55 ?_
      refine xtop (y := (nI 3)) (by exact ((hag 3 f (by decide)).trans hk3).trans (congrArg nI hkd)) ?_
      refine lv_iconst (v := (nI 2)) hx hb dX5_truth_56 (by decide) ?_
      refine lv_icmp_ne (tgt := 80) hx hb dX5_truth_57 (by decide) (fun c57 => ?_) (fun c57 => ?_)
      ·
        replace c57 : ¬ 3 = 2 := k_net c57 (by omega) (by omega)
        refine lv_aload_n hx hb dX5_truth_80 rfl (lv_at hl 5 rfl) ?_
        refine va_get (D := D) (ci := 5) (v := .ref (b 3)) (C := RX5) (T := TX5) (N := 15) hx hb hts hinX5 hown hK1 hP 0 rfl rfl 6 (by decide) (hts (.fieldLink RX5 16 "KnowledgeModelModel" "kinds" "[I") (List.mem_of_getElem? (i := 6) rfl)) (fun _ h9 => h9) rfl dX5_truth_81 ?_
        refine lv_iload_n hx hb dX5_truth_84 rfl (lv_at hl 7 rfl) ?_
        refine xiald (j := f) (q0 := 3) (t0 := 0) hx hb hK1 hP rfl rfl (by omega) (by decide) dX5_truth_85 ?_
        refine xtop (y := (nI 3)) (by exact ((hag 3 f (by decide)).trans hk3).trans (congrArg nI hkd)) ?_
        refine lv_iconst (v := (nI 1)) hx hb dX5_truth_86 (by decide) ?_
        refine lv_icmp_ne (tgt := 107) hx hb dX5_truth_87 (by decide) (fun c87 => ?_) (fun c87 => ?_)
        ·
          replace c87 : ¬ 3 = 1 := k_net c87 (by omega) (by omega)
          refine lv_aload_n hx hb dX5_truth_107 rfl (lv_at hl 5 rfl) ?_
          refine va_get (D := D) (ci := 5) (v := .ref (b 3)) (C := RX5) (T := TX5) (N := 15) hx hb hts hinX5 hown hK1 hP 0 rfl rfl 6 (by decide) (hts (.fieldLink RX5 16 "KnowledgeModelModel" "kinds" "[I") (List.mem_of_getElem? (i := 6) rfl)) (fun _ h9 => h9) rfl dX5_truth_108 ?_
          refine lv_iload_n hx hb dX5_truth_111 rfl (lv_at hl 7 rfl) ?_
          refine xiald (j := f) (q0 := 3) (t0 := 0) hx hb hK1 hP rfl rfl (by omega) (by decide) dX5_truth_112 ?_
          refine xtop (y := (nI 3)) (by exact ((hag 3 f (by decide)).trans hk3).trans (congrArg nI hkd)) ?_
          refine lv_bipush (v := (nI 6)) hx hb dX5_truth_113 (by decide) ?_
          refine lv_icmp_ne (tgt := 158) hx hb dX5_truth_115 (by decide) (fun c115 => ?_) (fun c115 => ?_)
          ·
            replace c115 : ¬ 3 = 6 := k_net c115 (by omega) (by omega)
            refine lv_aload_n hx hb dX5_truth_158 rfl (lv_at hl 5 rfl) ?_
            refine va_get (D := D) (ci := 5) (v := .ref (b 3)) (C := RX5) (T := TX5) (N := 15) hx hb hts hinX5 hown hK1 hP 0 rfl rfl 6 (by decide) (hts (.fieldLink RX5 16 "KnowledgeModelModel" "kinds" "[I") (List.mem_of_getElem? (i := 6) rfl)) (fun _ h9 => h9) rfl dX5_truth_159 ?_
            refine lv_iload_n hx hb dX5_truth_162 rfl (lv_at hl 7 rfl) ?_
            refine xiald (j := f) (q0 := 3) (t0 := 0) hx hb hK1 hP rfl rfl (by omega) (by decide) dX5_truth_163 ?_
            refine xtop (y := (nI 3)) (by exact ((hag 3 f (by decide)).trans hk3).trans (congrArg nI hkd)) ?_
            refine lv_if_ne (tgt := 171) hx hb dX5_truth_164 (by decide) (fun c164 => ?_) (fun c164 => ?_)
            ·
              replace c164 : ¬ 3 = 0 := k0_net c164 (by omega)
              refine lv_aload_n hx hb dX5_truth_171 rfl (lv_at hl 5 rfl) ?_
              refine lv_iload_n hx hb dX5_truth_172 rfl (lv_at hl 6 rfl) ?_
              refine lv_iload hx hb dX5_truth_173 (lv_at hl 1 rfl) ?_
              refine xcallwi (va_runV (As := [.int (nI lv), .int (nI (p1 f))]) (rest := []) ⟨hx, hb, hml, hown, hts⟩ (ih (p1 f) (by omega) M _ lv mo hag hlv (by omega) (by omega) hti) (cwV 2 hts gX5_truth_X5_truth rfl rfl rfl (by decide +kernel) ⟨by dsimp only; omega, by dsimp only; omega⟩) (xpreVs hP hK (ci := 5) 0 rfl rfl) rfl rfl hl.1 rfl (lv_room (Nat.le_of_ble_eq_true rfl)) dX5_truth_175 ⟨Nat.le_of_ble_eq_true rfl, Nat.le_of_ble_eq_true rfl⟩) hS (kAle hS.1) (fun u_36 H locs hu_36 hP _ _ hS => ?_)
              have hP : va_P D vwCl (rc cs b u_36) H := hP
              have hk_37 : u_36 0 1 = nI n := by rw [hu_36.1 0 1 (by decide)]; exact hn
              have hk_38 : u_36 0 3 = nI nf := by rw [hu_36.1 0 3 (by decide)]; exact hfc
              refine lv_istore (lv' := [(8, .int (semR M0 n kd p1 p2 sb ag mo (p1 f))), (7, .int (nI 0)), (6, .int (nI (p1 f))), (5, .int (nI (ag f))), (4, .int mo), (3, .int (nI ((40 * lv) + f))), (0, .ref (b 0)), (1, .int (nI lv)), (2, .int (nI f))]) hx hb dX5_truth_178 hl (by decide) rfl (fun ls hl => ?_)
              refine lv_iconst (v := (nI 0)) hx hb dX5_truth_180 (by decide) ?_
              refine lv_istore (lv' := [(9, .int (nI 0)), (8, .int (semR M0 n kd p1 p2 sb ag mo (p1 f))), (7, .int (nI 0)), (6, .int (nI (p1 f))), (5, .int (nI (ag f))), (4, .int mo), (3, .int (nI ((40 * lv) + f))), (0, .ref (b 0)), (1, .int (nI lv)), (2, .int (nI f))]) hx hb dX5_truth_181 hl (by decide) rfl (fun ls hl => ?_)
              have cut183 : ∀ (f183 : Nat) (j : Nat) (hj : j ≤ n), n + 1 ≤ j + f183 → ∀ (H : Heap) (locs : List Loc), va_P D vwCl (rc cs b u_36) H → va_S (kA b 12 s.heap.size) s.heap H locs → ∀ (ls : Array Slot), lv_has ls 12 [(0, .ref (b 0)), (1, .int (nI lv)), (2, .int (nI f)), (3, .int (nI ((40 * lv) + f))), (4, .int mo), (5, .int (nI (ag f))), (6, .int (nI (p1 f))), (7, .int (fo (fun w r => if bt mo w && decide ((M0 2 (24 * ag f + w) &&& mo &&& (semR M0 n kd p1 p2 sb ag mo (p1 f) ^^^ (-1))) = 0) then r ||| sg w else r) (nI 0) j)), (8, .int (semR M0 n kd p1 p2 sb ag mo (p1 f))), (9, .int (nI j))] → W p l e ({ frames := 6 + f, cells := 0, slots := 0, locals := 100 + 31 * f } : Room) s m ([.ref (b 0), .int (nI lv), .int (nI f)] : List Value).toArray below meth c H locs 0 0 Q (F0 m 183 ls []) := by
                intro f183
                induction f183 with
                | zero => intro j hj hfu183; exact absurd hfu183 (by omega)
                | succ f183 cut183 =>
                  intro j hj hfu183 H locs hP hS ls hl
                  refine lv_iload hx hb dX5_truth_183 (lv_at hl 9 rfl) ?_
                  refine lv_aload_n hx hb dX5_truth_185 rfl (lv_at hl 0 rfl) ?_
                  refine va_get (D := D) (ci := 5) (v := .int (u_36 0 1)) (C := RX5) (T := TX5) (N := 15) hx hb hts hinX5 hown hK1 hP 0 rfl rfl 1 (by decide) (hts (.fieldLink RX5 48 "KnowledgeModelModel" "worlds" "I") (List.mem_of_getElem? (i := 7) rfl)) (fun _ h9 => h9) rfl dX5_truth_186 ?_
                  refine xtop (y := nI n) (hk_37) ?_
                  refine lv_icmp_ge (tgt := 342) hx hb dX5_truth_189 (by decide) (fun c189 => ?_) (fun c189 => ?_)
                  ·
                    replace c189 : n ≤ j := k_get c189 (by omega) (by omega)
                    have hje : j = n := by omega
                    have hval : (fo (fun w r => if bt mo w && decide ((M0 2 (24 * ag f + w) &&& mo &&& (semR M0 n kd p1 p2 sb ag mo (p1 f) ^^^ (-1))) = 0) then r ||| sg w else r) (nI 0) j) = semR M0 n kd p1 p2 sb ag mo f := by rw [semR_eq hwp hf]; simp only [askR, hkd, if_true, if_false, show (1 : Nat) ≠ 0 by decide, show (2 : Nat) ≠ 0 by decide, show (2 : Nat) ≠ 1 by decide, show (3 : Nat) ≠ 0 by decide, show (3 : Nat) ≠ 1 by decide, show (3 : Nat) ≠ 2 by decide, show (3 : Nat) ≠ 6 by decide, show (4 : Nat) ≠ 0 by decide, show (4 : Nat) ≠ 1 by decide, show (4 : Nat) ≠ 2 by decide, show (4 : Nat) ≠ 3 by decide, show (4 : Nat) ≠ 6 by decide, show (5 : Nat) ≠ 0 by decide, show (5 : Nat) ≠ 1 by decide, show (5 : Nat) ≠ 2 by decide, show (5 : Nat) ≠ 3 by decide, show (5 : Nat) ≠ 4 by decide, show (5 : Nat) ≠ 6 by decide, show (6 : Nat) ≠ 0 by decide, show (6 : Nat) ≠ 1 by decide, show (6 : Nat) ≠ 2 by decide, hje]
                    refine lv_aload_n hx hb dX5_truth_342 rfl (lv_at hl 0 rfl) ?_
                    refine va_get (D := D) (ci := 5) (v := .ref (b 10)) (C := RX5) (T := TX5) (N := 15) hx hb hts hinX5 hown hK1 hP 0 rfl rfl 13 (by decide) (hts (.fieldLink RX5 38 "KnowledgeModelModel" "truths" "[I") (List.mem_of_getElem? (i := 2) rfl)) (fun _ h9 => h9) rfl dX5_truth_343 ?_
                    refine lv_iload_n hx hb dX5_truth_346 rfl (lv_at hl 3 rfl) ?_
                    refine lv_iload hx hb dX5_truth_347 (lv_at hl 7 rfl) ?_
                    refine lv_topi (fun x_39 hx_39 => ?_)
                    refine xiast (j := (40 * lv) + f) (q0 := 10) (t0 := 0) (ws' := rc cs b (wr u_36 10 ((40 * lv) + f) x_39)) hx hb hK1 hP (rD hI) hS rfl rfl (by omega) (by decide) rs_10 dX5_truth_349 (fun H locs hP hS => ?_)
                    obtain ⟨M_40, hM_40⟩ : ∃ z, z = wr u_36 10 ((40 * lv) + f) x_39 := ⟨_, rfl⟩
                    rw [← hM_40] at hP
                    have hk_41 : M_40 0 1 = nI n := by rw [hM_40]; exact (wr_ne (Or.inl (by omega))).trans hk_37
                    have hk_42 : M_40 0 3 = nI nf := by rw [hM_40]; exact (wr_ne (Or.inl (by omega))).trans hk_38
                    refine lv_aload_n hx hb dX5_truth_350 rfl (lv_at hl 0 rfl) ?_
                    refine va_get (D := D) (ci := 5) (v := .ref (b 9)) (C := RX5) (T := TX5) (N := 15) hx hb hts hinX5 hown hK1 hP 0 rfl rfl 12 (by decide) (hts (.fieldLink RX5 34 "KnowledgeModelModel" "areKnown" "[Z") (List.mem_of_getElem? (i := 1) rfl)) (fun _ h9 => h9) rfl dX5_truth_351 ?_
                    refine lv_iload_n hx hb dX5_truth_354 rfl (lv_at hl 3 rfl) ?_
                    refine lv_iconst (v := (nI 1)) hx hb dX5_truth_355 (by decide) ?_
                    refine xzast (j := (40 * lv) + f) (q0 := 9) (t0 := 3) (ws' := rc cs b (wr M_40 9 ((40 * lv) + f) (nI 1))) hx hb hK1 hP (rD hI) hS rfl rfl (by omega) (by decide) (by decide) rs_9 dX5_truth_356 (fun H locs hP hS => ?_)
                    obtain ⟨M_43, hM_43⟩ : ∃ z, z = wr M_40 9 ((40 * lv) + f) (nI 1) := ⟨_, rfl⟩
                    rw [← hM_43] at hP
                    have hk_44 : M_43 0 1 = nI n := by rw [hM_43]; exact (wr_ne (Or.inl (by omega))).trans hk_41
                    have hk_45 : M_43 0 3 = nI nf := by rw [hM_43]; exact (wr_ne (Or.inl (by omega))).trans hk_42
                    refine lv_iload hx hb dX5_truth_357 (lv_at hl 7 rfl) ?_
                    subst hQ
                    have hrel : TR M0 M n nf kd p1 p2 sb ag lv mo M_43 := by first | exact TR_r hti | (simp only [fo_0, c13, c57, c87, c115, c164, c189, hx_39, hM_40, hM_43]; exact TR_w (TR_r hti) hf hval) | (simp only [fo_0, c13, c57, c87, c115, c164, c189, hx_39, hM_40, hM_43]; exact TR_w hu_36 hf hval) | (simp only [fo_0, c13, c57, c87, c115, c164, c189, hx_39, hM_40, hM_43]; exact TR_w (TR_t hu_36 hu_36) hf hval) | (simp only [fo_0, c13, c57, c87, c115, c164, c189, hx_39, hM_40, hM_43]; exact TR_w (TR_b hu_36 hf40 (by simpa only [fo_0, c13, c57, c87, c115, c164, c189, hx_39, hM_40, hM_43] using hu_36)) hf hval)
                    have hfin : (fo (fun w r => if bt mo w && decide ((M0 2 (24 * ag f + w) &&& mo &&& (semR M0 n kd p1 p2 sb ag mo (p1 f) ^^^ (-1))) = 0) then r ||| sg w else r) (nI 0) j) = semR M0 n kd p1 p2 sb ag mo f := by first | exact hval | rfl
                    exact W.iret hx hb hr (fun t ht hW => ⟨⟨_, M_43, rfl, ⟨hfin, hrel⟩, by rw [← ht] at hP; exact hP⟩, hS.F ht⟩) hS.2.2 dX5_truth_359
                  ·
                    replace c189 : j < n := k_gef c189 (by omega) (by omega)
                    refine lv_iload hx hb dX5_truth_192 (lv_at hl 4 rfl) ?_
                    refine lv_iload hx hb dX5_truth_194 (lv_at hl 9 rfl) ?_
                    refine xcalli (va_runS (As := [.int mo, .int (nI j)]) (rest := []) ⟨hx, hb, hml, hown, hts⟩ (c_X5_has l mo j (by omega)) (va_cwS 2 hts gX5_truth_X5_has rfl rfl rfl (by decide +kernel) ⟨by dsimp only; omega, by dsimp only; omega⟩) xpreN rfl rfl hl.1 rfl (lv_room (Nat.le_of_ble_eq_true rfl)) dX5_truth_196 ⟨Nat.le_of_ble_eq_true rfl, Nat.le_of_ble_eq_true rfl⟩) hS hP (fun H locs hP hS => ?_)
                    refine lv_if_ne (tgt := 205) hx hb dX5_truth_199 (by decide) (fun c199 => ?_) (fun c199 => ?_)
                    ·
                      replace c199 := bI_n0 c199
                      refine lv_aload_n hx hb dX5_truth_205 rfl (lv_at hl 0 rfl) ?_
                      refine va_get (D := D) (ci := 5) (v := .ref (b 3)) (C := RX5) (T := TX5) (N := 15) hx hb hts hinX5 hown hK1 hP 0 rfl rfl 6 (by decide) (hts (.fieldLink RX5 16 "KnowledgeModelModel" "kinds" "[I") (List.mem_of_getElem? (i := 6) rfl)) (fun _ h9 => h9) rfl dX5_truth_206 ?_
                      refine lv_iload_n hx hb dX5_truth_209 rfl (lv_at hl 2 rfl) ?_
                      refine xiald (j := f) (q0 := 3) (t0 := 0) hx hb hK1 hP rfl rfl (by omega) (by decide) dX5_truth_210 ?_
                      refine xtop (y := (nI 3)) (by exact (((Ag8_t hag hu_36) 3 f (by decide)).trans hk3).trans (congrArg nI hkd)) ?_
                      refine lv_iconst (v := (nI 3)) hx hb dX5_truth_211 (by decide) ?_
                      refine lv_icmp_ne (tgt := 231) hx hb dX5_truth_212 (by decide) (fun c212 => ?_) (fun c212 => ?_)
                      ·
                        replace c212 : ¬ 3 = 3 := k_net c212 (by omega) (by omega)
                        exfalso; omega
                      ·
                        replace c212 : 3 = 3 := k_nef c212 (by omega) (by omega)
                        refine lv_aload_n hx hb dX5_truth_215 rfl (lv_at hl 0 rfl) ?_
                        refine va_get (D := D) (ci := 5) (v := .ref (b 2)) (C := RX5) (T := TX5) (N := 15) hx hb hts hinX5 hown hK1 hP 0 rfl rfl 4 (by decide) (hts (.fieldLink RX5 13 "KnowledgeModelModel" "seen" "[I") (List.mem_of_getElem? (i := 8) rfl)) (fun _ h9 => h9) rfl dX5_truth_216 ?_
                        refine lv_bipush (v := (nI 24)) hx hb dX5_truth_219 (by decide) ?_
                        refine lv_iload hx hb dX5_truth_221 (lv_at hl 5 rfl) ?_
                        refine ximul hx hb dX5_truth_223 ?_
                        refine lv_iload hx hb dX5_truth_224 (lv_at hl 9 rfl) ?_
                        refine xiadd hx hb dX5_truth_226 ?_
                        refine xiald (j := (24 * (ag f)) + j) (q0 := 2) (t0 := 0) hx hb hK1 hP rfl rfl (by omega) (by decide) dX5_truth_227 ?_
                        refine xtop (y := (M0 2 (24 * ag f + j))) (by exact (Ag8_t hag hu_36) 2 _ (by decide)) ?_
                        refine lv_goto (tgt := 276) hx hb dX5_truth_228 (by decide) ?_
                        refine lv_istore (lv' := [(10, .int (M0 2 (24 * ag f + j))), (0, .ref (b 0)), (1, .int (nI lv)), (2, .int (nI f)), (3, .int (nI ((40 * lv) + f))), (4, .int mo), (5, .int (nI (ag f))), (6, .int (nI (p1 f))), (7, .int (fo (fun w r => if bt mo w && decide ((M0 2 (24 * ag f + w) &&& mo &&& (semR M0 n kd p1 p2 sb ag mo (p1 f) ^^^ (-1))) = 0) then r ||| sg w else r) (nI 0) j)), (8, .int (semR M0 n kd p1 p2 sb ag mo (p1 f))), (9, .int (nI j))]) hx hb dX5_truth_276 hl (by decide) rfl (fun ls hl => ?_)
                        refine lv_aload_n hx hb dX5_truth_278 rfl (lv_at hl 1 rfl) ?_
                        refine va_get (D := D) (ci := 5) (v := .ref (b 3)) (C := RX5) (T := TX5) (N := 15) hx hb hts hinX5 hown hK1 hP 0 rfl rfl 6 (by decide) (hts (.fieldLink RX5 16 "KnowledgeModelModel" "kinds" "[I") (List.mem_of_getElem? (i := 6) rfl)) (fun _ h9 => h9) rfl dX5_truth_279 ?_
                        refine lv_iload_n hx hb dX5_truth_282 rfl (lv_at hl 3 rfl) ?_
                        refine xiald (j := f) (q0 := 3) (t0 := 0) hx hb hK1 hP rfl rfl (by omega) (by decide) dX5_truth_283 ?_
                        refine xtop (y := (nI 3)) (by exact (((Ag8_t hag hu_36) 3 f (by decide)).trans hk3).trans (congrArg nI hkd)) ?_
                        refine lv_if_ne (tgt := 302) hx hb dX5_truth_284 (by decide) (fun c284 => ?_) (fun c284 => ?_)
                        ·
                          replace c284 : ¬ 3 = 0 := k0_net c284 (by omega)
                          refine lv_iload hx hb dX5_truth_302 (lv_at hl 0 rfl) ?_
                          refine lv_iload hx hb dX5_truth_304 (lv_at hl 5 rfl) ?_
                          refine lv_iand hx hb dX5_truth_306 ?_
                          refine lv_iload hx hb dX5_truth_307 (lv_at hl 9 rfl) ?_
                          refine lv_iconst (v := (-1 : Int32)) hx hb dX5_truth_309 (by decide) ?_
                          refine lv_ixor hx hb dX5_truth_310 ?_
                          refine lv_iand hx hb dX5_truth_311 ?_
                          refine lv_if_ne (tgt := 319) hx hb dX5_truth_312 (by decide) (fun c312 => ?_) (fun c312 => ?_)
                          ·
                            refine lv_iconst (v := (nI 0)) hx hb dX5_truth_319 (by decide) ?_
                            refine lv_istore (lv' := [(11, .int (nI 0)), (10, .int (M0 2 (24 * ag f + j))), (0, .ref (b 0)), (1, .int (nI lv)), (2, .int (nI f)), (3, .int (nI ((40 * lv) + f))), (4, .int mo), (5, .int (nI (ag f))), (6, .int (nI (p1 f))), (7, .int (fo (fun w r => if bt mo w && decide ((M0 2 (24 * ag f + w) &&& mo &&& (semR M0 n kd p1 p2 sb ag mo (p1 f) ^^^ (-1))) = 0) then r ||| sg w else r) (nI 0) j)), (8, .int (semR M0 n kd p1 p2 sb ag mo (p1 f))), (9, .int (nI j))]) hx hb dX5_truth_320 hl (by decide) rfl (fun ls hl => ?_)
                            refine lv_iload hx hb dX5_truth_322 (lv_at hl 0 rfl) ?_
                            refine lv_if_eq (tgt := 336) hx hb dX5_truth_324 (by decide) (fun c324 => ?_) (fun c324 => ?_)
                            ·
                              replace c324 : 0 = 0 := k0_eqt c324 (by omega)
                              refine lv_iinc (v := (nI (j + 1))) (lv' := [(9, .int (nI (j + 1))), (11, .int (nI 0)), (10, .int (M0 2 (24 * ag f + j))), (0, .ref (b 0)), (1, .int (nI lv)), (2, .int (nI f)), (3, .int (nI ((40 * lv) + f))), (4, .int mo), (5, .int (nI (ag f))), (6, .int (nI (p1 f))), (7, .int (fo (fun w r => if bt mo w && decide ((M0 2 (24 * ag f + w) &&& mo &&& (semR M0 n kd p1 p2 sb ag mo (p1 f) ^^^ (-1))) = 0) then r ||| sg w else r) (nI 0) j)), (8, .int (semR M0 n kd p1 p2 sb ag mo (p1 f)))]) hx hb dX5_truth_336 hl (k := 11) rfl (nI_add j 1) (by decide) rfl (fun ls hl => ?_)
                              refine lv_goto (tgt := 183) hx hb dX5_truth_339 (by decide) ?_
                              have e_46 : (fo (fun w r => if bt mo w && decide ((M0 2 (24 * ag f + w) &&& mo &&& (semR M0 n kd p1 p2 sb ag mo (p1 f) ^^^ (-1))) = 0) then r ||| sg w else r) (nI 0) j) = (fo (fun w r => if bt mo w && decide ((M0 2 (24 * ag f + w) &&& mo &&& (semR M0 n kd p1 p2 sb ag mo (p1 f) ^^^ (-1))) = 0) then r ||| sg w else r) (nI 0) (j + 1)) := by first | (rw [fo_s, if_neg (by rw [c199]; exact Bool.false_ne_true)]; done) | (rw [fo_s, if_pos (by rw [c199, decide_eq_true c312]; rfl)]; assumption) | (rw [fo_s, if_neg (by rw [c199, decide_eq_false c312]; exact Bool.false_ne_true)]; done)
                              exact cut183 (j + 1) (by omega) (by omega) _ _ hP hS ls (lcons (lcons (lcons (lcons (lcons (lcons (lcons (lcons (lcons (lcons (lzero hl) hl 0 rfl rfl) hl 11 rfl rfl) hl 10 rfl (congrArg Value.int e_46)) hl 9 rfl rfl) hl 8 rfl rfl) hl 7 rfl rfl) hl 6 rfl rfl) hl 5 rfl rfl) hl 4 rfl rfl) hl 3 rfl rfl)
                            ·
                              replace c324 : ¬ 0 = 0 := k0_eqf c324 (by omega)
                              exfalso; omega
                          ·
                            refine lv_iconst (v := (nI 1)) hx hb dX5_truth_315 (by decide) ?_
                            refine lv_goto (tgt := 320) hx hb dX5_truth_316 (by decide) ?_
                            refine lv_istore (lv' := [(11, .int (nI 1)), (10, .int (M0 2 (24 * ag f + j))), (0, .ref (b 0)), (1, .int (nI lv)), (2, .int (nI f)), (3, .int (nI ((40 * lv) + f))), (4, .int mo), (5, .int (nI (ag f))), (6, .int (nI (p1 f))), (7, .int (fo (fun w r => if bt mo w && decide ((M0 2 (24 * ag f + w) &&& mo &&& (semR M0 n kd p1 p2 sb ag mo (p1 f) ^^^ (-1))) = 0) then r ||| sg w else r) (nI 0) j)), (8, .int (semR M0 n kd p1 p2 sb ag mo (p1 f))), (9, .int (nI j))]) hx hb dX5_truth_320 hl (by decide) rfl (fun ls hl => ?_)
                            refine lv_iload hx hb dX5_truth_322 (lv_at hl 0 rfl) ?_
                            refine lv_if_eq (tgt := 336) hx hb dX5_truth_324 (by decide) (fun c324 => ?_) (fun c324 => ?_)
                            ·
                              replace c324 : 1 = 0 := k0_eqt c324 (by omega)
                              exfalso; omega
                            ·
                              replace c324 : ¬ 1 = 0 := k0_eqf c324 (by omega)
                              refine lv_iload hx hb dX5_truth_327 (lv_at hl 9 rfl) ?_
                              refine lv_iconst (v := (nI 1)) hx hb dX5_truth_329 (by decide) ?_
                              refine lv_iload hx hb dX5_truth_330 (lv_at hl 11 rfl) ?_
                              refine lv_ishl hx hb dX5_truth_332 ?_
                              refine lv_ior hx hb dX5_truth_333 ?_
                              refine lv_topi (fun x_47 hx_47 => ?_)
                              refine lv_istore (lv' := [(7, .int x_47), (11, .int (nI 1)), (10, .int (M0 2 (24 * ag f + j))), (0, .ref (b 0)), (1, .int (nI lv)), (2, .int (nI f)), (3, .int (nI ((40 * lv) + f))), (4, .int mo), (5, .int (nI (ag f))), (6, .int (nI (p1 f))), (8, .int (semR M0 n kd p1 p2 sb ag mo (p1 f))), (9, .int (nI j))]) hx hb dX5_truth_334 hl (by decide) rfl (fun ls hl => ?_)
                              refine lv_iinc (v := (nI (j + 1))) (lv' := [(9, .int (nI (j + 1))), (7, .int x_47), (11, .int (nI 1)), (10, .int (M0 2 (24 * ag f + j))), (0, .ref (b 0)), (1, .int (nI lv)), (2, .int (nI f)), (3, .int (nI ((40 * lv) + f))), (4, .int mo), (5, .int (nI (ag f))), (6, .int (nI (p1 f))), (8, .int (semR M0 n kd p1 p2 sb ag mo (p1 f)))]) hx hb dX5_truth_336 hl (k := 11) rfl (nI_add j 1) (by decide) rfl (fun ls hl => ?_)
                              refine lv_goto (tgt := 183) hx hb dX5_truth_339 (by decide) ?_
                              have e_48 : x_47 = (fo (fun w r => if bt mo w && decide ((M0 2 (24 * ag f + w) &&& mo &&& (semR M0 n kd p1 p2 sb ag mo (p1 f) ^^^ (-1))) = 0) then r ||| sg w else r) (nI 0) (j + 1)) := by first | (rw [fo_s, if_neg (by rw [c199]; exact Bool.false_ne_true)]; done) | (rw [fo_s, if_pos (by rw [c199, decide_eq_true c312]; rfl)]; assumption) | (rw [fo_s, if_neg (by rw [c199, decide_eq_false c312]; exact Bool.false_ne_true)]; done)
                              exact cut183 (j + 1) (by omega) (by omega) _ _ hP hS ls (lcons (lcons (lcons (lcons (lcons (lcons (lcons (lcons (lcons (lcons (lzero hl) hl 0 rfl rfl) hl 11 rfl rfl) hl 1 rfl (congrArg Value.int e_48)) hl 10 rfl rfl) hl 9 rfl rfl) hl 8 rfl rfl) hl 7 rfl rfl) hl 6 rfl rfl) hl 5 rfl rfl) hl 4 rfl rfl)
                        ·
                          replace c284 : 3 = 0 := k0_nef c284 (by omega)
                          exfalso; omega
                    ·
                      replace c199 := bI_0 c199
                      refine lv_goto (tgt := 336) hx hb dX5_truth_202 (by decide) ?_
                      refine lv_iinc (v := (nI (j + 1))) (lv' := [(9, .int (nI (j + 1))), (0, .ref (b 0)), (1, .int (nI lv)), (2, .int (nI f)), (3, .int (nI ((40 * lv) + f))), (4, .int mo), (5, .int (nI (ag f))), (6, .int (nI (p1 f))), (7, .int (fo (fun w r => if bt mo w && decide ((M0 2 (24 * ag f + w) &&& mo &&& (semR M0 n kd p1 p2 sb ag mo (p1 f) ^^^ (-1))) = 0) then r ||| sg w else r) (nI 0) j)), (8, .int (semR M0 n kd p1 p2 sb ag mo (p1 f)))]) hx hb dX5_truth_336 hl (k := 9) rfl (nI_add j 1) (by decide) rfl (fun ls hl => ?_)
                      refine lv_goto (tgt := 183) hx hb dX5_truth_339 (by decide) ?_
                      have e_49 : (fo (fun w r => if bt mo w && decide ((M0 2 (24 * ag f + w) &&& mo &&& (semR M0 n kd p1 p2 sb ag mo (p1 f) ^^^ (-1))) = 0) then r ||| sg w else r) (nI 0) j) = (fo (fun w r => if bt mo w && decide ((M0 2 (24 * ag f + w) &&& mo &&& (semR M0 n kd p1 p2 sb ag mo (p1 f) ^^^ (-1))) = 0) then r ||| sg w else r) (nI 0) (j + 1)) := by first | (rw [fo_s, if_neg (by rw [c199]; exact Bool.false_ne_true)]; done) | (rw [fo_s, if_pos (by rw [c199, decide_eq_true c312]; rfl)]; assumption) | (rw [fo_s, if_neg (by rw [c199, decide_eq_false c312]; exact Bool.false_ne_true)]; done)
                      exact cut183 (j + 1) (by omega) (by omega) _ _ hP hS ls (lcons (lcons (lcons (lcons (lcons (lcons (lcons (lcons (lcons (lcons (lzero hl) hl 0 rfl rfl) hl 9 rfl rfl) hl 8 rfl (congrArg Value.int e_49)) hl 7 rfl rfl) hl 6 rfl rfl) hl 5 rfl rfl) hl 4 rfl rfl) hl 3 rfl rfl) hl 2 rfl rfl) hl 1 rfl rfl)
              have e_50 : (nI 0) = (fo (fun w r => if bt mo w && decide ((M0 2 (24 * ag f + w) &&& mo &&& (semR M0 n kd p1 p2 sb ag mo (p1 f) ^^^ (-1))) = 0) then r ||| sg w else r) (nI 0) 0) := by rfl
              exact cut183 (n + 1) 0 (by omega) (by omega) _ _ hP hS ls (lcons (lcons (lcons (lcons (lcons (lcons (lcons (lcons (lcons (lcons (lzero hl) hl 0 rfl rfl) hl 1 rfl rfl) hl 2 rfl (congrArg Value.int e_50)) hl 3 rfl rfl) hl 4 rfl rfl) hl 5 rfl rfl) hl 6 rfl rfl) hl 9 rfl rfl) hl 8 rfl rfl) hl 7 rfl rfl)
            ·
              replace c164 : 3 = 0 := k0_nef c164 (by omega)
              exfalso; omega
          ·
            replace c115 : 3 = 6 := k_nef c115 (by omega) (by omega)
            exfalso; omega
        ·
          replace c87 : 3 = 1 := k_nef c87 (by omega) (by omega)
          exfalso; omega
      ·
        replace c57 : 3 = 2 := k_nef c57 (by omega) (by omega)
        exfalso; omega
    ·
      refine lv_aload_n hx hb dX5_truth_16 rfl (lv_at hl 1 rfl) ?_
      refine va_get (D := D) (ci := 5) (v := .ref (b 10)) (C := RX5) (T := TX5) (N := 15) hx hb hts hinX5 hown hK1 hP 0 rfl rfl 13 (by decide) (hts (.fieldLink RX5 38 "KnowledgeModelModel" "truths" "[I") (List.mem_of_getElem? (i := 2) rfl)) (fun _ h9 => h9) rfl dX5_truth_17 ?_
      refine lv_iload_n hx hb dX5_truth_20 rfl (lv_at hl 0 rfl) ?_
      refine xiald (j := (40 * lv) + f) (q0 := 10) (t0 := 0) hx hb hK1 hP rfl rfl (by omega) (by decide) dX5_truth_21 ?_
      refine xtop (y := (semR M0 n kd p1 p2 sb ag mo f)) (by exact ((hti.2 f hf).resolve_left c13).2) ?_
      subst hQ
      have hrel : TR M0 M n nf kd p1 p2 sb ag lv mo M := by first | exact TR_r hti | (simp only [fo_0, c13]; exact TR_w (TR_r hti) hf hval) | (simp only [fo_0, c13]; exact TR_w trivial hf hval) | (simp only [fo_0, c13]; exact TR_w (TR_t trivial trivial) hf hval) | (simp only [fo_0, c13]; exact TR_w (TR_b trivial hf40 (by simpa only [fo_0, c13] using trivial)) hf hval)
      have hfin : (semR M0 n kd p1 p2 sb ag mo f) = semR M0 n kd p1 p2 sb ag mo f := by first | exact hval | rfl
      exact W.iret hx hb hr (fun t ht hW => ⟨⟨_, M, rfl, ⟨hfin, hrel⟩, by rw [← ht] at hP; exact hP⟩, hS.F ht⟩) hS.2.2 dX5_truth_22
  ·
    have hq1 := hL.1 (by omega)
    have hz1 := hE1 (by omega)
    have hB1 := hB (by omega)
    refine lv_bipush (v := (nI 40)) hx hb dX5_truth_0 (by decide) ?_
    refine lv_iload_n hx hb dX5_truth_2 rfl (lv_at hl 1 rfl) ?_
    refine ximul hx hb dX5_truth_3 ?_
    refine lv_iload_n hx hb dX5_truth_4 rfl (lv_at hl 2 rfl) ?_
    refine xiadd hx hb dX5_truth_5 ?_
    refine lv_istore_n (lv' := [(3, .int (nI ((40 * lv) + f))), (0, .ref (b 0)), (1, .int (nI lv)), (2, .int (nI f))]) hx hb dX5_truth_6 rfl hl (by decide) rfl (fun ls hl => ?_)
    refine lv_aload_n hx hb dX5_truth_7 rfl (lv_at hl 1 rfl) ?_
    refine va_get (D := D) (ci := 5) (v := .ref (b 9)) (C := RX5) (T := TX5) (N := 15) hx hb hts hinX5 hown hK1 hP 0 rfl rfl 12 (by decide) (hts (.fieldLink RX5 34 "KnowledgeModelModel" "areKnown" "[Z") (List.mem_of_getElem? (i := 1) rfl)) (fun _ h9 => h9) rfl dX5_truth_8 ?_
    refine lv_iload_n hx hb dX5_truth_11 rfl (lv_at hl 0 rfl) ?_
    refine xzald (j := (40 * lv) + f) (q0 := 9) (t0 := 3) hx hb hK1 hP rfl rfl (by omega) (by decide) dX5_truth_12 ?_
    refine lv_if_eq (tgt := 23) hx hb dX5_truth_13 (by decide) (fun c13 => ?_) (fun c13 => ?_)
    ·
      refine lv_aload_n hx hb dX5_truth_23 rfl (lv_at hl 1 rfl) ?_
      refine va_get (D := D) (ci := 5) (v := .ref (b 8)) (C := RX5) (T := TX5) (N := 15) hx hb hts hinX5 hown hK1 hP 0 rfl rfl 11 (by decide) (hts (.fieldLink RX5 31 "KnowledgeModelModel" "lefts" "[I") (List.mem_of_getElem? (i := 3) rfl)) (fun _ h9 => h9) rfl dX5_truth_24 ?_
      refine lv_iload_n hx hb dX5_truth_27 rfl (lv_at hl 2 rfl) ?_
      refine xiald (j := lv) (q0 := 8) (t0 := 0) hx hb hK1 hP rfl rfl (by omega) (by decide) dX5_truth_28 ?_
      refine xtop (y := mo) (by exact hti.1) ?_
      refine lv_istore (lv' := [(4, .int mo), (3, .int (nI ((40 * lv) + f))), (0, .ref (b 0)), (1, .int (nI lv)), (2, .int (nI f))]) hx hb dX5_truth_29 hl (by decide) rfl (fun ls hl => ?_)
      refine lv_aload_n hx hb dX5_truth_31 rfl (lv_at hl 2 rfl) ?_
      refine va_get (D := D) (ci := 5) (v := .ref (b 4)) (C := RX5) (T := TX5) (N := 15) hx hb hts hinX5 hown hK1 hP 0 rfl rfl 7 (by decide) (hts (.fieldLink RX5 19 "KnowledgeModelModel" "firsts" "[I") (List.mem_of_getElem? (i := 4) rfl)) (fun _ h9 => h9) rfl dX5_truth_32 ?_
      refine lv_iload_n hx hb dX5_truth_35 rfl (lv_at hl 4 rfl) ?_
      refine xiald (j := f) (q0 := 4) (t0 := 0) hx hb hK1 hP rfl rfl (by omega) (by decide) dX5_truth_36 ?_
      refine xtop (y := (M0 4 f)) (by exact hag 4 f (by decide)) ?_
      refine lv_istore (lv' := [(5, .int (M0 4 f)), (4, .int mo), (3, .int (nI ((40 * lv) + f))), (0, .ref (b 0)), (1, .int (nI lv)), (2, .int (nI f))]) hx hb dX5_truth_37 hl (by decide) rfl (fun ls hl => ?_)
      refine lv_aload_n hx hb dX5_truth_39 rfl (lv_at hl 3 rfl) ?_
      refine va_get (D := D) (ci := 5) (v := .ref (b 5)) (C := RX5) (T := TX5) (N := 15) hx hb hts hinX5 hown hK1 hP 0 rfl rfl 8 (by decide) (hts (.fieldLink RX5 22 "KnowledgeModelModel" "seconds" "[I") (List.mem_of_getElem? (i := 5) rfl)) (fun _ h9 => h9) rfl dX5_truth_40 ?_
      refine lv_iload_n hx hb dX5_truth_43 rfl (lv_at hl 5 rfl) ?_
      refine xiald (j := f) (q0 := 5) (t0 := 0) hx hb hK1 hP rfl rfl (by omega) (by decide) dX5_truth_44 ?_
      refine xtop (y := (nI (p1 f))) (by exact (hag 5 f (by decide)).trans hB1) ?_
      refine lv_istore (lv' := [(6, .int (nI (p1 f))), (5, .int (M0 4 f)), (4, .int mo), (3, .int (nI ((40 * lv) + f))), (0, .ref (b 0)), (1, .int (nI lv)), (2, .int (nI f))]) hx hb dX5_truth_45 hl (by decide) rfl (fun ls hl => ?_)
      refine lv_iconst (v := (nI 0)) hx hb dX5_truth_47 (by decide) ?_
      refine lv_istore (lv' := [(7, .int (nI 0)), (6, .int (nI (p1 f))), (5, .int (M0 4 f)), (4, .int mo), (3, .int (nI ((40 * lv) + f))), (0, .ref (b 0)), (1, .int (nI lv)), (2, .int (nI f))]) hx hb dX5_truth_48 hl (by decide) rfl (fun ls hl => ?_)
      refine lv_aload_n hx hb dX5_truth_50 rfl (lv_at hl 5 rfl) ?_
      refine va_get (D := D) (ci := 5) (v := .ref (b 3)) (C := RX5) (T := TX5) (N := 15) hx hb hts hinX5 hown hK1 hP 0 rfl rfl 6 (by decide) (hts (.fieldLink RX5 16 "KnowledgeModelModel" "kinds" "[I") (List.mem_of_getElem? (i := 6) rfl)) (fun _ h9 => h9) rfl dX5_truth_51 ?_
      refine lv_iload_n hx hb dX5_truth_54 rfl (lv_at hl 7 rfl) ?_
      refine xiald (j := f) (q0 := 3) (t0 := 0) hx hb hK1 hP rfl rfl (by omega) (by decide) dX5_truth_55 ?_
      refine xtop (y := (nI 4)) (by exact ((hag 3 f (by decide)).trans hk3).trans (congrArg nI hkd)) ?_
      refine lv_iconst (v := (nI 2)) hx hb dX5_truth_56 (by decide) ?_
      refine lv_icmp_ne (tgt := 80) hx hb dX5_truth_57 (by decide) (fun c57 => ?_) (fun c57 => ?_)
      ·
        replace c57 : ¬ 4 = 2 := k_net c57 (by omega) (by omega)
        refine lv_aload_n hx hb dX5_truth_80 rfl (lv_at hl 5 rfl) ?_
        refine va_get (D := D) (ci := 5) (v := .ref (b 3)) (C := RX5) (T := TX5) (N := 15) hx hb hts hinX5 hown hK1 hP 0 rfl rfl 6 (by decide) (hts (.fieldLink RX5 16 "KnowledgeModelModel" "kinds" "[I") (List.mem_of_getElem? (i := 6) rfl)) (fun _ h9 => h9) rfl dX5_truth_81 ?_
        refine lv_iload_n hx hb dX5_truth_84 rfl (lv_at hl 7 rfl) ?_
        refine xiald (j := f) (q0 := 3) (t0 := 0) hx hb hK1 hP rfl rfl (by omega) (by decide) dX5_truth_85 ?_
        refine xtop (y := (nI 4)) (by exact ((hag 3 f (by decide)).trans hk3).trans (congrArg nI hkd)) ?_
        refine lv_iconst (v := (nI 1)) hx hb dX5_truth_86 (by decide) ?_
        refine lv_icmp_ne (tgt := 107) hx hb dX5_truth_87 (by decide) (fun c87 => ?_) (fun c87 => ?_)
        ·
          replace c87 : ¬ 4 = 1 := k_net c87 (by omega) (by omega)
          refine lv_aload_n hx hb dX5_truth_107 rfl (lv_at hl 5 rfl) ?_
          refine va_get (D := D) (ci := 5) (v := .ref (b 3)) (C := RX5) (T := TX5) (N := 15) hx hb hts hinX5 hown hK1 hP 0 rfl rfl 6 (by decide) (hts (.fieldLink RX5 16 "KnowledgeModelModel" "kinds" "[I") (List.mem_of_getElem? (i := 6) rfl)) (fun _ h9 => h9) rfl dX5_truth_108 ?_
          refine lv_iload_n hx hb dX5_truth_111 rfl (lv_at hl 7 rfl) ?_
          refine xiald (j := f) (q0 := 3) (t0 := 0) hx hb hK1 hP rfl rfl (by omega) (by decide) dX5_truth_112 ?_
          refine xtop (y := (nI 4)) (by exact ((hag 3 f (by decide)).trans hk3).trans (congrArg nI hkd)) ?_
          refine lv_bipush (v := (nI 6)) hx hb dX5_truth_113 (by decide) ?_
          refine lv_icmp_ne (tgt := 158) hx hb dX5_truth_115 (by decide) (fun c115 => ?_) (fun c115 => ?_)
          ·
            replace c115 : ¬ 4 = 6 := k_net c115 (by omega) (by omega)
            refine lv_aload_n hx hb dX5_truth_158 rfl (lv_at hl 5 rfl) ?_
            refine va_get (D := D) (ci := 5) (v := .ref (b 3)) (C := RX5) (T := TX5) (N := 15) hx hb hts hinX5 hown hK1 hP 0 rfl rfl 6 (by decide) (hts (.fieldLink RX5 16 "KnowledgeModelModel" "kinds" "[I") (List.mem_of_getElem? (i := 6) rfl)) (fun _ h9 => h9) rfl dX5_truth_159 ?_
            refine lv_iload_n hx hb dX5_truth_162 rfl (lv_at hl 7 rfl) ?_
            refine xiald (j := f) (q0 := 3) (t0 := 0) hx hb hK1 hP rfl rfl (by omega) (by decide) dX5_truth_163 ?_
            refine xtop (y := (nI 4)) (by exact ((hag 3 f (by decide)).trans hk3).trans (congrArg nI hkd)) ?_
            refine lv_if_ne (tgt := 171) hx hb dX5_truth_164 (by decide) (fun c164 => ?_) (fun c164 => ?_)
            ·
              replace c164 : ¬ 4 = 0 := k0_net c164 (by omega)
              refine lv_aload_n hx hb dX5_truth_171 rfl (lv_at hl 5 rfl) ?_
              refine lv_iload_n hx hb dX5_truth_172 rfl (lv_at hl 6 rfl) ?_
              refine lv_iload hx hb dX5_truth_173 (lv_at hl 1 rfl) ?_
              refine xcallwi (va_runV (As := [.int (nI lv), .int (nI (p1 f))]) (rest := []) ⟨hx, hb, hml, hown, hts⟩ (ih (p1 f) (by omega) M _ lv mo hag hlv (by omega) (by omega) hti) (cwV 2 hts gX5_truth_X5_truth rfl rfl rfl (by decide +kernel) ⟨by dsimp only; omega, by dsimp only; omega⟩) (xpreVs hP hK (ci := 5) 0 rfl rfl) rfl rfl hl.1 rfl (lv_room (Nat.le_of_ble_eq_true rfl)) dX5_truth_175 ⟨Nat.le_of_ble_eq_true rfl, Nat.le_of_ble_eq_true rfl⟩) hS (kAle hS.1) (fun u_51 H locs hu_51 hP _ _ hS => ?_)
              have hP : va_P D vwCl (rc cs b u_51) H := hP
              have hk_52 : u_51 0 1 = nI n := by rw [hu_51.1 0 1 (by decide)]; exact hn
              have hk_53 : u_51 0 3 = nI nf := by rw [hu_51.1 0 3 (by decide)]; exact hfc
              refine lv_istore (lv' := [(8, .int (semR M0 n kd p1 p2 sb ag mo (p1 f))), (7, .int (nI 0)), (6, .int (nI (p1 f))), (5, .int (M0 4 f)), (4, .int mo), (3, .int (nI ((40 * lv) + f))), (0, .ref (b 0)), (1, .int (nI lv)), (2, .int (nI f))]) hx hb dX5_truth_178 hl (by decide) rfl (fun ls hl => ?_)
              refine lv_iconst (v := (nI 0)) hx hb dX5_truth_180 (by decide) ?_
              refine lv_istore (lv' := [(9, .int (nI 0)), (8, .int (semR M0 n kd p1 p2 sb ag mo (p1 f))), (7, .int (nI 0)), (6, .int (nI (p1 f))), (5, .int (M0 4 f)), (4, .int mo), (3, .int (nI ((40 * lv) + f))), (0, .ref (b 0)), (1, .int (nI lv)), (2, .int (nI f))]) hx hb dX5_truth_181 hl (by decide) rfl (fun ls hl => ?_)
              have cut183 : ∀ (f183 : Nat) (j : Nat) (hj : j ≤ n), n + 1 ≤ j + f183 → ∀ (H : Heap) (locs : List Loc), va_P D vwCl (rc cs b u_51) H → va_S (kA b 12 s.heap.size) s.heap H locs → ∀ (ls : Array Slot), lv_has ls 12 [(0, .ref (b 0)), (1, .int (nI lv)), (2, .int (nI f)), (3, .int (nI ((40 * lv) + f))), (4, .int mo), (5, .int (M0 4 f)), (6, .int (nI (p1 f))), (7, .int (fo (fun w r => if bt mo w && decide ((reachR M0 n (M0 4 f) w mo &&& mo &&& (semR M0 n kd p1 p2 sb ag mo (p1 f) ^^^ (-1))) = 0) then r ||| sg w else r) (nI 0) j)), (8, .int (semR M0 n kd p1 p2 sb ag mo (p1 f))), (9, .int (nI j))] → W p l e ({ frames := 6 + f, cells := 0, slots := 0, locals := 100 + 31 * f } : Room) s m ([.ref (b 0), .int (nI lv), .int (nI f)] : List Value).toArray below meth c H locs 0 0 Q (F0 m 183 ls []) := by
                intro f183
                induction f183 with
                | zero => intro j hj hfu183; exact absurd hfu183 (by omega)
                | succ f183 cut183 =>
                  intro j hj hfu183 H locs hP hS ls hl
                  refine lv_iload hx hb dX5_truth_183 (lv_at hl 9 rfl) ?_
                  refine lv_aload_n hx hb dX5_truth_185 rfl (lv_at hl 0 rfl) ?_
                  refine va_get (D := D) (ci := 5) (v := .int (u_51 0 1)) (C := RX5) (T := TX5) (N := 15) hx hb hts hinX5 hown hK1 hP 0 rfl rfl 1 (by decide) (hts (.fieldLink RX5 48 "KnowledgeModelModel" "worlds" "I") (List.mem_of_getElem? (i := 7) rfl)) (fun _ h9 => h9) rfl dX5_truth_186 ?_
                  refine xtop (y := nI n) (hk_52) ?_
                  refine lv_icmp_ge (tgt := 342) hx hb dX5_truth_189 (by decide) (fun c189 => ?_) (fun c189 => ?_)
                  ·
                    replace c189 : n ≤ j := k_get c189 (by omega) (by omega)
                    have hje : j = n := by omega
                    have hval : (fo (fun w r => if bt mo w && decide ((reachR M0 n (M0 4 f) w mo &&& mo &&& (semR M0 n kd p1 p2 sb ag mo (p1 f) ^^^ (-1))) = 0) then r ||| sg w else r) (nI 0) j) = semR M0 n kd p1 p2 sb ag mo f := by rw [semR_eq hwp hf]; simp only [askR, hkd, if_true, if_false, show (1 : Nat) ≠ 0 by decide, show (2 : Nat) ≠ 0 by decide, show (2 : Nat) ≠ 1 by decide, show (3 : Nat) ≠ 0 by decide, show (3 : Nat) ≠ 1 by decide, show (3 : Nat) ≠ 2 by decide, show (3 : Nat) ≠ 6 by decide, show (4 : Nat) ≠ 0 by decide, show (4 : Nat) ≠ 1 by decide, show (4 : Nat) ≠ 2 by decide, show (4 : Nat) ≠ 3 by decide, show (4 : Nat) ≠ 6 by decide, show (5 : Nat) ≠ 0 by decide, show (5 : Nat) ≠ 1 by decide, show (5 : Nat) ≠ 2 by decide, show (5 : Nat) ≠ 3 by decide, show (5 : Nat) ≠ 4 by decide, show (5 : Nat) ≠ 6 by decide, show (6 : Nat) ≠ 0 by decide, show (6 : Nat) ≠ 1 by decide, show (6 : Nat) ≠ 2 by decide, hje]
                    refine lv_aload_n hx hb dX5_truth_342 rfl (lv_at hl 0 rfl) ?_
                    refine va_get (D := D) (ci := 5) (v := .ref (b 10)) (C := RX5) (T := TX5) (N := 15) hx hb hts hinX5 hown hK1 hP 0 rfl rfl 13 (by decide) (hts (.fieldLink RX5 38 "KnowledgeModelModel" "truths" "[I") (List.mem_of_getElem? (i := 2) rfl)) (fun _ h9 => h9) rfl dX5_truth_343 ?_
                    refine lv_iload_n hx hb dX5_truth_346 rfl (lv_at hl 3 rfl) ?_
                    refine lv_iload hx hb dX5_truth_347 (lv_at hl 7 rfl) ?_
                    refine lv_topi (fun x_54 hx_54 => ?_)
                    refine xiast (j := (40 * lv) + f) (q0 := 10) (t0 := 0) (ws' := rc cs b (wr u_51 10 ((40 * lv) + f) x_54)) hx hb hK1 hP (rD hI) hS rfl rfl (by omega) (by decide) rs_10 dX5_truth_349 (fun H locs hP hS => ?_)
                    obtain ⟨M_55, hM_55⟩ : ∃ z, z = wr u_51 10 ((40 * lv) + f) x_54 := ⟨_, rfl⟩
                    rw [← hM_55] at hP
                    have hk_56 : M_55 0 1 = nI n := by rw [hM_55]; exact (wr_ne (Or.inl (by omega))).trans hk_52
                    have hk_57 : M_55 0 3 = nI nf := by rw [hM_55]; exact (wr_ne (Or.inl (by omega))).trans hk_53
                    refine lv_aload_n hx hb dX5_truth_350 rfl (lv_at hl 0 rfl) ?_
                    refine va_get (D := D) (ci := 5) (v := .ref (b 9)) (C := RX5) (T := TX5) (N := 15) hx hb hts hinX5 hown hK1 hP 0 rfl rfl 12 (by decide) (hts (.fieldLink RX5 34 "KnowledgeModelModel" "areKnown" "[Z") (List.mem_of_getElem? (i := 1) rfl)) (fun _ h9 => h9) rfl dX5_truth_351 ?_
                    refine lv_iload_n hx hb dX5_truth_354 rfl (lv_at hl 3 rfl) ?_
                    refine lv_iconst (v := (nI 1)) hx hb dX5_truth_355 (by decide) ?_
                    refine xzast (j := (40 * lv) + f) (q0 := 9) (t0 := 3) (ws' := rc cs b (wr M_55 9 ((40 * lv) + f) (nI 1))) hx hb hK1 hP (rD hI) hS rfl rfl (by omega) (by decide) (by decide) rs_9 dX5_truth_356 (fun H locs hP hS => ?_)
                    obtain ⟨M_58, hM_58⟩ : ∃ z, z = wr M_55 9 ((40 * lv) + f) (nI 1) := ⟨_, rfl⟩
                    rw [← hM_58] at hP
                    have hk_59 : M_58 0 1 = nI n := by rw [hM_58]; exact (wr_ne (Or.inl (by omega))).trans hk_56
                    have hk_60 : M_58 0 3 = nI nf := by rw [hM_58]; exact (wr_ne (Or.inl (by omega))).trans hk_57
                    refine lv_iload hx hb dX5_truth_357 (lv_at hl 7 rfl) ?_
                    subst hQ
                    have hrel : TR M0 M n nf kd p1 p2 sb ag lv mo M_58 := by first | exact TR_r hti | (simp only [fo_0, c13, c57, c87, c115, c164, c189, hx_54, hM_55, hM_58]; exact TR_w (TR_r hti) hf hval) | (simp only [fo_0, c13, c57, c87, c115, c164, c189, hx_54, hM_55, hM_58]; exact TR_w hu_51 hf hval) | (simp only [fo_0, c13, c57, c87, c115, c164, c189, hx_54, hM_55, hM_58]; exact TR_w (TR_t hu_51 hu_51) hf hval) | (simp only [fo_0, c13, c57, c87, c115, c164, c189, hx_54, hM_55, hM_58]; exact TR_w (TR_b hu_51 hf40 (by simpa only [fo_0, c13, c57, c87, c115, c164, c189, hx_54, hM_55, hM_58] using hu_51)) hf hval)
                    have hfin : (fo (fun w r => if bt mo w && decide ((reachR M0 n (M0 4 f) w mo &&& mo &&& (semR M0 n kd p1 p2 sb ag mo (p1 f) ^^^ (-1))) = 0) then r ||| sg w else r) (nI 0) j) = semR M0 n kd p1 p2 sb ag mo f := by first | exact hval | rfl
                    exact W.iret hx hb hr (fun t ht hW => ⟨⟨_, M_58, rfl, ⟨hfin, hrel⟩, by rw [← ht] at hP; exact hP⟩, hS.F ht⟩) hS.2.2 dX5_truth_359
                  ·
                    replace c189 : j < n := k_gef c189 (by omega) (by omega)
                    refine lv_iload hx hb dX5_truth_192 (lv_at hl 4 rfl) ?_
                    refine lv_iload hx hb dX5_truth_194 (lv_at hl 9 rfl) ?_
                    refine xcalli (va_runS (As := [.int mo, .int (nI j)]) (rest := []) ⟨hx, hb, hml, hown, hts⟩ (c_X5_has l mo j (by omega)) (va_cwS 2 hts gX5_truth_X5_has rfl rfl rfl (by decide +kernel) ⟨by dsimp only; omega, by dsimp only; omega⟩) xpreN rfl rfl hl.1 rfl (lv_room (Nat.le_of_ble_eq_true rfl)) dX5_truth_196 ⟨Nat.le_of_ble_eq_true rfl, Nat.le_of_ble_eq_true rfl⟩) hS hP (fun H locs hP hS => ?_)
                    refine lv_if_ne (tgt := 205) hx hb dX5_truth_199 (by decide) (fun c199 => ?_) (fun c199 => ?_)
                    ·
                      replace c199 := bI_n0 c199
                      refine lv_aload_n hx hb dX5_truth_205 rfl (lv_at hl 0 rfl) ?_
                      refine va_get (D := D) (ci := 5) (v := .ref (b 3)) (C := RX5) (T := TX5) (N := 15) hx hb hts hinX5 hown hK1 hP 0 rfl rfl 6 (by decide) (hts (.fieldLink RX5 16 "KnowledgeModelModel" "kinds" "[I") (List.mem_of_getElem? (i := 6) rfl)) (fun _ h9 => h9) rfl dX5_truth_206 ?_
                      refine lv_iload_n hx hb dX5_truth_209 rfl (lv_at hl 2 rfl) ?_
                      refine xiald (j := f) (q0 := 3) (t0 := 0) hx hb hK1 hP rfl rfl (by omega) (by decide) dX5_truth_210 ?_
                      refine xtop (y := (nI 4)) (by exact (((Ag8_t hag hu_51) 3 f (by decide)).trans hk3).trans (congrArg nI hkd)) ?_
                      refine lv_iconst (v := (nI 3)) hx hb dX5_truth_211 (by decide) ?_
                      refine lv_icmp_ne (tgt := 231) hx hb dX5_truth_212 (by decide) (fun c212 => ?_) (fun c212 => ?_)
                      ·
                        replace c212 : ¬ 4 = 3 := k_net c212 (by omega) (by omega)
                        refine lv_aload_n hx hb dX5_truth_231 rfl (lv_at hl 0 rfl) ?_
                        refine va_get (D := D) (ci := 5) (v := .ref (b 3)) (C := RX5) (T := TX5) (N := 15) hx hb hts hinX5 hown hK1 hP 0 rfl rfl 6 (by decide) (hts (.fieldLink RX5 16 "KnowledgeModelModel" "kinds" "[I") (List.mem_of_getElem? (i := 6) rfl)) (fun _ h9 => h9) rfl dX5_truth_232 ?_
                        refine lv_iload_n hx hb dX5_truth_235 rfl (lv_at hl 2 rfl) ?_
                        refine xiald (j := f) (q0 := 3) (t0 := 0) hx hb hK1 hP rfl rfl (by omega) (by decide) dX5_truth_236 ?_
                        refine xtop (y := (nI 4)) (by exact (((Ag8_t hag hu_51) 3 f (by decide)).trans hk3).trans (congrArg nI hkd)) ?_
                        refine lv_iconst (v := (nI 4)) hx hb dX5_truth_237 (by decide) ?_
                        refine lv_icmp_ne (tgt := 254) hx hb dX5_truth_238 (by decide) (fun c238 => ?_) (fun c238 => ?_)
                        ·
                          replace c238 : ¬ 4 = 4 := k_net c238 (by omega) (by omega)
                          exfalso; omega
                        ·
                          replace c238 : 4 = 4 := k_nef c238 (by omega) (by omega)
                          refine lv_aload_n hx hb dX5_truth_241 rfl (lv_at hl 0 rfl) ?_
                          refine lv_iload hx hb dX5_truth_242 (lv_at hl 5 rfl) ?_
                          refine lv_iload hx hb dX5_truth_244 (lv_at hl 9 rfl) ?_
                          refine lv_iload hx hb dX5_truth_246 (lv_at hl 4 rfl) ?_
                          refine xcalli (va_runV (As := [.int (M0 4 f), .int (nI j), .int mo]) (rest := []) ⟨hx, hb, hml, hown, hts⟩ (c_X5_reach l D cs b u_51 n (M0 4 f) j mo hk_52 (by omega)) (cwV 3 hts gX5_truth_X5_reach rfl rfl rfl (by decide +kernel) ⟨by dsimp only; omega, by dsimp only; omega⟩) (xpreV hP hK (ci := 5) 0 rfl rfl) rfl rfl hl.1 rfl (lv_room (Nat.le_of_ble_eq_true rfl)) dX5_truth_248 ⟨Nat.le_of_ble_eq_true rfl, Nat.le_of_ble_eq_true rfl⟩) hS hP (fun H locs hP hS => ?_)
                          refine xtop (y := (reachR M0 n (M0 4 f) j mo)) (by exact reachR_c (Ag8_t hag hu_51)) ?_
                          refine lv_goto (tgt := 276) hx hb dX5_truth_251 (by decide) ?_
                          refine lv_istore (lv' := [(10, .int (reachR M0 n (M0 4 f) j mo)), (0, .ref (b 0)), (1, .int (nI lv)), (2, .int (nI f)), (3, .int (nI ((40 * lv) + f))), (4, .int mo), (5, .int (M0 4 f)), (6, .int (nI (p1 f))), (7, .int (fo (fun w r => if bt mo w && decide ((reachR M0 n (M0 4 f) w mo &&& mo &&& (semR M0 n kd p1 p2 sb ag mo (p1 f) ^^^ (-1))) = 0) then r ||| sg w else r) (nI 0) j)), (8, .int (semR M0 n kd p1 p2 sb ag mo (p1 f))), (9, .int (nI j))]) hx hb dX5_truth_276 hl (by decide) rfl (fun ls hl => ?_)
                          refine lv_aload_n hx hb dX5_truth_278 rfl (lv_at hl 1 rfl) ?_
                          refine va_get (D := D) (ci := 5) (v := .ref (b 3)) (C := RX5) (T := TX5) (N := 15) hx hb hts hinX5 hown hK1 hP 0 rfl rfl 6 (by decide) (hts (.fieldLink RX5 16 "KnowledgeModelModel" "kinds" "[I") (List.mem_of_getElem? (i := 6) rfl)) (fun _ h9 => h9) rfl dX5_truth_279 ?_
                          refine lv_iload_n hx hb dX5_truth_282 rfl (lv_at hl 3 rfl) ?_
                          refine xiald (j := f) (q0 := 3) (t0 := 0) hx hb hK1 hP rfl rfl (by omega) (by decide) dX5_truth_283 ?_
                          refine xtop (y := (nI 4)) (by exact (((Ag8_t hag hu_51) 3 f (by decide)).trans hk3).trans (congrArg nI hkd)) ?_
                          refine lv_if_ne (tgt := 302) hx hb dX5_truth_284 (by decide) (fun c284 => ?_) (fun c284 => ?_)
                          ·
                            replace c284 : ¬ 4 = 0 := k0_net c284 (by omega)
                            refine lv_iload hx hb dX5_truth_302 (lv_at hl 0 rfl) ?_
                            refine lv_iload hx hb dX5_truth_304 (lv_at hl 5 rfl) ?_
                            refine lv_iand hx hb dX5_truth_306 ?_
                            refine lv_iload hx hb dX5_truth_307 (lv_at hl 9 rfl) ?_
                            refine lv_iconst (v := (-1 : Int32)) hx hb dX5_truth_309 (by decide) ?_
                            refine lv_ixor hx hb dX5_truth_310 ?_
                            refine lv_iand hx hb dX5_truth_311 ?_
                            refine lv_if_ne (tgt := 319) hx hb dX5_truth_312 (by decide) (fun c312 => ?_) (fun c312 => ?_)
                            ·
                              refine lv_iconst (v := (nI 0)) hx hb dX5_truth_319 (by decide) ?_
                              refine lv_istore (lv' := [(11, .int (nI 0)), (10, .int (reachR M0 n (M0 4 f) j mo)), (0, .ref (b 0)), (1, .int (nI lv)), (2, .int (nI f)), (3, .int (nI ((40 * lv) + f))), (4, .int mo), (5, .int (M0 4 f)), (6, .int (nI (p1 f))), (7, .int (fo (fun w r => if bt mo w && decide ((reachR M0 n (M0 4 f) w mo &&& mo &&& (semR M0 n kd p1 p2 sb ag mo (p1 f) ^^^ (-1))) = 0) then r ||| sg w else r) (nI 0) j)), (8, .int (semR M0 n kd p1 p2 sb ag mo (p1 f))), (9, .int (nI j))]) hx hb dX5_truth_320 hl (by decide) rfl (fun ls hl => ?_)
                              refine lv_iload hx hb dX5_truth_322 (lv_at hl 0 rfl) ?_
                              refine lv_if_eq (tgt := 336) hx hb dX5_truth_324 (by decide) (fun c324 => ?_) (fun c324 => ?_)
                              ·
                                replace c324 : 0 = 0 := k0_eqt c324 (by omega)
                                refine lv_iinc (v := (nI (j + 1))) (lv' := [(9, .int (nI (j + 1))), (11, .int (nI 0)), (10, .int (reachR M0 n (M0 4 f) j mo)), (0, .ref (b 0)), (1, .int (nI lv)), (2, .int (nI f)), (3, .int (nI ((40 * lv) + f))), (4, .int mo), (5, .int (M0 4 f)), (6, .int (nI (p1 f))), (7, .int (fo (fun w r => if bt mo w && decide ((reachR M0 n (M0 4 f) w mo &&& mo &&& (semR M0 n kd p1 p2 sb ag mo (p1 f) ^^^ (-1))) = 0) then r ||| sg w else r) (nI 0) j)), (8, .int (semR M0 n kd p1 p2 sb ag mo (p1 f)))]) hx hb dX5_truth_336 hl (k := 11) rfl (nI_add j 1) (by decide) rfl (fun ls hl => ?_)
                                refine lv_goto (tgt := 183) hx hb dX5_truth_339 (by decide) ?_
                                have e_61 : (fo (fun w r => if bt mo w && decide ((reachR M0 n (M0 4 f) w mo &&& mo &&& (semR M0 n kd p1 p2 sb ag mo (p1 f) ^^^ (-1))) = 0) then r ||| sg w else r) (nI 0) j) = (fo (fun w r => if bt mo w && decide ((reachR M0 n (M0 4 f) w mo &&& mo &&& (semR M0 n kd p1 p2 sb ag mo (p1 f) ^^^ (-1))) = 0) then r ||| sg w else r) (nI 0) (j + 1)) := by first | (rw [fo_s, if_neg (by rw [c199]; exact Bool.false_ne_true)]; done) | (rw [fo_s, if_pos (by rw [c199, decide_eq_true c312]; rfl)]; assumption) | (rw [fo_s, if_neg (by rw [c199, decide_eq_false c312]; exact Bool.false_ne_true)]; done)
                                exact cut183 (j + 1) (by omega) (by omega) _ _ hP hS ls (lcons (lcons (lcons (lcons (lcons (lcons (lcons (lcons (lcons (lcons (lzero hl) hl 0 rfl rfl) hl 11 rfl rfl) hl 10 rfl (congrArg Value.int e_61)) hl 9 rfl rfl) hl 8 rfl rfl) hl 7 rfl rfl) hl 6 rfl rfl) hl 5 rfl rfl) hl 4 rfl rfl) hl 3 rfl rfl)
                              ·
                                replace c324 : ¬ 0 = 0 := k0_eqf c324 (by omega)
                                exfalso; omega
                            ·
                              refine lv_iconst (v := (nI 1)) hx hb dX5_truth_315 (by decide) ?_
                              refine lv_goto (tgt := 320) hx hb dX5_truth_316 (by decide) ?_
                              refine lv_istore (lv' := [(11, .int (nI 1)), (10, .int (reachR M0 n (M0 4 f) j mo)), (0, .ref (b 0)), (1, .int (nI lv)), (2, .int (nI f)), (3, .int (nI ((40 * lv) + f))), (4, .int mo), (5, .int (M0 4 f)), (6, .int (nI (p1 f))), (7, .int (fo (fun w r => if bt mo w && decide ((reachR M0 n (M0 4 f) w mo &&& mo &&& (semR M0 n kd p1 p2 sb ag mo (p1 f) ^^^ (-1))) = 0) then r ||| sg w else r) (nI 0) j)), (8, .int (semR M0 n kd p1 p2 sb ag mo (p1 f))), (9, .int (nI j))]) hx hb dX5_truth_320 hl (by decide) rfl (fun ls hl => ?_)
                              refine lv_iload hx hb dX5_truth_322 (lv_at hl 0 rfl) ?_
                              refine lv_if_eq (tgt := 336) hx hb dX5_truth_324 (by decide) (fun c324 => ?_) (fun c324 => ?_)
                              ·
                                replace c324 : 1 = 0 := k0_eqt c324 (by omega)
                                exfalso; omega
                              ·
                                replace c324 : ¬ 1 = 0 := k0_eqf c324 (by omega)
                                refine lv_iload hx hb dX5_truth_327 (lv_at hl 9 rfl) ?_
                                refine lv_iconst (v := (nI 1)) hx hb dX5_truth_329 (by decide) ?_
                                refine lv_iload hx hb dX5_truth_330 (lv_at hl 11 rfl) ?_
                                refine lv_ishl hx hb dX5_truth_332 ?_
                                refine lv_ior hx hb dX5_truth_333 ?_
                                refine lv_topi (fun x_62 hx_62 => ?_)
                                refine lv_istore (lv' := [(7, .int x_62), (11, .int (nI 1)), (10, .int (reachR M0 n (M0 4 f) j mo)), (0, .ref (b 0)), (1, .int (nI lv)), (2, .int (nI f)), (3, .int (nI ((40 * lv) + f))), (4, .int mo), (5, .int (M0 4 f)), (6, .int (nI (p1 f))), (8, .int (semR M0 n kd p1 p2 sb ag mo (p1 f))), (9, .int (nI j))]) hx hb dX5_truth_334 hl (by decide) rfl (fun ls hl => ?_)
                                refine lv_iinc (v := (nI (j + 1))) (lv' := [(9, .int (nI (j + 1))), (7, .int x_62), (11, .int (nI 1)), (10, .int (reachR M0 n (M0 4 f) j mo)), (0, .ref (b 0)), (1, .int (nI lv)), (2, .int (nI f)), (3, .int (nI ((40 * lv) + f))), (4, .int mo), (5, .int (M0 4 f)), (6, .int (nI (p1 f))), (8, .int (semR M0 n kd p1 p2 sb ag mo (p1 f)))]) hx hb dX5_truth_336 hl (k := 11) rfl (nI_add j 1) (by decide) rfl (fun ls hl => ?_)
                                refine lv_goto (tgt := 183) hx hb dX5_truth_339 (by decide) ?_
                                have e_63 : x_62 = (fo (fun w r => if bt mo w && decide ((reachR M0 n (M0 4 f) w mo &&& mo &&& (semR M0 n kd p1 p2 sb ag mo (p1 f) ^^^ (-1))) = 0) then r ||| sg w else r) (nI 0) (j + 1)) := by first | (rw [fo_s, if_neg (by rw [c199]; exact Bool.false_ne_true)]; done) | (rw [fo_s, if_pos (by rw [c199, decide_eq_true c312]; rfl)]; assumption) | (rw [fo_s, if_neg (by rw [c199, decide_eq_false c312]; exact Bool.false_ne_true)]; done)
                                exact cut183 (j + 1) (by omega) (by omega) _ _ hP hS ls (lcons (lcons (lcons (lcons (lcons (lcons (lcons (lcons (lcons (lcons (lzero hl) hl 0 rfl rfl) hl 11 rfl rfl) hl 1 rfl (congrArg Value.int e_63)) hl 10 rfl rfl) hl 9 rfl rfl) hl 8 rfl rfl) hl 7 rfl rfl) hl 6 rfl rfl) hl 5 rfl rfl) hl 4 rfl rfl)
                          ·
                            replace c284 : 4 = 0 := k0_nef c284 (by omega)
                            exfalso; omega
                      ·
                        replace c212 : 4 = 3 := k_nef c212 (by omega) (by omega)
                        exfalso; omega
                    ·
                      replace c199 := bI_0 c199
                      refine lv_goto (tgt := 336) hx hb dX5_truth_202 (by decide) ?_
                      refine lv_iinc (v := (nI (j + 1))) (lv' := [(9, .int (nI (j + 1))), (0, .ref (b 0)), (1, .int (nI lv)), (2, .int (nI f)), (3, .int (nI ((40 * lv) + f))), (4, .int mo), (5, .int (M0 4 f)), (6, .int (nI (p1 f))), (7, .int (fo (fun w r => if bt mo w && decide ((reachR M0 n (M0 4 f) w mo &&& mo &&& (semR M0 n kd p1 p2 sb ag mo (p1 f) ^^^ (-1))) = 0) then r ||| sg w else r) (nI 0) j)), (8, .int (semR M0 n kd p1 p2 sb ag mo (p1 f)))]) hx hb dX5_truth_336 hl (k := 9) rfl (nI_add j 1) (by decide) rfl (fun ls hl => ?_)
                      refine lv_goto (tgt := 183) hx hb dX5_truth_339 (by decide) ?_
                      have e_64 : (fo (fun w r => if bt mo w && decide ((reachR M0 n (M0 4 f) w mo &&& mo &&& (semR M0 n kd p1 p2 sb ag mo (p1 f) ^^^ (-1))) = 0) then r ||| sg w else r) (nI 0) j) = (fo (fun w r => if bt mo w && decide ((reachR M0 n (M0 4 f) w mo &&& mo &&& (semR M0 n kd p1 p2 sb ag mo (p1 f) ^^^ (-1))) = 0) then r ||| sg w else r) (nI 0) (j + 1)) := by first | (rw [fo_s, if_neg (by rw [c199]; exact Bool.false_ne_true)]; done) | (rw [fo_s, if_pos (by rw [c199, decide_eq_true c312]; rfl)]; assumption) | (rw [fo_s, if_neg (by rw [c199, decide_eq_false c312]; exact Bool.false_ne_true)]; done)
                      exact cut183 (j + 1) (by omega) (by omega) _ _ hP hS ls (lcons (lcons (lcons (lcons (lcons (lcons (lcons (lcons (lcons (lcons (lzero hl) hl 0 rfl rfl) hl 9 rfl rfl) hl 8 rfl (congrArg Value.int e_64)) hl 7 rfl rfl) hl 6 rfl rfl) hl 5 rfl rfl) hl 4 rfl rfl) hl 3 rfl rfl) hl 2 rfl rfl) hl 1 rfl rfl)
              have e_65 : (nI 0) = (fo (fun w r => if bt mo w && decide ((reachR M0 n (M0 4 f) w mo &&& mo &&& (semR M0 n kd p1 p2 sb ag mo (p1 f) ^^^ (-1))) = 0) then r ||| sg w else r) (nI 0) 0) := by rfl
              exact cut183 (n + 1) 0 (by omega) (by omega) _ _ hP hS ls (lcons (lcons (lcons (lcons (lcons (lcons (lcons (lcons (lcons (lcons (lzero hl) hl 0 rfl rfl) hl 1 rfl rfl) hl 2 rfl (congrArg Value.int e_65)) hl 3 rfl rfl) hl 4 rfl rfl) hl 5 rfl rfl) hl 6 rfl rfl) hl 9 rfl rfl) hl 8 rfl rfl) hl 7 rfl rfl)
            ·
              replace c164 : 4 = 0 := k0_nef c164 (by omega)
              exfalso; omega
          ·
            replace c115 : 4 = 6 := k_nef c115 (by omega) (by omega)
            exfalso; omega
        ·
          replace c87 : 4 = 1 := k_nef c87 (by omega) (by omega)
          exfalso; omega
      ·
        replace c57 : 4 = 2 := k_nef c57 (by omega) (by omega)
        exfalso; omega
    ·
      refine lv_aload_n hx hb dX5_truth_16 rfl (lv_at hl 1 rfl) ?_
      refine va_get (D := D) (ci := 5) (v := .ref (b 10)) (C := RX5) (T := TX5) (N := 15) hx hb hts hinX5 hown hK1 hP 0 rfl rfl 13 (by decide) (hts (.fieldLink RX5 38 "KnowledgeModelModel" "truths" "[I") (List.mem_of_getElem? (i := 2) rfl)) (fun _ h9 => h9) rfl dX5_truth_17 ?_
      refine lv_iload_n hx hb dX5_truth_20 rfl (lv_at hl 0 rfl) ?_
      refine xiald (j := (40 * lv) + f) (q0 := 10) (t0 := 0) hx hb hK1 hP rfl rfl (by omega) (by decide) dX5_truth_21 ?_
      refine xtop (y := (semR M0 n kd p1 p2 sb ag mo f)) (by exact ((hti.2 f hf).resolve_left c13).2) ?_
      subst hQ
      have hrel : TR M0 M n nf kd p1 p2 sb ag lv mo M := by first | exact TR_r hti | (simp only [fo_0, c13]; exact TR_w (TR_r hti) hf hval) | (simp only [fo_0, c13]; exact TR_w trivial hf hval) | (simp only [fo_0, c13]; exact TR_w (TR_t trivial trivial) hf hval) | (simp only [fo_0, c13]; exact TR_w (TR_b trivial hf40 (by simpa only [fo_0, c13] using trivial)) hf hval)
      have hfin : (semR M0 n kd p1 p2 sb ag mo f) = semR M0 n kd p1 p2 sb ag mo f := by first | exact hval | rfl
      exact W.iret hx hb hr (fun t ht hW => ⟨⟨_, M, rfl, ⟨hfin, hrel⟩, by rw [← ht] at hP; exact hP⟩, hS.F ht⟩) hS.2.2 dX5_truth_22
  ·
    have hq1 := hL.1 (by omega)
    have hz1 := hE1 (by omega)
    have hB1 := hB (by omega)
    refine lv_bipush (v := (nI 40)) hx hb dX5_truth_0 (by decide) ?_
    refine lv_iload_n hx hb dX5_truth_2 rfl (lv_at hl 1 rfl) ?_
    refine ximul hx hb dX5_truth_3 ?_
    refine lv_iload_n hx hb dX5_truth_4 rfl (lv_at hl 2 rfl) ?_
    refine xiadd hx hb dX5_truth_5 ?_
    refine lv_istore_n (lv' := [(3, .int (nI ((40 * lv) + f))), (0, .ref (b 0)), (1, .int (nI lv)), (2, .int (nI f))]) hx hb dX5_truth_6 rfl hl (by decide) rfl (fun ls hl => ?_)
    refine lv_aload_n hx hb dX5_truth_7 rfl (lv_at hl 1 rfl) ?_
    refine va_get (D := D) (ci := 5) (v := .ref (b 9)) (C := RX5) (T := TX5) (N := 15) hx hb hts hinX5 hown hK1 hP 0 rfl rfl 12 (by decide) (hts (.fieldLink RX5 34 "KnowledgeModelModel" "areKnown" "[Z") (List.mem_of_getElem? (i := 1) rfl)) (fun _ h9 => h9) rfl dX5_truth_8 ?_
    refine lv_iload_n hx hb dX5_truth_11 rfl (lv_at hl 0 rfl) ?_
    refine xzald (j := (40 * lv) + f) (q0 := 9) (t0 := 3) hx hb hK1 hP rfl rfl (by omega) (by decide) dX5_truth_12 ?_
    refine lv_if_eq (tgt := 23) hx hb dX5_truth_13 (by decide) (fun c13 => ?_) (fun c13 => ?_)
    ·
      refine lv_aload_n hx hb dX5_truth_23 rfl (lv_at hl 1 rfl) ?_
      refine va_get (D := D) (ci := 5) (v := .ref (b 8)) (C := RX5) (T := TX5) (N := 15) hx hb hts hinX5 hown hK1 hP 0 rfl rfl 11 (by decide) (hts (.fieldLink RX5 31 "KnowledgeModelModel" "lefts" "[I") (List.mem_of_getElem? (i := 3) rfl)) (fun _ h9 => h9) rfl dX5_truth_24 ?_
      refine lv_iload_n hx hb dX5_truth_27 rfl (lv_at hl 2 rfl) ?_
      refine xiald (j := lv) (q0 := 8) (t0 := 0) hx hb hK1 hP rfl rfl (by omega) (by decide) dX5_truth_28 ?_
      refine xtop (y := mo) (by exact hti.1) ?_
      refine lv_istore (lv' := [(4, .int mo), (3, .int (nI ((40 * lv) + f))), (0, .ref (b 0)), (1, .int (nI lv)), (2, .int (nI f))]) hx hb dX5_truth_29 hl (by decide) rfl (fun ls hl => ?_)
      refine lv_aload_n hx hb dX5_truth_31 rfl (lv_at hl 2 rfl) ?_
      refine va_get (D := D) (ci := 5) (v := .ref (b 4)) (C := RX5) (T := TX5) (N := 15) hx hb hts hinX5 hown hK1 hP 0 rfl rfl 7 (by decide) (hts (.fieldLink RX5 19 "KnowledgeModelModel" "firsts" "[I") (List.mem_of_getElem? (i := 4) rfl)) (fun _ h9 => h9) rfl dX5_truth_32 ?_
      refine lv_iload_n hx hb dX5_truth_35 rfl (lv_at hl 4 rfl) ?_
      refine xiald (j := f) (q0 := 4) (t0 := 0) hx hb hK1 hP rfl rfl (by omega) (by decide) dX5_truth_36 ?_
      refine xtop (y := (M0 4 f)) (by exact hag 4 f (by decide)) ?_
      refine lv_istore (lv' := [(5, .int (M0 4 f)), (4, .int mo), (3, .int (nI ((40 * lv) + f))), (0, .ref (b 0)), (1, .int (nI lv)), (2, .int (nI f))]) hx hb dX5_truth_37 hl (by decide) rfl (fun ls hl => ?_)
      refine lv_aload_n hx hb dX5_truth_39 rfl (lv_at hl 3 rfl) ?_
      refine va_get (D := D) (ci := 5) (v := .ref (b 5)) (C := RX5) (T := TX5) (N := 15) hx hb hts hinX5 hown hK1 hP 0 rfl rfl 8 (by decide) (hts (.fieldLink RX5 22 "KnowledgeModelModel" "seconds" "[I") (List.mem_of_getElem? (i := 5) rfl)) (fun _ h9 => h9) rfl dX5_truth_40 ?_
      refine lv_iload_n hx hb dX5_truth_43 rfl (lv_at hl 5 rfl) ?_
      refine xiald (j := f) (q0 := 5) (t0 := 0) hx hb hK1 hP rfl rfl (by omega) (by decide) dX5_truth_44 ?_
      refine xtop (y := (nI (p1 f))) (by exact (hag 5 f (by decide)).trans hB1) ?_
      refine lv_istore (lv' := [(6, .int (nI (p1 f))), (5, .int (M0 4 f)), (4, .int mo), (3, .int (nI ((40 * lv) + f))), (0, .ref (b 0)), (1, .int (nI lv)), (2, .int (nI f))]) hx hb dX5_truth_45 hl (by decide) rfl (fun ls hl => ?_)
      refine lv_iconst (v := (nI 0)) hx hb dX5_truth_47 (by decide) ?_
      refine lv_istore (lv' := [(7, .int (nI 0)), (6, .int (nI (p1 f))), (5, .int (M0 4 f)), (4, .int mo), (3, .int (nI ((40 * lv) + f))), (0, .ref (b 0)), (1, .int (nI lv)), (2, .int (nI f))]) hx hb dX5_truth_48 hl (by decide) rfl (fun ls hl => ?_)
      refine lv_aload_n hx hb dX5_truth_50 rfl (lv_at hl 5 rfl) ?_
      refine va_get (D := D) (ci := 5) (v := .ref (b 3)) (C := RX5) (T := TX5) (N := 15) hx hb hts hinX5 hown hK1 hP 0 rfl rfl 6 (by decide) (hts (.fieldLink RX5 16 "KnowledgeModelModel" "kinds" "[I") (List.mem_of_getElem? (i := 6) rfl)) (fun _ h9 => h9) rfl dX5_truth_51 ?_
      refine lv_iload_n hx hb dX5_truth_54 rfl (lv_at hl 7 rfl) ?_
      refine xiald (j := f) (q0 := 3) (t0 := 0) hx hb hK1 hP rfl rfl (by omega) (by decide) dX5_truth_55 ?_
      refine xtop (y := (nI 5)) (by exact ((hag 3 f (by decide)).trans hk3).trans (congrArg nI hkd)) ?_
      refine lv_iconst (v := (nI 2)) hx hb dX5_truth_56 (by decide) ?_
      refine lv_icmp_ne (tgt := 80) hx hb dX5_truth_57 (by decide) (fun c57 => ?_) (fun c57 => ?_)
      ·
        replace c57 : ¬ 5 = 2 := k_net c57 (by omega) (by omega)
        refine lv_aload_n hx hb dX5_truth_80 rfl (lv_at hl 5 rfl) ?_
        refine va_get (D := D) (ci := 5) (v := .ref (b 3)) (C := RX5) (T := TX5) (N := 15) hx hb hts hinX5 hown hK1 hP 0 rfl rfl 6 (by decide) (hts (.fieldLink RX5 16 "KnowledgeModelModel" "kinds" "[I") (List.mem_of_getElem? (i := 6) rfl)) (fun _ h9 => h9) rfl dX5_truth_81 ?_
        refine lv_iload_n hx hb dX5_truth_84 rfl (lv_at hl 7 rfl) ?_
        refine xiald (j := f) (q0 := 3) (t0 := 0) hx hb hK1 hP rfl rfl (by omega) (by decide) dX5_truth_85 ?_
        refine xtop (y := (nI 5)) (by exact ((hag 3 f (by decide)).trans hk3).trans (congrArg nI hkd)) ?_
        refine lv_iconst (v := (nI 1)) hx hb dX5_truth_86 (by decide) ?_
        refine lv_icmp_ne (tgt := 107) hx hb dX5_truth_87 (by decide) (fun c87 => ?_) (fun c87 => ?_)
        ·
          replace c87 : ¬ 5 = 1 := k_net c87 (by omega) (by omega)
          refine lv_aload_n hx hb dX5_truth_107 rfl (lv_at hl 5 rfl) ?_
          refine va_get (D := D) (ci := 5) (v := .ref (b 3)) (C := RX5) (T := TX5) (N := 15) hx hb hts hinX5 hown hK1 hP 0 rfl rfl 6 (by decide) (hts (.fieldLink RX5 16 "KnowledgeModelModel" "kinds" "[I") (List.mem_of_getElem? (i := 6) rfl)) (fun _ h9 => h9) rfl dX5_truth_108 ?_
          refine lv_iload_n hx hb dX5_truth_111 rfl (lv_at hl 7 rfl) ?_
          refine xiald (j := f) (q0 := 3) (t0 := 0) hx hb hK1 hP rfl rfl (by omega) (by decide) dX5_truth_112 ?_
          refine xtop (y := (nI 5)) (by exact ((hag 3 f (by decide)).trans hk3).trans (congrArg nI hkd)) ?_
          refine lv_bipush (v := (nI 6)) hx hb dX5_truth_113 (by decide) ?_
          refine lv_icmp_ne (tgt := 158) hx hb dX5_truth_115 (by decide) (fun c115 => ?_) (fun c115 => ?_)
          ·
            replace c115 : ¬ 5 = 6 := k_net c115 (by omega) (by omega)
            refine lv_aload_n hx hb dX5_truth_158 rfl (lv_at hl 5 rfl) ?_
            refine va_get (D := D) (ci := 5) (v := .ref (b 3)) (C := RX5) (T := TX5) (N := 15) hx hb hts hinX5 hown hK1 hP 0 rfl rfl 6 (by decide) (hts (.fieldLink RX5 16 "KnowledgeModelModel" "kinds" "[I") (List.mem_of_getElem? (i := 6) rfl)) (fun _ h9 => h9) rfl dX5_truth_159 ?_
            refine lv_iload_n hx hb dX5_truth_162 rfl (lv_at hl 7 rfl) ?_
            refine xiald (j := f) (q0 := 3) (t0 := 0) hx hb hK1 hP rfl rfl (by omega) (by decide) dX5_truth_163 ?_
            refine xtop (y := (nI 5)) (by exact ((hag 3 f (by decide)).trans hk3).trans (congrArg nI hkd)) ?_
            refine lv_if_ne (tgt := 171) hx hb dX5_truth_164 (by decide) (fun c164 => ?_) (fun c164 => ?_)
            ·
              replace c164 : ¬ 5 = 0 := k0_net c164 (by omega)
              refine lv_aload_n hx hb dX5_truth_171 rfl (lv_at hl 5 rfl) ?_
              refine lv_iload_n hx hb dX5_truth_172 rfl (lv_at hl 6 rfl) ?_
              refine lv_iload hx hb dX5_truth_173 (lv_at hl 1 rfl) ?_
              refine xcallwi (va_runV (As := [.int (nI lv), .int (nI (p1 f))]) (rest := []) ⟨hx, hb, hml, hown, hts⟩ (ih (p1 f) (by omega) M _ lv mo hag hlv (by omega) (by omega) hti) (cwV 2 hts gX5_truth_X5_truth rfl rfl rfl (by decide +kernel) ⟨by dsimp only; omega, by dsimp only; omega⟩) (xpreVs hP hK (ci := 5) 0 rfl rfl) rfl rfl hl.1 rfl (lv_room (Nat.le_of_ble_eq_true rfl)) dX5_truth_175 ⟨Nat.le_of_ble_eq_true rfl, Nat.le_of_ble_eq_true rfl⟩) hS (kAle hS.1) (fun u_66 H locs hu_66 hP _ _ hS => ?_)
              have hP : va_P D vwCl (rc cs b u_66) H := hP
              have hk_67 : u_66 0 1 = nI n := by rw [hu_66.1 0 1 (by decide)]; exact hn
              have hk_68 : u_66 0 3 = nI nf := by rw [hu_66.1 0 3 (by decide)]; exact hfc
              refine lv_istore (lv' := [(8, .int (semR M0 n kd p1 p2 sb ag mo (p1 f))), (7, .int (nI 0)), (6, .int (nI (p1 f))), (5, .int (M0 4 f)), (4, .int mo), (3, .int (nI ((40 * lv) + f))), (0, .ref (b 0)), (1, .int (nI lv)), (2, .int (nI f))]) hx hb dX5_truth_178 hl (by decide) rfl (fun ls hl => ?_)
              refine lv_iconst (v := (nI 0)) hx hb dX5_truth_180 (by decide) ?_
              refine lv_istore (lv' := [(9, .int (nI 0)), (8, .int (semR M0 n kd p1 p2 sb ag mo (p1 f))), (7, .int (nI 0)), (6, .int (nI (p1 f))), (5, .int (M0 4 f)), (4, .int mo), (3, .int (nI ((40 * lv) + f))), (0, .ref (b 0)), (1, .int (nI lv)), (2, .int (nI f))]) hx hb dX5_truth_181 hl (by decide) rfl (fun ls hl => ?_)
              have cut183 : ∀ (f183 : Nat) (j : Nat) (hj : j ≤ n), n + 1 ≤ j + f183 → ∀ (H : Heap) (locs : List Loc), va_P D vwCl (rc cs b u_66) H → va_S (kA b 12 s.heap.size) s.heap H locs → ∀ (ls : Array Slot), lv_has ls 12 [(0, .ref (b 0)), (1, .int (nI lv)), (2, .int (nI f)), (3, .int (nI ((40 * lv) + f))), (4, .int mo), (5, .int (M0 4 f)), (6, .int (nI (p1 f))), (7, .int (fo (fun w r => if bt mo w && decide ((everyR M0 n (M0 4 f) w &&& mo &&& (semR M0 n kd p1 p2 sb ag mo (p1 f) ^^^ (-1))) = 0) then r ||| sg w else r) (nI 0) j)), (8, .int (semR M0 n kd p1 p2 sb ag mo (p1 f))), (9, .int (nI j))] → W p l e ({ frames := 6 + f, cells := 0, slots := 0, locals := 100 + 31 * f } : Room) s m ([.ref (b 0), .int (nI lv), .int (nI f)] : List Value).toArray below meth c H locs 0 0 Q (F0 m 183 ls []) := by
                intro f183
                induction f183 with
                | zero => intro j hj hfu183; exact absurd hfu183 (by omega)
                | succ f183 cut183 =>
                  intro j hj hfu183 H locs hP hS ls hl
                  refine lv_iload hx hb dX5_truth_183 (lv_at hl 9 rfl) ?_
                  refine lv_aload_n hx hb dX5_truth_185 rfl (lv_at hl 0 rfl) ?_
                  refine va_get (D := D) (ci := 5) (v := .int (u_66 0 1)) (C := RX5) (T := TX5) (N := 15) hx hb hts hinX5 hown hK1 hP 0 rfl rfl 1 (by decide) (hts (.fieldLink RX5 48 "KnowledgeModelModel" "worlds" "I") (List.mem_of_getElem? (i := 7) rfl)) (fun _ h9 => h9) rfl dX5_truth_186 ?_
                  refine xtop (y := nI n) (hk_67) ?_
                  refine lv_icmp_ge (tgt := 342) hx hb dX5_truth_189 (by decide) (fun c189 => ?_) (fun c189 => ?_)
                  ·
                    replace c189 : n ≤ j := k_get c189 (by omega) (by omega)
                    have hje : j = n := by omega
                    have hval : (fo (fun w r => if bt mo w && decide ((everyR M0 n (M0 4 f) w &&& mo &&& (semR M0 n kd p1 p2 sb ag mo (p1 f) ^^^ (-1))) = 0) then r ||| sg w else r) (nI 0) j) = semR M0 n kd p1 p2 sb ag mo f := by rw [semR_eq hwp hf]; simp only [askR, hkd, if_true, if_false, show (1 : Nat) ≠ 0 by decide, show (2 : Nat) ≠ 0 by decide, show (2 : Nat) ≠ 1 by decide, show (3 : Nat) ≠ 0 by decide, show (3 : Nat) ≠ 1 by decide, show (3 : Nat) ≠ 2 by decide, show (3 : Nat) ≠ 6 by decide, show (4 : Nat) ≠ 0 by decide, show (4 : Nat) ≠ 1 by decide, show (4 : Nat) ≠ 2 by decide, show (4 : Nat) ≠ 3 by decide, show (4 : Nat) ≠ 6 by decide, show (5 : Nat) ≠ 0 by decide, show (5 : Nat) ≠ 1 by decide, show (5 : Nat) ≠ 2 by decide, show (5 : Nat) ≠ 3 by decide, show (5 : Nat) ≠ 4 by decide, show (5 : Nat) ≠ 6 by decide, show (6 : Nat) ≠ 0 by decide, show (6 : Nat) ≠ 1 by decide, show (6 : Nat) ≠ 2 by decide, hje]
                    refine lv_aload_n hx hb dX5_truth_342 rfl (lv_at hl 0 rfl) ?_
                    refine va_get (D := D) (ci := 5) (v := .ref (b 10)) (C := RX5) (T := TX5) (N := 15) hx hb hts hinX5 hown hK1 hP 0 rfl rfl 13 (by decide) (hts (.fieldLink RX5 38 "KnowledgeModelModel" "truths" "[I") (List.mem_of_getElem? (i := 2) rfl)) (fun _ h9 => h9) rfl dX5_truth_343 ?_
                    refine lv_iload_n hx hb dX5_truth_346 rfl (lv_at hl 3 rfl) ?_
                    refine lv_iload hx hb dX5_truth_347 (lv_at hl 7 rfl) ?_
                    refine lv_topi (fun x_69 hx_69 => ?_)
                    refine xiast (j := (40 * lv) + f) (q0 := 10) (t0 := 0) (ws' := rc cs b (wr u_66 10 ((40 * lv) + f) x_69)) hx hb hK1 hP (rD hI) hS rfl rfl (by omega) (by decide) rs_10 dX5_truth_349 (fun H locs hP hS => ?_)
                    obtain ⟨M_70, hM_70⟩ : ∃ z, z = wr u_66 10 ((40 * lv) + f) x_69 := ⟨_, rfl⟩
                    rw [← hM_70] at hP
                    have hk_71 : M_70 0 1 = nI n := by rw [hM_70]; exact (wr_ne (Or.inl (by omega))).trans hk_67
                    have hk_72 : M_70 0 3 = nI nf := by rw [hM_70]; exact (wr_ne (Or.inl (by omega))).trans hk_68
                    refine lv_aload_n hx hb dX5_truth_350 rfl (lv_at hl 0 rfl) ?_
                    refine va_get (D := D) (ci := 5) (v := .ref (b 9)) (C := RX5) (T := TX5) (N := 15) hx hb hts hinX5 hown hK1 hP 0 rfl rfl 12 (by decide) (hts (.fieldLink RX5 34 "KnowledgeModelModel" "areKnown" "[Z") (List.mem_of_getElem? (i := 1) rfl)) (fun _ h9 => h9) rfl dX5_truth_351 ?_
                    refine lv_iload_n hx hb dX5_truth_354 rfl (lv_at hl 3 rfl) ?_
                    refine lv_iconst (v := (nI 1)) hx hb dX5_truth_355 (by decide) ?_
                    refine xzast (j := (40 * lv) + f) (q0 := 9) (t0 := 3) (ws' := rc cs b (wr M_70 9 ((40 * lv) + f) (nI 1))) hx hb hK1 hP (rD hI) hS rfl rfl (by omega) (by decide) (by decide) rs_9 dX5_truth_356 (fun H locs hP hS => ?_)
                    obtain ⟨M_73, hM_73⟩ : ∃ z, z = wr M_70 9 ((40 * lv) + f) (nI 1) := ⟨_, rfl⟩
                    rw [← hM_73] at hP
                    have hk_74 : M_73 0 1 = nI n := by rw [hM_73]; exact (wr_ne (Or.inl (by omega))).trans hk_71
                    have hk_75 : M_73 0 3 = nI nf := by rw [hM_73]; exact (wr_ne (Or.inl (by omega))).trans hk_72
                    refine lv_iload hx hb dX5_truth_357 (lv_at hl 7 rfl) ?_
                    subst hQ
                    have hrel : TR M0 M n nf kd p1 p2 sb ag lv mo M_73 := by first | exact TR_r hti | (simp only [fo_0, c13, c57, c87, c115, c164, c189, hx_69, hM_70, hM_73]; exact TR_w (TR_r hti) hf hval) | (simp only [fo_0, c13, c57, c87, c115, c164, c189, hx_69, hM_70, hM_73]; exact TR_w hu_66 hf hval) | (simp only [fo_0, c13, c57, c87, c115, c164, c189, hx_69, hM_70, hM_73]; exact TR_w (TR_t hu_66 hu_66) hf hval) | (simp only [fo_0, c13, c57, c87, c115, c164, c189, hx_69, hM_70, hM_73]; exact TR_w (TR_b hu_66 hf40 (by simpa only [fo_0, c13, c57, c87, c115, c164, c189, hx_69, hM_70, hM_73] using hu_66)) hf hval)
                    have hfin : (fo (fun w r => if bt mo w && decide ((everyR M0 n (M0 4 f) w &&& mo &&& (semR M0 n kd p1 p2 sb ag mo (p1 f) ^^^ (-1))) = 0) then r ||| sg w else r) (nI 0) j) = semR M0 n kd p1 p2 sb ag mo f := by first | exact hval | rfl
                    exact W.iret hx hb hr (fun t ht hW => ⟨⟨_, M_73, rfl, ⟨hfin, hrel⟩, by rw [← ht] at hP; exact hP⟩, hS.F ht⟩) hS.2.2 dX5_truth_359
                  ·
                    replace c189 : j < n := k_gef c189 (by omega) (by omega)
                    refine lv_iload hx hb dX5_truth_192 (lv_at hl 4 rfl) ?_
                    refine lv_iload hx hb dX5_truth_194 (lv_at hl 9 rfl) ?_
                    refine xcalli (va_runS (As := [.int mo, .int (nI j)]) (rest := []) ⟨hx, hb, hml, hown, hts⟩ (c_X5_has l mo j (by omega)) (va_cwS 2 hts gX5_truth_X5_has rfl rfl rfl (by decide +kernel) ⟨by dsimp only; omega, by dsimp only; omega⟩) xpreN rfl rfl hl.1 rfl (lv_room (Nat.le_of_ble_eq_true rfl)) dX5_truth_196 ⟨Nat.le_of_ble_eq_true rfl, Nat.le_of_ble_eq_true rfl⟩) hS hP (fun H locs hP hS => ?_)
                    refine lv_if_ne (tgt := 205) hx hb dX5_truth_199 (by decide) (fun c199 => ?_) (fun c199 => ?_)
                    ·
                      replace c199 := bI_n0 c199
                      refine lv_aload_n hx hb dX5_truth_205 rfl (lv_at hl 0 rfl) ?_
                      refine va_get (D := D) (ci := 5) (v := .ref (b 3)) (C := RX5) (T := TX5) (N := 15) hx hb hts hinX5 hown hK1 hP 0 rfl rfl 6 (by decide) (hts (.fieldLink RX5 16 "KnowledgeModelModel" "kinds" "[I") (List.mem_of_getElem? (i := 6) rfl)) (fun _ h9 => h9) rfl dX5_truth_206 ?_
                      refine lv_iload_n hx hb dX5_truth_209 rfl (lv_at hl 2 rfl) ?_
                      refine xiald (j := f) (q0 := 3) (t0 := 0) hx hb hK1 hP rfl rfl (by omega) (by decide) dX5_truth_210 ?_
                      refine xtop (y := (nI 5)) (by exact (((Ag8_t hag hu_66) 3 f (by decide)).trans hk3).trans (congrArg nI hkd)) ?_
                      refine lv_iconst (v := (nI 3)) hx hb dX5_truth_211 (by decide) ?_
                      refine lv_icmp_ne (tgt := 231) hx hb dX5_truth_212 (by decide) (fun c212 => ?_) (fun c212 => ?_)
                      ·
                        replace c212 : ¬ 5 = 3 := k_net c212 (by omega) (by omega)
                        refine lv_aload_n hx hb dX5_truth_231 rfl (lv_at hl 0 rfl) ?_
                        refine va_get (D := D) (ci := 5) (v := .ref (b 3)) (C := RX5) (T := TX5) (N := 15) hx hb hts hinX5 hown hK1 hP 0 rfl rfl 6 (by decide) (hts (.fieldLink RX5 16 "KnowledgeModelModel" "kinds" "[I") (List.mem_of_getElem? (i := 6) rfl)) (fun _ h9 => h9) rfl dX5_truth_232 ?_
                        refine lv_iload_n hx hb dX5_truth_235 rfl (lv_at hl 2 rfl) ?_
                        refine xiald (j := f) (q0 := 3) (t0 := 0) hx hb hK1 hP rfl rfl (by omega) (by decide) dX5_truth_236 ?_
                        refine xtop (y := (nI 5)) (by exact (((Ag8_t hag hu_66) 3 f (by decide)).trans hk3).trans (congrArg nI hkd)) ?_
                        refine lv_iconst (v := (nI 4)) hx hb dX5_truth_237 (by decide) ?_
                        refine lv_icmp_ne (tgt := 254) hx hb dX5_truth_238 (by decide) (fun c238 => ?_) (fun c238 => ?_)
                        ·
                          replace c238 : ¬ 5 = 4 := k_net c238 (by omega) (by omega)
                          refine lv_aload_n hx hb dX5_truth_254 rfl (lv_at hl 0 rfl) ?_
                          refine va_get (D := D) (ci := 5) (v := .ref (b 3)) (C := RX5) (T := TX5) (N := 15) hx hb hts hinX5 hown hK1 hP 0 rfl rfl 6 (by decide) (hts (.fieldLink RX5 16 "KnowledgeModelModel" "kinds" "[I") (List.mem_of_getElem? (i := 6) rfl)) (fun _ h9 => h9) rfl dX5_truth_255 ?_
                          refine lv_iload_n hx hb dX5_truth_258 rfl (lv_at hl 2 rfl) ?_
                          refine xiald (j := f) (q0 := 3) (t0 := 0) hx hb hK1 hP rfl rfl (by omega) (by decide) dX5_truth_259 ?_
                          refine xtop (y := (nI 5)) (by exact (((Ag8_t hag hu_66) 3 f (by decide)).trans hk3).trans (congrArg nI hkd)) ?_
                          refine lv_iconst (v := (nI 5)) hx hb dX5_truth_260 (by decide) ?_
                          refine lv_icmp_ne (tgt := 275) hx hb dX5_truth_261 (by decide) (fun c261 => ?_) (fun c261 => ?_)
                          ·
                            replace c261 : ¬ 5 = 5 := k_net c261 (by omega) (by omega)
                            exfalso; omega
                          ·
                            replace c261 : 5 = 5 := k_nef c261 (by omega) (by omega)
                            refine lv_aload_n hx hb dX5_truth_264 rfl (lv_at hl 0 rfl) ?_
                            refine lv_iload hx hb dX5_truth_265 (lv_at hl 5 rfl) ?_
                            refine lv_iload hx hb dX5_truth_267 (lv_at hl 9 rfl) ?_
                            refine xcalli (va_runV (As := [.int (M0 4 f), .int (nI j)]) (rest := []) ⟨hx, hb, hml, hown, hts⟩ (c_X5_seenByAll l D cs b u_66 n (M0 4 f) j (by omega) hk_67) (cwV 2 hts gX5_truth_X5_seenByAll rfl rfl rfl (by decide +kernel) ⟨by dsimp only; omega, by dsimp only; omega⟩) (xpreV hP hK (ci := 5) 0 rfl rfl) rfl rfl hl.1 rfl (lv_room (Nat.le_of_ble_eq_true rfl)) dX5_truth_269 ⟨Nat.le_of_ble_eq_true rfl, Nat.le_of_ble_eq_true rfl⟩) hS hP (fun H locs hP hS => ?_)
                            refine xtop (y := (everyR M0 n (M0 4 f) j)) (by exact everyR_c (Ag8_t hag hu_66)) ?_
                            refine lv_goto (tgt := 276) hx hb dX5_truth_272 (by decide) ?_
                            refine lv_istore (lv' := [(10, .int (everyR M0 n (M0 4 f) j)), (0, .ref (b 0)), (1, .int (nI lv)), (2, .int (nI f)), (3, .int (nI ((40 * lv) + f))), (4, .int mo), (5, .int (M0 4 f)), (6, .int (nI (p1 f))), (7, .int (fo (fun w r => if bt mo w && decide ((everyR M0 n (M0 4 f) w &&& mo &&& (semR M0 n kd p1 p2 sb ag mo (p1 f) ^^^ (-1))) = 0) then r ||| sg w else r) (nI 0) j)), (8, .int (semR M0 n kd p1 p2 sb ag mo (p1 f))), (9, .int (nI j))]) hx hb dX5_truth_276 hl (by decide) rfl (fun ls hl => ?_)
                            refine lv_aload_n hx hb dX5_truth_278 rfl (lv_at hl 1 rfl) ?_
                            refine va_get (D := D) (ci := 5) (v := .ref (b 3)) (C := RX5) (T := TX5) (N := 15) hx hb hts hinX5 hown hK1 hP 0 rfl rfl 6 (by decide) (hts (.fieldLink RX5 16 "KnowledgeModelModel" "kinds" "[I") (List.mem_of_getElem? (i := 6) rfl)) (fun _ h9 => h9) rfl dX5_truth_279 ?_
                            refine lv_iload_n hx hb dX5_truth_282 rfl (lv_at hl 3 rfl) ?_
                            refine xiald (j := f) (q0 := 3) (t0 := 0) hx hb hK1 hP rfl rfl (by omega) (by decide) dX5_truth_283 ?_
                            refine xtop (y := (nI 5)) (by exact (((Ag8_t hag hu_66) 3 f (by decide)).trans hk3).trans (congrArg nI hkd)) ?_
                            refine lv_if_ne (tgt := 302) hx hb dX5_truth_284 (by decide) (fun c284 => ?_) (fun c284 => ?_)
                            ·
                              replace c284 : ¬ 5 = 0 := k0_net c284 (by omega)
                              refine lv_iload hx hb dX5_truth_302 (lv_at hl 0 rfl) ?_
                              refine lv_iload hx hb dX5_truth_304 (lv_at hl 5 rfl) ?_
                              refine lv_iand hx hb dX5_truth_306 ?_
                              refine lv_iload hx hb dX5_truth_307 (lv_at hl 9 rfl) ?_
                              refine lv_iconst (v := (-1 : Int32)) hx hb dX5_truth_309 (by decide) ?_
                              refine lv_ixor hx hb dX5_truth_310 ?_
                              refine lv_iand hx hb dX5_truth_311 ?_
                              refine lv_if_ne (tgt := 319) hx hb dX5_truth_312 (by decide) (fun c312 => ?_) (fun c312 => ?_)
                              ·
                                refine lv_iconst (v := (nI 0)) hx hb dX5_truth_319 (by decide) ?_
                                refine lv_istore (lv' := [(11, .int (nI 0)), (10, .int (everyR M0 n (M0 4 f) j)), (0, .ref (b 0)), (1, .int (nI lv)), (2, .int (nI f)), (3, .int (nI ((40 * lv) + f))), (4, .int mo), (5, .int (M0 4 f)), (6, .int (nI (p1 f))), (7, .int (fo (fun w r => if bt mo w && decide ((everyR M0 n (M0 4 f) w &&& mo &&& (semR M0 n kd p1 p2 sb ag mo (p1 f) ^^^ (-1))) = 0) then r ||| sg w else r) (nI 0) j)), (8, .int (semR M0 n kd p1 p2 sb ag mo (p1 f))), (9, .int (nI j))]) hx hb dX5_truth_320 hl (by decide) rfl (fun ls hl => ?_)
                                refine lv_iload hx hb dX5_truth_322 (lv_at hl 0 rfl) ?_
                                refine lv_if_eq (tgt := 336) hx hb dX5_truth_324 (by decide) (fun c324 => ?_) (fun c324 => ?_)
                                ·
                                  replace c324 : 0 = 0 := k0_eqt c324 (by omega)
                                  refine lv_iinc (v := (nI (j + 1))) (lv' := [(9, .int (nI (j + 1))), (11, .int (nI 0)), (10, .int (everyR M0 n (M0 4 f) j)), (0, .ref (b 0)), (1, .int (nI lv)), (2, .int (nI f)), (3, .int (nI ((40 * lv) + f))), (4, .int mo), (5, .int (M0 4 f)), (6, .int (nI (p1 f))), (7, .int (fo (fun w r => if bt mo w && decide ((everyR M0 n (M0 4 f) w &&& mo &&& (semR M0 n kd p1 p2 sb ag mo (p1 f) ^^^ (-1))) = 0) then r ||| sg w else r) (nI 0) j)), (8, .int (semR M0 n kd p1 p2 sb ag mo (p1 f)))]) hx hb dX5_truth_336 hl (k := 11) rfl (nI_add j 1) (by decide) rfl (fun ls hl => ?_)
                                  refine lv_goto (tgt := 183) hx hb dX5_truth_339 (by decide) ?_
                                  have e_76 : (fo (fun w r => if bt mo w && decide ((everyR M0 n (M0 4 f) w &&& mo &&& (semR M0 n kd p1 p2 sb ag mo (p1 f) ^^^ (-1))) = 0) then r ||| sg w else r) (nI 0) j) = (fo (fun w r => if bt mo w && decide ((everyR M0 n (M0 4 f) w &&& mo &&& (semR M0 n kd p1 p2 sb ag mo (p1 f) ^^^ (-1))) = 0) then r ||| sg w else r) (nI 0) (j + 1)) := by first | (rw [fo_s, if_neg (by rw [c199]; exact Bool.false_ne_true)]; done) | (rw [fo_s, if_pos (by rw [c199, decide_eq_true c312]; rfl)]; assumption) | (rw [fo_s, if_neg (by rw [c199, decide_eq_false c312]; exact Bool.false_ne_true)]; done)
                                  exact cut183 (j + 1) (by omega) (by omega) _ _ hP hS ls (lcons (lcons (lcons (lcons (lcons (lcons (lcons (lcons (lcons (lcons (lzero hl) hl 0 rfl rfl) hl 11 rfl rfl) hl 10 rfl (congrArg Value.int e_76)) hl 9 rfl rfl) hl 8 rfl rfl) hl 7 rfl rfl) hl 6 rfl rfl) hl 5 rfl rfl) hl 4 rfl rfl) hl 3 rfl rfl)
                                ·
                                  replace c324 : ¬ 0 = 0 := k0_eqf c324 (by omega)
                                  exfalso; omega
                              ·
                                refine lv_iconst (v := (nI 1)) hx hb dX5_truth_315 (by decide) ?_
                                refine lv_goto (tgt := 320) hx hb dX5_truth_316 (by decide) ?_
                                refine lv_istore (lv' := [(11, .int (nI 1)), (10, .int (everyR M0 n (M0 4 f) j)), (0, .ref (b 0)), (1, .int (nI lv)), (2, .int (nI f)), (3, .int (nI ((40 * lv) + f))), (4, .int mo), (5, .int (M0 4 f)), (6, .int (nI (p1 f))), (7, .int (fo (fun w r => if bt mo w && decide ((everyR M0 n (M0 4 f) w &&& mo &&& (semR M0 n kd p1 p2 sb ag mo (p1 f) ^^^ (-1))) = 0) then r ||| sg w else r) (nI 0) j)), (8, .int (semR M0 n kd p1 p2 sb ag mo (p1 f))), (9, .int (nI j))]) hx hb dX5_truth_320 hl (by decide) rfl (fun ls hl => ?_)
                                refine lv_iload hx hb dX5_truth_322 (lv_at hl 0 rfl) ?_
                                refine lv_if_eq (tgt := 336) hx hb dX5_truth_324 (by decide) (fun c324 => ?_) (fun c324 => ?_)
                                ·
                                  replace c324 : 1 = 0 := k0_eqt c324 (by omega)
                                  exfalso; omega
                                ·
                                  replace c324 : ¬ 1 = 0 := k0_eqf c324 (by omega)
                                  refine lv_iload hx hb dX5_truth_327 (lv_at hl 9 rfl) ?_
                                  refine lv_iconst (v := (nI 1)) hx hb dX5_truth_329 (by decide) ?_
                                  refine lv_iload hx hb dX5_truth_330 (lv_at hl 11 rfl) ?_
                                  refine lv_ishl hx hb dX5_truth_332 ?_
                                  refine lv_ior hx hb dX5_truth_333 ?_
                                  refine lv_topi (fun x_77 hx_77 => ?_)
                                  refine lv_istore (lv' := [(7, .int x_77), (11, .int (nI 1)), (10, .int (everyR M0 n (M0 4 f) j)), (0, .ref (b 0)), (1, .int (nI lv)), (2, .int (nI f)), (3, .int (nI ((40 * lv) + f))), (4, .int mo), (5, .int (M0 4 f)), (6, .int (nI (p1 f))), (8, .int (semR M0 n kd p1 p2 sb ag mo (p1 f))), (9, .int (nI j))]) hx hb dX5_truth_334 hl (by decide) rfl (fun ls hl => ?_)
                                  refine lv_iinc (v := (nI (j + 1))) (lv' := [(9, .int (nI (j + 1))), (7, .int x_77), (11, .int (nI 1)), (10, .int (everyR M0 n (M0 4 f) j)), (0, .ref (b 0)), (1, .int (nI lv)), (2, .int (nI f)), (3, .int (nI ((40 * lv) + f))), (4, .int mo), (5, .int (M0 4 f)), (6, .int (nI (p1 f))), (8, .int (semR M0 n kd p1 p2 sb ag mo (p1 f)))]) hx hb dX5_truth_336 hl (k := 11) rfl (nI_add j 1) (by decide) rfl (fun ls hl => ?_)
                                  refine lv_goto (tgt := 183) hx hb dX5_truth_339 (by decide) ?_
                                  have e_78 : x_77 = (fo (fun w r => if bt mo w && decide ((everyR M0 n (M0 4 f) w &&& mo &&& (semR M0 n kd p1 p2 sb ag mo (p1 f) ^^^ (-1))) = 0) then r ||| sg w else r) (nI 0) (j + 1)) := by first | (rw [fo_s, if_neg (by rw [c199]; exact Bool.false_ne_true)]; done) | (rw [fo_s, if_pos (by rw [c199, decide_eq_true c312]; rfl)]; assumption) | (rw [fo_s, if_neg (by rw [c199, decide_eq_false c312]; exact Bool.false_ne_true)]; done)
                                  exact cut183 (j + 1) (by omega) (by omega) _ _ hP hS ls (lcons (lcons (lcons (lcons (lcons (lcons (lcons (lcons (lcons (lcons (lzero hl) hl 0 rfl rfl) hl 11 rfl rfl) hl 1 rfl (congrArg Value.int e_78)) hl 10 rfl rfl) hl 9 rfl rfl) hl 8 rfl rfl) hl 7 rfl rfl) hl 6 rfl rfl) hl 5 rfl rfl) hl 4 rfl rfl)
                            ·
                              replace c284 : 5 = 0 := k0_nef c284 (by omega)
                              exfalso; omega
                        ·
                          replace c238 : 5 = 4 := k_nef c238 (by omega) (by omega)
                          exfalso; omega
                      ·
                        replace c212 : 5 = 3 := k_nef c212 (by omega) (by omega)
                        exfalso; omega
                    ·
                      replace c199 := bI_0 c199
                      refine lv_goto (tgt := 336) hx hb dX5_truth_202 (by decide) ?_
                      refine lv_iinc (v := (nI (j + 1))) (lv' := [(9, .int (nI (j + 1))), (0, .ref (b 0)), (1, .int (nI lv)), (2, .int (nI f)), (3, .int (nI ((40 * lv) + f))), (4, .int mo), (5, .int (M0 4 f)), (6, .int (nI (p1 f))), (7, .int (fo (fun w r => if bt mo w && decide ((everyR M0 n (M0 4 f) w &&& mo &&& (semR M0 n kd p1 p2 sb ag mo (p1 f) ^^^ (-1))) = 0) then r ||| sg w else r) (nI 0) j)), (8, .int (semR M0 n kd p1 p2 sb ag mo (p1 f)))]) hx hb dX5_truth_336 hl (k := 9) rfl (nI_add j 1) (by decide) rfl (fun ls hl => ?_)
                      refine lv_goto (tgt := 183) hx hb dX5_truth_339 (by decide) ?_
                      have e_79 : (fo (fun w r => if bt mo w && decide ((everyR M0 n (M0 4 f) w &&& mo &&& (semR M0 n kd p1 p2 sb ag mo (p1 f) ^^^ (-1))) = 0) then r ||| sg w else r) (nI 0) j) = (fo (fun w r => if bt mo w && decide ((everyR M0 n (M0 4 f) w &&& mo &&& (semR M0 n kd p1 p2 sb ag mo (p1 f) ^^^ (-1))) = 0) then r ||| sg w else r) (nI 0) (j + 1)) := by first | (rw [fo_s, if_neg (by rw [c199]; exact Bool.false_ne_true)]; done) | (rw [fo_s, if_pos (by rw [c199, decide_eq_true c312]; rfl)]; assumption) | (rw [fo_s, if_neg (by rw [c199, decide_eq_false c312]; exact Bool.false_ne_true)]; done)
                      exact cut183 (j + 1) (by omega) (by omega) _ _ hP hS ls (lcons (lcons (lcons (lcons (lcons (lcons (lcons (lcons (lcons (lcons (lzero hl) hl 0 rfl rfl) hl 9 rfl rfl) hl 8 rfl (congrArg Value.int e_79)) hl 7 rfl rfl) hl 6 rfl rfl) hl 5 rfl rfl) hl 4 rfl rfl) hl 3 rfl rfl) hl 2 rfl rfl) hl 1 rfl rfl)
              have e_80 : (nI 0) = (fo (fun w r => if bt mo w && decide ((everyR M0 n (M0 4 f) w &&& mo &&& (semR M0 n kd p1 p2 sb ag mo (p1 f) ^^^ (-1))) = 0) then r ||| sg w else r) (nI 0) 0) := by rfl
              exact cut183 (n + 1) 0 (by omega) (by omega) _ _ hP hS ls (lcons (lcons (lcons (lcons (lcons (lcons (lcons (lcons (lcons (lcons (lzero hl) hl 0 rfl rfl) hl 1 rfl rfl) hl 2 rfl (congrArg Value.int e_80)) hl 3 rfl rfl) hl 4 rfl rfl) hl 5 rfl rfl) hl 6 rfl rfl) hl 9 rfl rfl) hl 8 rfl rfl) hl 7 rfl rfl)
            ·
              replace c164 : 5 = 0 := k0_nef c164 (by omega)
              exfalso; omega
          ·
            replace c115 : 5 = 6 := k_nef c115 (by omega) (by omega)
            exfalso; omega
        ·
          replace c87 : 5 = 1 := k_nef c87 (by omega) (by omega)
          exfalso; omega
      ·
        replace c57 : 5 = 2 := k_nef c57 (by omega) (by omega)
        exfalso; omega
    ·
      refine lv_aload_n hx hb dX5_truth_16 rfl (lv_at hl 1 rfl) ?_
      refine va_get (D := D) (ci := 5) (v := .ref (b 10)) (C := RX5) (T := TX5) (N := 15) hx hb hts hinX5 hown hK1 hP 0 rfl rfl 13 (by decide) (hts (.fieldLink RX5 38 "KnowledgeModelModel" "truths" "[I") (List.mem_of_getElem? (i := 2) rfl)) (fun _ h9 => h9) rfl dX5_truth_17 ?_
      refine lv_iload_n hx hb dX5_truth_20 rfl (lv_at hl 0 rfl) ?_
      refine xiald (j := (40 * lv) + f) (q0 := 10) (t0 := 0) hx hb hK1 hP rfl rfl (by omega) (by decide) dX5_truth_21 ?_
      refine xtop (y := (semR M0 n kd p1 p2 sb ag mo f)) (by exact ((hti.2 f hf).resolve_left c13).2) ?_
      subst hQ
      have hrel : TR M0 M n nf kd p1 p2 sb ag lv mo M := by first | exact TR_r hti | (simp only [fo_0, c13]; exact TR_w (TR_r hti) hf hval) | (simp only [fo_0, c13]; exact TR_w trivial hf hval) | (simp only [fo_0, c13]; exact TR_w (TR_t trivial trivial) hf hval) | (simp only [fo_0, c13]; exact TR_w (TR_b trivial hf40 (by simpa only [fo_0, c13] using trivial)) hf hval)
      have hfin : (semR M0 n kd p1 p2 sb ag mo f) = semR M0 n kd p1 p2 sb ag mo f := by first | exact hval | rfl
      exact W.iret hx hb hr (fun t ht hW => ⟨⟨_, M, rfl, ⟨hfin, hrel⟩, by rw [← ht] at hP; exact hP⟩, hS.F ht⟩) hS.2.2 dX5_truth_22
  ·
    exfalso; have := (hE6 hkd).2; omega

set_option maxHeartbeats 4000000 in
set_option maxRecDepth 100000 in
theorem c_X5_truth_1 (l : Launch) (D : va_G) (cs : Nat → ClassId) (b : Nat → Nat) (hI : kI b 12) (n nf : Nat) (kd p1 p2 ns sb ag : Nat → Nat) (M0 : Nat → Nat → Int32) (hn0 : M0 0 1 = nI n) (hn24 : n ≤ 24) (hwf : WFR M0 nf kd p1 p2 ns sb ag) (hfc0 : M0 0 3 = nI nf) (hf40 : nf ≤ 40) (f : Nat) : ∀ (M : Nat → Nat → Int32) (sz lv : Nat) (mo : Int32) (hag : Ag8 M M0) (hlv : lv = 1) (hf : f < nf) (hns : ns f + lv ≤ 2) (hti : TI M0 M n nf kd p1 p2 sb ag lv mo), Met l yX5_truth wsX5_truth ({ frames := 56 + f, cells := 0, slots := 0, locals := 1600 + 31 * f } : Room) (va_Pc [.ref (b 0), .int (nI lv), .int (nI f)] (XBs D cs (rc cs b M) sz)) (va_Qi (fun r (u : Nat → Nat → Int32) => r = semR M0 n kd p1 p2 sb ag mo f ∧ TR M0 M n nf kd p1 p2 sb ag lv mo u) (fun u t => va_P D vwCl (rc cs b u) t.heap) (kA b 12 sz)) 0 0 (kA b 12 sz) := by
  refine Nat.strongRecOn f (fun f ih => ?_)
  intro M sz lv mo hag hlv hf hns hti
  have hn : M 0 1 = nI n := (hag 0 1 (by decide)).trans hn0
  have hfc : M 0 3 = nI nf := (hag 0 3 (by decide)).trans hfc0
  refine Met.ofW (cc := cX5_truth) (maxL := 12) (ret := (some .int)) (by decide) rfl ?_
  intro p e s m args below meth c s₁ B hml hv
  obtain ⟨rfl, hsz, hP, hK⟩ := hv
  have hx := B.exec
  have hb := B.bytes
  have hr := B.returns
  have hts := atoms_spec (ws := wsX5_truth) B.pre
  have hown : s.vm.findClass RX5 = some m.cls := findClass_of_methodNamed B.named
  have hlocks := B.notSynchronized
  have hK1 := hK.1
  have hinX5 : ∀ w ∈ wsX50, w ∈ wsX5_truth := fun w h => List.mem_cons_of_mem _ (List.mem_append_right _ h)
  subst hsz
  have hS : va_S (kA b 12 s.heap.size) s.heap s.heap [] := va_S.rf
  have hl := lv_entry ([.ref (b 0), .int (nI lv), .int (nI f)]) (n := 12) (Nat.le_of_ble_eq_true rfl)
  rw [lg_entry_eq]
  generalize (lg_sl ([.ref (b 0), .int (nI lv), .int (nI f)]) ++ List.replicate (12 - (lg_sl ([.ref (b 0), .int (nI lv), .int (nI f)])).length) Slot.unset).toArray = ls at hl ⊢
  have hl : lv_has ls 12 [(0, .ref (b 0)), (1, .int (nI lv)), (2, .int (nI f))] := hl
  refine W_Q (fun Q hQ => ?_)
  show W p l e ({ frames := 56 + f, cells := 0, slots := 0, locals := 1600 + 31 * f } : Room) s m ([.ref (b 0), .int (nI lv), .int (nI f)] : List Value).toArray below meth c s.heap [] 0 0 Q (F0 m 0 ls [])
  obtain ⟨⟨hk7, hk3, hk2⟩, hA, hB, hC, hG, hE1, hE2, hE6⟩ := hwf.2 f hf
  have hwp := hwf.1
  have hL := hwf.1 f hf
  rcases (show kd f = 0 ∨ kd f = 1 ∨ kd f = 2 ∨ kd f = 3 ∨ kd f = 4 ∨ kd f = 5 ∨ kd f = 6 by omega) with hkd | hkd | hkd | hkd | hkd | hkd | hkd
  ·
    obtain ⟨hA1, hA2⟩ := hA hkd
    refine lv_bipush (v := (nI 40)) hx hb dX5_truth_0 (by decide) ?_
    refine lv_iload_n hx hb dX5_truth_2 rfl (lv_at hl 1 rfl) ?_
    refine ximul hx hb dX5_truth_3 ?_
    refine lv_iload_n hx hb dX5_truth_4 rfl (lv_at hl 2 rfl) ?_
    refine xiadd hx hb dX5_truth_5 ?_
    refine lv_istore_n (lv' := [(3, .int (nI ((40 * lv) + f))), (0, .ref (b 0)), (1, .int (nI lv)), (2, .int (nI f))]) hx hb dX5_truth_6 rfl hl (by decide) rfl (fun ls hl => ?_)
    refine lv_aload_n hx hb dX5_truth_7 rfl (lv_at hl 1 rfl) ?_
    refine va_get (D := D) (ci := 5) (v := .ref (b 9)) (C := RX5) (T := TX5) (N := 15) hx hb hts hinX5 hown hK1 hP 0 rfl rfl 12 (by decide) (hts (.fieldLink RX5 34 "KnowledgeModelModel" "areKnown" "[Z") (List.mem_of_getElem? (i := 1) rfl)) (fun _ h9 => h9) rfl dX5_truth_8 ?_
    refine lv_iload_n hx hb dX5_truth_11 rfl (lv_at hl 0 rfl) ?_
    refine xzald (j := (40 * lv) + f) (q0 := 9) (t0 := 3) hx hb hK1 hP rfl rfl (by omega) (by decide) dX5_truth_12 ?_
    refine lv_if_eq (tgt := 23) hx hb dX5_truth_13 (by decide) (fun c13 => ?_) (fun c13 => ?_)
    ·
      refine lv_aload_n hx hb dX5_truth_23 rfl (lv_at hl 1 rfl) ?_
      refine va_get (D := D) (ci := 5) (v := .ref (b 8)) (C := RX5) (T := TX5) (N := 15) hx hb hts hinX5 hown hK1 hP 0 rfl rfl 11 (by decide) (hts (.fieldLink RX5 31 "KnowledgeModelModel" "lefts" "[I") (List.mem_of_getElem? (i := 3) rfl)) (fun _ h9 => h9) rfl dX5_truth_24 ?_
      refine lv_iload_n hx hb dX5_truth_27 rfl (lv_at hl 2 rfl) ?_
      refine xiald (j := lv) (q0 := 8) (t0 := 0) hx hb hK1 hP rfl rfl (by omega) (by decide) dX5_truth_28 ?_
      refine xtop (y := mo) (by exact hti.1) ?_
      refine lv_istore (lv' := [(4, .int mo), (3, .int (nI ((40 * lv) + f))), (0, .ref (b 0)), (1, .int (nI lv)), (2, .int (nI f))]) hx hb dX5_truth_29 hl (by decide) rfl (fun ls hl => ?_)
      refine lv_aload_n hx hb dX5_truth_31 rfl (lv_at hl 2 rfl) ?_
      refine va_get (D := D) (ci := 5) (v := .ref (b 4)) (C := RX5) (T := TX5) (N := 15) hx hb hts hinX5 hown hK1 hP 0 rfl rfl 7 (by decide) (hts (.fieldLink RX5 19 "KnowledgeModelModel" "firsts" "[I") (List.mem_of_getElem? (i := 4) rfl)) (fun _ h9 => h9) rfl dX5_truth_32 ?_
      refine lv_iload_n hx hb dX5_truth_35 rfl (lv_at hl 4 rfl) ?_
      refine xiald (j := f) (q0 := 4) (t0 := 0) hx hb hK1 hP rfl rfl (by omega) (by decide) dX5_truth_36 ?_
      refine xtop (y := (nI (sb f))) (by exact (hag 4 f (by decide)).trans hA1) ?_
      refine lv_istore (lv' := [(5, .int (nI (sb f))), (4, .int mo), (3, .int (nI ((40 * lv) + f))), (0, .ref (b 0)), (1, .int (nI lv)), (2, .int (nI f))]) hx hb dX5_truth_37 hl (by decide) rfl (fun ls hl => ?_)
      refine lv_aload_n hx hb dX5_truth_39 rfl (lv_at hl 3 rfl) ?_
      refine va_get (D := D) (ci := 5) (v := .ref (b 5)) (C := RX5) (T := TX5) (N := 15) hx hb hts hinX5 hown hK1 hP 0 rfl rfl 8 (by decide) (hts (.fieldLink RX5 22 "KnowledgeModelModel" "seconds" "[I") (List.mem_of_getElem? (i := 5) rfl)) (fun _ h9 => h9) rfl dX5_truth_40 ?_
      refine lv_iload_n hx hb dX5_truth_43 rfl (lv_at hl 5 rfl) ?_
      refine xiald (j := f) (q0 := 5) (t0 := 0) hx hb hK1 hP rfl rfl (by omega) (by decide) dX5_truth_44 ?_
      refine xtop (y := (M0 5 f)) (by exact hag 5 f (by decide)) ?_
      refine lv_istore (lv' := [(6, .int (M0 5 f)), (5, .int (nI (sb f))), (4, .int mo), (3, .int (nI ((40 * lv) + f))), (0, .ref (b 0)), (1, .int (nI lv)), (2, .int (nI f))]) hx hb dX5_truth_45 hl (by decide) rfl (fun ls hl => ?_)
      refine lv_iconst (v := (nI 0)) hx hb dX5_truth_47 (by decide) ?_
      refine lv_istore (lv' := [(7, .int (nI 0)), (6, .int (M0 5 f)), (5, .int (nI (sb f))), (4, .int mo), (3, .int (nI ((40 * lv) + f))), (0, .ref (b 0)), (1, .int (nI lv)), (2, .int (nI f))]) hx hb dX5_truth_48 hl (by decide) rfl (fun ls hl => ?_)
      refine lv_aload_n hx hb dX5_truth_50 rfl (lv_at hl 5 rfl) ?_
      refine va_get (D := D) (ci := 5) (v := .ref (b 3)) (C := RX5) (T := TX5) (N := 15) hx hb hts hinX5 hown hK1 hP 0 rfl rfl 6 (by decide) (hts (.fieldLink RX5 16 "KnowledgeModelModel" "kinds" "[I") (List.mem_of_getElem? (i := 6) rfl)) (fun _ h9 => h9) rfl dX5_truth_51 ?_
      refine lv_iload_n hx hb dX5_truth_54 rfl (lv_at hl 7 rfl) ?_
      refine xiald (j := f) (q0 := 3) (t0 := 0) hx hb hK1 hP rfl rfl (by omega) (by decide) dX5_truth_55 ?_
      refine xtop (y := (nI 0)) (by exact ((hag 3 f (by decide)).trans hk3).trans (congrArg nI hkd)) ?_
      refine lv_iconst (v := (nI 2)) hx hb dX5_truth_56 (by decide) ?_
      refine lv_icmp_ne (tgt := 80) hx hb dX5_truth_57 (by decide) (fun c57 => ?_) (fun c57 => ?_)
      ·
        replace c57 : ¬ 0 = 2 := k_net c57 (by omega) (by omega)
        refine lv_aload_n hx hb dX5_truth_80 rfl (lv_at hl 5 rfl) ?_
        refine va_get (D := D) (ci := 5) (v := .ref (b 3)) (C := RX5) (T := TX5) (N := 15) hx hb hts hinX5 hown hK1 hP 0 rfl rfl 6 (by decide) (hts (.fieldLink RX5 16 "KnowledgeModelModel" "kinds" "[I") (List.mem_of_getElem? (i := 6) rfl)) (fun _ h9 => h9) rfl dX5_truth_81 ?_
        refine lv_iload_n hx hb dX5_truth_84 rfl (lv_at hl 7 rfl) ?_
        refine xiald (j := f) (q0 := 3) (t0 := 0) hx hb hK1 hP rfl rfl (by omega) (by decide) dX5_truth_85 ?_
        refine xtop (y := (nI 0)) (by exact ((hag 3 f (by decide)).trans hk3).trans (congrArg nI hkd)) ?_
        refine lv_iconst (v := (nI 1)) hx hb dX5_truth_86 (by decide) ?_
        refine lv_icmp_ne (tgt := 107) hx hb dX5_truth_87 (by decide) (fun c87 => ?_) (fun c87 => ?_)
        ·
          replace c87 : ¬ 0 = 1 := k_net c87 (by omega) (by omega)
          refine lv_aload_n hx hb dX5_truth_107 rfl (lv_at hl 5 rfl) ?_
          refine va_get (D := D) (ci := 5) (v := .ref (b 3)) (C := RX5) (T := TX5) (N := 15) hx hb hts hinX5 hown hK1 hP 0 rfl rfl 6 (by decide) (hts (.fieldLink RX5 16 "KnowledgeModelModel" "kinds" "[I") (List.mem_of_getElem? (i := 6) rfl)) (fun _ h9 => h9) rfl dX5_truth_108 ?_
          refine lv_iload_n hx hb dX5_truth_111 rfl (lv_at hl 7 rfl) ?_
          refine xiald (j := f) (q0 := 3) (t0 := 0) hx hb hK1 hP rfl rfl (by omega) (by decide) dX5_truth_112 ?_
          refine xtop (y := (nI 0)) (by exact ((hag 3 f (by decide)).trans hk3).trans (congrArg nI hkd)) ?_
          refine lv_bipush (v := (nI 6)) hx hb dX5_truth_113 (by decide) ?_
          refine lv_icmp_ne (tgt := 158) hx hb dX5_truth_115 (by decide) (fun c115 => ?_) (fun c115 => ?_)
          ·
            replace c115 : ¬ 0 = 6 := k_net c115 (by omega) (by omega)
            refine lv_aload_n hx hb dX5_truth_158 rfl (lv_at hl 5 rfl) ?_
            refine va_get (D := D) (ci := 5) (v := .ref (b 3)) (C := RX5) (T := TX5) (N := 15) hx hb hts hinX5 hown hK1 hP 0 rfl rfl 6 (by decide) (hts (.fieldLink RX5 16 "KnowledgeModelModel" "kinds" "[I") (List.mem_of_getElem? (i := 6) rfl)) (fun _ h9 => h9) rfl dX5_truth_159 ?_
            refine lv_iload_n hx hb dX5_truth_162 rfl (lv_at hl 7 rfl) ?_
            refine xiald (j := f) (q0 := 3) (t0 := 0) hx hb hK1 hP rfl rfl (by omega) (by decide) dX5_truth_163 ?_
            refine xtop (y := (nI 0)) (by exact ((hag 3 f (by decide)).trans hk3).trans (congrArg nI hkd)) ?_
            refine lv_if_ne (tgt := 171) hx hb dX5_truth_164 (by decide) (fun c164 => ?_) (fun c164 => ?_)
            ·
              replace c164 : ¬ 0 = 0 := k0_net c164 (by omega)
              exfalso; omega
            ·
              replace c164 : 0 = 0 := k0_nef c164 (by omega)
              refine lv_iconst (v := (nI 0)) hx hb dX5_truth_167 (by decide) ?_
              refine lv_goto (tgt := 178) hx hb dX5_truth_168 (by decide) ?_
              refine lv_istore (lv' := [(8, .int (nI 0)), (7, .int (nI 0)), (6, .int (M0 5 f)), (5, .int (nI (sb f))), (4, .int mo), (3, .int (nI ((40 * lv) + f))), (0, .ref (b 0)), (1, .int (nI lv)), (2, .int (nI f))]) hx hb dX5_truth_178 hl (by decide) rfl (fun ls hl => ?_)
              refine lv_iconst (v := (nI 0)) hx hb dX5_truth_180 (by decide) ?_
              refine lv_istore (lv' := [(9, .int (nI 0)), (8, .int (nI 0)), (7, .int (nI 0)), (6, .int (M0 5 f)), (5, .int (nI (sb f))), (4, .int mo), (3, .int (nI ((40 * lv) + f))), (0, .ref (b 0)), (1, .int (nI lv)), (2, .int (nI f))]) hx hb dX5_truth_181 hl (by decide) rfl (fun ls hl => ?_)
              have cut183 : ∀ (f183 : Nat) (j : Nat) (hj : j ≤ n), n + 1 ≤ j + f183 → ∀ (H : Heap) (locs : List Loc), va_P D vwCl (rc cs b M) H → va_S (kA b 12 s.heap.size) s.heap H locs → ∀ (ls : Array Slot), lv_has ls 12 [(0, .ref (b 0)), (1, .int (nI lv)), (2, .int (nI f)), (3, .int (nI ((40 * lv) + f))), (4, .int mo), (5, .int (nI (sb f))), (6, .int (M0 5 f)), (7, .int (fo (fun w r => if bt mo w && bt (M0 1 w) (sb f) then r ||| sg w else r) (nI 0) j)), (8, .int (nI 0)), (9, .int (nI j))] → W p l e ({ frames := 56 + f, cells := 0, slots := 0, locals := 1600 + 31 * f } : Room) s m ([.ref (b 0), .int (nI lv), .int (nI f)] : List Value).toArray below meth c H locs 0 0 Q (F0 m 183 ls []) := by
                intro f183
                induction f183 with
                | zero => intro j hj hfu183; exact absurd hfu183 (by omega)
                | succ f183 cut183 =>
                  intro j hj hfu183 H locs hP hS ls hl
                  refine lv_iload hx hb dX5_truth_183 (lv_at hl 9 rfl) ?_
                  refine lv_aload_n hx hb dX5_truth_185 rfl (lv_at hl 0 rfl) ?_
                  refine va_get (D := D) (ci := 5) (v := .int (M 0 1)) (C := RX5) (T := TX5) (N := 15) hx hb hts hinX5 hown hK1 hP 0 rfl rfl 1 (by decide) (hts (.fieldLink RX5 48 "KnowledgeModelModel" "worlds" "I") (List.mem_of_getElem? (i := 7) rfl)) (fun _ h9 => h9) rfl dX5_truth_186 ?_
                  refine xtop (y := nI n) (hn) ?_
                  refine lv_icmp_ge (tgt := 342) hx hb dX5_truth_189 (by decide) (fun c189 => ?_) (fun c189 => ?_)
                  ·
                    replace c189 : n ≤ j := k_get c189 (by omega) (by omega)
                    have hje : j = n := by omega
                    have hval : (fo (fun w r => if bt mo w && bt (M0 1 w) (sb f) then r ||| sg w else r) (nI 0) j) = semR M0 n kd p1 p2 sb ag mo f := by rw [semR_eq hwp hf]; simp only [askR, hkd, if_true, if_false, show (1 : Nat) ≠ 0 by decide, show (2 : Nat) ≠ 0 by decide, show (2 : Nat) ≠ 1 by decide, show (3 : Nat) ≠ 0 by decide, show (3 : Nat) ≠ 1 by decide, show (3 : Nat) ≠ 2 by decide, show (3 : Nat) ≠ 6 by decide, show (4 : Nat) ≠ 0 by decide, show (4 : Nat) ≠ 1 by decide, show (4 : Nat) ≠ 2 by decide, show (4 : Nat) ≠ 3 by decide, show (4 : Nat) ≠ 6 by decide, show (5 : Nat) ≠ 0 by decide, show (5 : Nat) ≠ 1 by decide, show (5 : Nat) ≠ 2 by decide, show (5 : Nat) ≠ 3 by decide, show (5 : Nat) ≠ 4 by decide, show (5 : Nat) ≠ 6 by decide, show (6 : Nat) ≠ 0 by decide, show (6 : Nat) ≠ 1 by decide, show (6 : Nat) ≠ 2 by decide, hje]
                    refine lv_aload_n hx hb dX5_truth_342 rfl (lv_at hl 0 rfl) ?_
                    refine va_get (D := D) (ci := 5) (v := .ref (b 10)) (C := RX5) (T := TX5) (N := 15) hx hb hts hinX5 hown hK1 hP 0 rfl rfl 13 (by decide) (hts (.fieldLink RX5 38 "KnowledgeModelModel" "truths" "[I") (List.mem_of_getElem? (i := 2) rfl)) (fun _ h9 => h9) rfl dX5_truth_343 ?_
                    refine lv_iload_n hx hb dX5_truth_346 rfl (lv_at hl 3 rfl) ?_
                    refine lv_iload hx hb dX5_truth_347 (lv_at hl 7 rfl) ?_
                    refine lv_topi (fun x_1 hx_1 => ?_)
                    refine xiast (j := (40 * lv) + f) (q0 := 10) (t0 := 0) (ws' := rc cs b (wr M 10 ((40 * lv) + f) x_1)) hx hb hK1 hP (rD hI) hS rfl rfl (by omega) (by decide) rs_10 dX5_truth_349 (fun H locs hP hS => ?_)
                    obtain ⟨M_2, hM_2⟩ : ∃ z, z = wr M 10 ((40 * lv) + f) x_1 := ⟨_, rfl⟩
                    rw [← hM_2] at hP
                    have hk_3 : M_2 0 1 = nI n := by rw [hM_2]; exact (wr_ne (Or.inl (by omega))).trans hn
                    have hk_4 : M_2 0 3 = nI nf := by rw [hM_2]; exact (wr_ne (Or.inl (by omega))).trans hfc
                    refine lv_aload_n hx hb dX5_truth_350 rfl (lv_at hl 0 rfl) ?_
                    refine va_get (D := D) (ci := 5) (v := .ref (b 9)) (C := RX5) (T := TX5) (N := 15) hx hb hts hinX5 hown hK1 hP 0 rfl rfl 12 (by decide) (hts (.fieldLink RX5 34 "KnowledgeModelModel" "areKnown" "[Z") (List.mem_of_getElem? (i := 1) rfl)) (fun _ h9 => h9) rfl dX5_truth_351 ?_
                    refine lv_iload_n hx hb dX5_truth_354 rfl (lv_at hl 3 rfl) ?_
                    refine lv_iconst (v := (nI 1)) hx hb dX5_truth_355 (by decide) ?_
                    refine xzast (j := (40 * lv) + f) (q0 := 9) (t0 := 3) (ws' := rc cs b (wr M_2 9 ((40 * lv) + f) (nI 1))) hx hb hK1 hP (rD hI) hS rfl rfl (by omega) (by decide) (by decide) rs_9 dX5_truth_356 (fun H locs hP hS => ?_)
                    obtain ⟨M_5, hM_5⟩ : ∃ z, z = wr M_2 9 ((40 * lv) + f) (nI 1) := ⟨_, rfl⟩
                    rw [← hM_5] at hP
                    have hk_6 : M_5 0 1 = nI n := by rw [hM_5]; exact (wr_ne (Or.inl (by omega))).trans hk_3
                    have hk_7 : M_5 0 3 = nI nf := by rw [hM_5]; exact (wr_ne (Or.inl (by omega))).trans hk_4
                    refine lv_iload hx hb dX5_truth_357 (lv_at hl 7 rfl) ?_
                    subst hQ
                    have hrel : TR M0 M n nf kd p1 p2 sb ag lv mo M_5 := by first | exact TR_r hti | (simp only [fo_0, c13, c57, c87, c115, c164, c189, hx_1, hM_2, hM_5]; exact TR_w (TR_r hti) hf hval) | (simp only [fo_0, c13, c57, c87, c115, c164, c189, hx_1, hM_2, hM_5]; exact TR_w trivial hf hval) | (simp only [fo_0, c13, c57, c87, c115, c164, c189, hx_1, hM_2, hM_5]; exact TR_w (TR_t trivial trivial) hf hval) | (simp only [fo_0, c13, c57, c87, c115, c164, c189, hx_1, hM_2, hM_5]; exact TR_w (TR_b trivial hf40 (by simpa only [fo_0, c13, c57, c87, c115, c164, c189, hx_1, hM_2, hM_5] using trivial)) hf hval)
                    have hfin : (fo (fun w r => if bt mo w && bt (M0 1 w) (sb f) then r ||| sg w else r) (nI 0) j) = semR M0 n kd p1 p2 sb ag mo f := by first | exact hval | rfl
                    exact W.iret hx hb hr (fun t ht hW => ⟨⟨_, M_5, rfl, ⟨hfin, hrel⟩, by rw [← ht] at hP; exact hP⟩, hS.F ht⟩) hS.2.2 dX5_truth_359
                  ·
                    replace c189 : j < n := k_gef c189 (by omega) (by omega)
                    refine lv_iload hx hb dX5_truth_192 (lv_at hl 4 rfl) ?_
                    refine lv_iload hx hb dX5_truth_194 (lv_at hl 9 rfl) ?_
                    refine xcalli (va_runS (As := [.int mo, .int (nI j)]) (rest := []) ⟨hx, hb, hml, hown, hts⟩ (c_X5_has l mo j (by omega)) (va_cwS 2 hts gX5_truth_X5_has rfl rfl rfl (by decide +kernel) ⟨by dsimp only; omega, by dsimp only; omega⟩) xpreN rfl rfl hl.1 rfl (lv_room (Nat.le_of_ble_eq_true rfl)) dX5_truth_196 ⟨Nat.le_of_ble_eq_true rfl, Nat.le_of_ble_eq_true rfl⟩) hS hP (fun H locs hP hS => ?_)
                    refine lv_if_ne (tgt := 205) hx hb dX5_truth_199 (by decide) (fun c199 => ?_) (fun c199 => ?_)
                    ·
                      replace c199 := bI_n0 c199
                      refine lv_aload_n hx hb dX5_truth_205 rfl (lv_at hl 0 rfl) ?_
                      refine va_get (D := D) (ci := 5) (v := .ref (b 3)) (C := RX5) (T := TX5) (N := 15) hx hb hts hinX5 hown hK1 hP 0 rfl rfl 6 (by decide) (hts (.fieldLink RX5 16 "KnowledgeModelModel" "kinds" "[I") (List.mem_of_getElem? (i := 6) rfl)) (fun _ h9 => h9) rfl dX5_truth_206 ?_
                      refine lv_iload_n hx hb dX5_truth_209 rfl (lv_at hl 2 rfl) ?_
                      refine xiald (j := f) (q0 := 3) (t0 := 0) hx hb hK1 hP rfl rfl (by omega) (by decide) dX5_truth_210 ?_
                      refine xtop (y := (nI 0)) (by exact ((hag 3 f (by decide)).trans hk3).trans (congrArg nI hkd)) ?_
                      refine lv_iconst (v := (nI 3)) hx hb dX5_truth_211 (by decide) ?_
                      refine lv_icmp_ne (tgt := 231) hx hb dX5_truth_212 (by decide) (fun c212 => ?_) (fun c212 => ?_)
                      ·
                        replace c212 : ¬ 0 = 3 := k_net c212 (by omega) (by omega)
                        refine lv_aload_n hx hb dX5_truth_231 rfl (lv_at hl 0 rfl) ?_
                        refine va_get (D := D) (ci := 5) (v := .ref (b 3)) (C := RX5) (T := TX5) (N := 15) hx hb hts hinX5 hown hK1 hP 0 rfl rfl 6 (by decide) (hts (.fieldLink RX5 16 "KnowledgeModelModel" "kinds" "[I") (List.mem_of_getElem? (i := 6) rfl)) (fun _ h9 => h9) rfl dX5_truth_232 ?_
                        refine lv_iload_n hx hb dX5_truth_235 rfl (lv_at hl 2 rfl) ?_
                        refine xiald (j := f) (q0 := 3) (t0 := 0) hx hb hK1 hP rfl rfl (by omega) (by decide) dX5_truth_236 ?_
                        refine xtop (y := (nI 0)) (by exact ((hag 3 f (by decide)).trans hk3).trans (congrArg nI hkd)) ?_
                        refine lv_iconst (v := (nI 4)) hx hb dX5_truth_237 (by decide) ?_
                        refine lv_icmp_ne (tgt := 254) hx hb dX5_truth_238 (by decide) (fun c238 => ?_) (fun c238 => ?_)
                        ·
                          replace c238 : ¬ 0 = 4 := k_net c238 (by omega) (by omega)
                          refine lv_aload_n hx hb dX5_truth_254 rfl (lv_at hl 0 rfl) ?_
                          refine va_get (D := D) (ci := 5) (v := .ref (b 3)) (C := RX5) (T := TX5) (N := 15) hx hb hts hinX5 hown hK1 hP 0 rfl rfl 6 (by decide) (hts (.fieldLink RX5 16 "KnowledgeModelModel" "kinds" "[I") (List.mem_of_getElem? (i := 6) rfl)) (fun _ h9 => h9) rfl dX5_truth_255 ?_
                          refine lv_iload_n hx hb dX5_truth_258 rfl (lv_at hl 2 rfl) ?_
                          refine xiald (j := f) (q0 := 3) (t0 := 0) hx hb hK1 hP rfl rfl (by omega) (by decide) dX5_truth_259 ?_
                          refine xtop (y := (nI 0)) (by exact ((hag 3 f (by decide)).trans hk3).trans (congrArg nI hkd)) ?_
                          refine lv_iconst (v := (nI 5)) hx hb dX5_truth_260 (by decide) ?_
                          refine lv_icmp_ne (tgt := 275) hx hb dX5_truth_261 (by decide) (fun c261 => ?_) (fun c261 => ?_)
                          ·
                            replace c261 : ¬ 0 = 5 := k_net c261 (by omega) (by omega)
                            refine lv_iconst (v := (nI 0)) hx hb dX5_truth_275 (by decide) ?_
                            refine lv_istore (lv' := [(10, .int (nI 0)), (0, .ref (b 0)), (1, .int (nI lv)), (2, .int (nI f)), (3, .int (nI ((40 * lv) + f))), (4, .int mo), (5, .int (nI (sb f))), (6, .int (M0 5 f)), (7, .int (fo (fun w r => if bt mo w && bt (M0 1 w) (sb f) then r ||| sg w else r) (nI 0) j)), (8, .int (nI 0)), (9, .int (nI j))]) hx hb dX5_truth_276 hl (by decide) rfl (fun ls hl => ?_)
                            refine lv_aload_n hx hb dX5_truth_278 rfl (lv_at hl 1 rfl) ?_
                            refine va_get (D := D) (ci := 5) (v := .ref (b 3)) (C := RX5) (T := TX5) (N := 15) hx hb hts hinX5 hown hK1 hP 0 rfl rfl 6 (by decide) (hts (.fieldLink RX5 16 "KnowledgeModelModel" "kinds" "[I") (List.mem_of_getElem? (i := 6) rfl)) (fun _ h9 => h9) rfl dX5_truth_279 ?_
                            refine lv_iload_n hx hb dX5_truth_282 rfl (lv_at hl 3 rfl) ?_
                            refine xiald (j := f) (q0 := 3) (t0 := 0) hx hb hK1 hP rfl rfl (by omega) (by decide) dX5_truth_283 ?_
                            refine xtop (y := (nI 0)) (by exact ((hag 3 f (by decide)).trans hk3).trans (congrArg nI hkd)) ?_
                            refine lv_if_ne (tgt := 302) hx hb dX5_truth_284 (by decide) (fun c284 => ?_) (fun c284 => ?_)
                            ·
                              replace c284 : ¬ 0 = 0 := k0_net c284 (by omega)
                              exfalso; omega
                            ·
                              replace c284 : 0 = 0 := k0_nef c284 (by omega)
                              refine lv_aload_n hx hb dX5_truth_287 rfl (lv_at hl 1 rfl) ?_
                              refine va_get (D := D) (ci := 5) (v := .ref (b 1)) (C := RX5) (T := TX5) (N := 15) hx hb hts hinX5 hown hK1 hP 0 rfl rfl 3 (by decide) (hts (.fieldLink RX5 9 "KnowledgeModelModel" "atoms" "[I") (List.mem_of_getElem? (i := 9) rfl)) (fun _ h9 => h9) rfl dX5_truth_288 ?_
                              refine lv_iload hx hb dX5_truth_291 (lv_at hl 10 rfl) ?_
                              refine xiald (j := j) (q0 := 1) (t0 := 0) hx hb hK1 hP rfl rfl (by omega) (by decide) dX5_truth_293 ?_
                              refine xtop (y := (M0 1 j)) (by exact hag 1 _ (by decide)) ?_
                              refine lv_iload hx hb dX5_truth_294 (lv_at hl 6 rfl) ?_
                              refine xcalli (va_runS (As := [.int (M0 1 j), .int (nI (sb f))]) (rest := []) ⟨hx, hb, hml, hown, hts⟩ (c_X5_has l (M0 1 j) (sb f) (by omega)) (va_cwS 2 hts gX5_truth_X5_has rfl rfl rfl (by decide +kernel) ⟨by dsimp only; omega, by dsimp only; omega⟩) xpreN rfl rfl hl.1 rfl (lv_room (Nat.le_of_ble_eq_true rfl)) dX5_truth_296 ⟨Nat.le_of_ble_eq_true rfl, Nat.le_of_ble_eq_true rfl⟩) hS hP (fun H locs hP hS => ?_)
                              refine lv_goto (tgt := 320) hx hb dX5_truth_299 (by decide) ?_
                              refine lv_istore (lv' := [(11, .int (bI (bt (M0 1 j) (sb f)))), (10, .int (nI 0)), (0, .ref (b 0)), (1, .int (nI lv)), (2, .int (nI f)), (3, .int (nI ((40 * lv) + f))), (4, .int mo), (5, .int (nI (sb f))), (6, .int (M0 5 f)), (7, .int (fo (fun w r => if bt mo w && bt (M0 1 w) (sb f) then r ||| sg w else r) (nI 0) j)), (8, .int (nI 0)), (9, .int (nI j))]) hx hb dX5_truth_320 hl (by decide) rfl (fun ls hl => ?_)
                              refine lv_iload hx hb dX5_truth_322 (lv_at hl 0 rfl) ?_
                              refine lv_if_eq (tgt := 336) hx hb dX5_truth_324 (by decide) (fun c324 => ?_) (fun c324 => ?_)
                              ·
                                replace c324 := bI_0 c324
                                refine lv_iinc (v := (nI (j + 1))) (lv' := [(9, .int (nI (j + 1))), (11, .int (bI (bt (M0 1 j) (sb f)))), (10, .int (nI 0)), (0, .ref (b 0)), (1, .int (nI lv)), (2, .int (nI f)), (3, .int (nI ((40 * lv) + f))), (4, .int mo), (5, .int (nI (sb f))), (6, .int (M0 5 f)), (7, .int (fo (fun w r => if bt mo w && bt (M0 1 w) (sb f) then r ||| sg w else r) (nI 0) j)), (8, .int (nI 0))]) hx hb dX5_truth_336 hl (k := 11) rfl (nI_add j 1) (by decide) rfl (fun ls hl => ?_)
                                refine lv_goto (tgt := 183) hx hb dX5_truth_339 (by decide) ?_
                                have e_8 : (fo (fun w r => if bt mo w && bt (M0 1 w) (sb f) then r ||| sg w else r) (nI 0) j) = (fo (fun w r => if bt mo w && bt (M0 1 w) (sb f) then r ||| sg w else r) (nI 0) (j + 1)) := by first | (rw [fo_s, if_neg (by rw [c199]; exact Bool.false_ne_true)]; done) | (rw [fo_s, if_pos (by rw [c199, c324]; rfl)]; assumption) | (rw [fo_s, if_neg (by rw [c199, c324]; exact Bool.false_ne_true)]; done)
                                exact cut183 (j + 1) (by omega) (by omega) _ _ hP hS ls (lcons (lcons (lcons (lcons (lcons (lcons (lcons (lcons (lcons (lcons (lzero hl) hl 0 rfl rfl) hl 11 rfl rfl) hl 10 rfl (congrArg Value.int e_8)) hl 9 rfl rfl) hl 8 rfl rfl) hl 7 rfl rfl) hl 6 rfl rfl) hl 5 rfl rfl) hl 4 rfl rfl) hl 3 rfl rfl)
                              ·
                                replace c324 := bI_n0 c324
                                refine lv_iload hx hb dX5_truth_327 (lv_at hl 9 rfl) ?_
                                refine lv_iconst (v := (nI 1)) hx hb dX5_truth_329 (by decide) ?_
                                refine lv_iload hx hb dX5_truth_330 (lv_at hl 11 rfl) ?_
                                refine lv_ishl hx hb dX5_truth_332 ?_
                                refine lv_ior hx hb dX5_truth_333 ?_
                                refine lv_topi (fun x_9 hx_9 => ?_)
                                refine lv_istore (lv' := [(7, .int x_9), (11, .int (bI (bt (M0 1 j) (sb f)))), (10, .int (nI 0)), (0, .ref (b 0)), (1, .int (nI lv)), (2, .int (nI f)), (3, .int (nI ((40 * lv) + f))), (4, .int mo), (5, .int (nI (sb f))), (6, .int (M0 5 f)), (8, .int (nI 0)), (9, .int (nI j))]) hx hb dX5_truth_334 hl (by decide) rfl (fun ls hl => ?_)
                                refine lv_iinc (v := (nI (j + 1))) (lv' := [(9, .int (nI (j + 1))), (7, .int x_9), (11, .int (bI (bt (M0 1 j) (sb f)))), (10, .int (nI 0)), (0, .ref (b 0)), (1, .int (nI lv)), (2, .int (nI f)), (3, .int (nI ((40 * lv) + f))), (4, .int mo), (5, .int (nI (sb f))), (6, .int (M0 5 f)), (8, .int (nI 0))]) hx hb dX5_truth_336 hl (k := 11) rfl (nI_add j 1) (by decide) rfl (fun ls hl => ?_)
                                refine lv_goto (tgt := 183) hx hb dX5_truth_339 (by decide) ?_
                                have e_10 : x_9 = (fo (fun w r => if bt mo w && bt (M0 1 w) (sb f) then r ||| sg w else r) (nI 0) (j + 1)) := by first | (rw [fo_s, if_neg (by rw [c199]; exact Bool.false_ne_true)]; done) | (rw [fo_s, if_pos (by rw [c199, c324]; rfl)]; assumption) | (rw [fo_s, if_neg (by rw [c199, c324]; exact Bool.false_ne_true)]; done)
                                exact cut183 (j + 1) (by omega) (by omega) _ _ hP hS ls (lcons (lcons (lcons (lcons (lcons (lcons (lcons (lcons (lcons (lcons (lzero hl) hl 0 rfl rfl) hl 11 rfl rfl) hl 1 rfl (congrArg Value.int e_10)) hl 10 rfl rfl) hl 9 rfl rfl) hl 8 rfl rfl) hl 7 rfl rfl) hl 6 rfl rfl) hl 5 rfl rfl) hl 4 rfl rfl)
                          ·
                            replace c261 : 0 = 5 := k_nef c261 (by omega) (by omega)
                            exfalso; omega
                        ·
                          replace c238 : 0 = 4 := k_nef c238 (by omega) (by omega)
                          exfalso; omega
                      ·
                        replace c212 : 0 = 3 := k_nef c212 (by omega) (by omega)
                        exfalso; omega
                    ·
                      replace c199 := bI_0 c199
                      refine lv_goto (tgt := 336) hx hb dX5_truth_202 (by decide) ?_
                      refine lv_iinc (v := (nI (j + 1))) (lv' := [(9, .int (nI (j + 1))), (0, .ref (b 0)), (1, .int (nI lv)), (2, .int (nI f)), (3, .int (nI ((40 * lv) + f))), (4, .int mo), (5, .int (nI (sb f))), (6, .int (M0 5 f)), (7, .int (fo (fun w r => if bt mo w && bt (M0 1 w) (sb f) then r ||| sg w else r) (nI 0) j)), (8, .int (nI 0))]) hx hb dX5_truth_336 hl (k := 9) rfl (nI_add j 1) (by decide) rfl (fun ls hl => ?_)
                      refine lv_goto (tgt := 183) hx hb dX5_truth_339 (by decide) ?_
                      have e_11 : (fo (fun w r => if bt mo w && bt (M0 1 w) (sb f) then r ||| sg w else r) (nI 0) j) = (fo (fun w r => if bt mo w && bt (M0 1 w) (sb f) then r ||| sg w else r) (nI 0) (j + 1)) := by first | (rw [fo_s, if_neg (by rw [c199]; exact Bool.false_ne_true)]; done) | (rw [fo_s, if_pos (by rw [c199, c324]; rfl)]; assumption) | (rw [fo_s, if_neg (by rw [c199, c324]; exact Bool.false_ne_true)]; done)
                      exact cut183 (j + 1) (by omega) (by omega) _ _ hP hS ls (lcons (lcons (lcons (lcons (lcons (lcons (lcons (lcons (lcons (lcons (lzero hl) hl 0 rfl rfl) hl 9 rfl rfl) hl 8 rfl (congrArg Value.int e_11)) hl 7 rfl rfl) hl 6 rfl rfl) hl 5 rfl rfl) hl 4 rfl rfl) hl 3 rfl rfl) hl 2 rfl rfl) hl 1 rfl rfl)
              have e_12 : (nI 0) = (fo (fun w r => if bt mo w && bt (M0 1 w) (sb f) then r ||| sg w else r) (nI 0) 0) := by rfl
              exact cut183 (n + 1) 0 (by omega) (by omega) _ _ hP hS ls (lcons (lcons (lcons (lcons (lcons (lcons (lcons (lcons (lcons (lcons (lzero hl) hl 0 rfl rfl) hl 1 rfl rfl) hl 2 rfl (congrArg Value.int e_12)) hl 3 rfl rfl) hl 4 rfl rfl) hl 5 rfl rfl) hl 6 rfl rfl) hl 9 rfl rfl) hl 8 rfl rfl) hl 7 rfl rfl)
          ·
            replace c115 : 0 = 6 := k_nef c115 (by omega) (by omega)
            exfalso; omega
        ·
          replace c87 : 0 = 1 := k_nef c87 (by omega) (by omega)
          exfalso; omega
      ·
        replace c57 : 0 = 2 := k_nef c57 (by omega) (by omega)
        exfalso; omega
    ·
      refine lv_aload_n hx hb dX5_truth_16 rfl (lv_at hl 1 rfl) ?_
      refine va_get (D := D) (ci := 5) (v := .ref (b 10)) (C := RX5) (T := TX5) (N := 15) hx hb hts hinX5 hown hK1 hP 0 rfl rfl 13 (by decide) (hts (.fieldLink RX5 38 "KnowledgeModelModel" "truths" "[I") (List.mem_of_getElem? (i := 2) rfl)) (fun _ h9 => h9) rfl dX5_truth_17 ?_
      refine lv_iload_n hx hb dX5_truth_20 rfl (lv_at hl 0 rfl) ?_
      refine xiald (j := (40 * lv) + f) (q0 := 10) (t0 := 0) hx hb hK1 hP rfl rfl (by omega) (by decide) dX5_truth_21 ?_
      refine xtop (y := (semR M0 n kd p1 p2 sb ag mo f)) (by exact ((hti.2 f hf).resolve_left c13).2) ?_
      subst hQ
      have hrel : TR M0 M n nf kd p1 p2 sb ag lv mo M := by first | exact TR_r hti | (simp only [fo_0, c13]; exact TR_w (TR_r hti) hf hval) | (simp only [fo_0, c13]; exact TR_w trivial hf hval) | (simp only [fo_0, c13]; exact TR_w (TR_t trivial trivial) hf hval) | (simp only [fo_0, c13]; exact TR_w (TR_b trivial hf40 (by simpa only [fo_0, c13] using trivial)) hf hval)
      have hfin : (semR M0 n kd p1 p2 sb ag mo f) = semR M0 n kd p1 p2 sb ag mo f := by first | exact hval | rfl
      exact W.iret hx hb hr (fun t ht hW => ⟨⟨_, M, rfl, ⟨hfin, hrel⟩, by rw [← ht] at hP; exact hP⟩, hS.F ht⟩) hS.2.2 dX5_truth_22
  ·
    have hq1 := hL.1 (by omega)
    have hz1 := hE1 (by omega)
    have hB1 := hB (by omega)
    refine lv_bipush (v := (nI 40)) hx hb dX5_truth_0 (by decide) ?_
    refine lv_iload_n hx hb dX5_truth_2 rfl (lv_at hl 1 rfl) ?_
    refine ximul hx hb dX5_truth_3 ?_
    refine lv_iload_n hx hb dX5_truth_4 rfl (lv_at hl 2 rfl) ?_
    refine xiadd hx hb dX5_truth_5 ?_
    refine lv_istore_n (lv' := [(3, .int (nI ((40 * lv) + f))), (0, .ref (b 0)), (1, .int (nI lv)), (2, .int (nI f))]) hx hb dX5_truth_6 rfl hl (by decide) rfl (fun ls hl => ?_)
    refine lv_aload_n hx hb dX5_truth_7 rfl (lv_at hl 1 rfl) ?_
    refine va_get (D := D) (ci := 5) (v := .ref (b 9)) (C := RX5) (T := TX5) (N := 15) hx hb hts hinX5 hown hK1 hP 0 rfl rfl 12 (by decide) (hts (.fieldLink RX5 34 "KnowledgeModelModel" "areKnown" "[Z") (List.mem_of_getElem? (i := 1) rfl)) (fun _ h9 => h9) rfl dX5_truth_8 ?_
    refine lv_iload_n hx hb dX5_truth_11 rfl (lv_at hl 0 rfl) ?_
    refine xzald (j := (40 * lv) + f) (q0 := 9) (t0 := 3) hx hb hK1 hP rfl rfl (by omega) (by decide) dX5_truth_12 ?_
    refine lv_if_eq (tgt := 23) hx hb dX5_truth_13 (by decide) (fun c13 => ?_) (fun c13 => ?_)
    ·
      refine lv_aload_n hx hb dX5_truth_23 rfl (lv_at hl 1 rfl) ?_
      refine va_get (D := D) (ci := 5) (v := .ref (b 8)) (C := RX5) (T := TX5) (N := 15) hx hb hts hinX5 hown hK1 hP 0 rfl rfl 11 (by decide) (hts (.fieldLink RX5 31 "KnowledgeModelModel" "lefts" "[I") (List.mem_of_getElem? (i := 3) rfl)) (fun _ h9 => h9) rfl dX5_truth_24 ?_
      refine lv_iload_n hx hb dX5_truth_27 rfl (lv_at hl 2 rfl) ?_
      refine xiald (j := lv) (q0 := 8) (t0 := 0) hx hb hK1 hP rfl rfl (by omega) (by decide) dX5_truth_28 ?_
      refine xtop (y := mo) (by exact hti.1) ?_
      refine lv_istore (lv' := [(4, .int mo), (3, .int (nI ((40 * lv) + f))), (0, .ref (b 0)), (1, .int (nI lv)), (2, .int (nI f))]) hx hb dX5_truth_29 hl (by decide) rfl (fun ls hl => ?_)
      refine lv_aload_n hx hb dX5_truth_31 rfl (lv_at hl 2 rfl) ?_
      refine va_get (D := D) (ci := 5) (v := .ref (b 4)) (C := RX5) (T := TX5) (N := 15) hx hb hts hinX5 hown hK1 hP 0 rfl rfl 7 (by decide) (hts (.fieldLink RX5 19 "KnowledgeModelModel" "firsts" "[I") (List.mem_of_getElem? (i := 4) rfl)) (fun _ h9 => h9) rfl dX5_truth_32 ?_
      refine lv_iload_n hx hb dX5_truth_35 rfl (lv_at hl 4 rfl) ?_
      refine xiald (j := f) (q0 := 4) (t0 := 0) hx hb hK1 hP rfl rfl (by omega) (by decide) dX5_truth_36 ?_
      refine xtop (y := (M0 4 f)) (by exact hag 4 f (by decide)) ?_
      refine lv_istore (lv' := [(5, .int (M0 4 f)), (4, .int mo), (3, .int (nI ((40 * lv) + f))), (0, .ref (b 0)), (1, .int (nI lv)), (2, .int (nI f))]) hx hb dX5_truth_37 hl (by decide) rfl (fun ls hl => ?_)
      refine lv_aload_n hx hb dX5_truth_39 rfl (lv_at hl 3 rfl) ?_
      refine va_get (D := D) (ci := 5) (v := .ref (b 5)) (C := RX5) (T := TX5) (N := 15) hx hb hts hinX5 hown hK1 hP 0 rfl rfl 8 (by decide) (hts (.fieldLink RX5 22 "KnowledgeModelModel" "seconds" "[I") (List.mem_of_getElem? (i := 5) rfl)) (fun _ h9 => h9) rfl dX5_truth_40 ?_
      refine lv_iload_n hx hb dX5_truth_43 rfl (lv_at hl 5 rfl) ?_
      refine xiald (j := f) (q0 := 5) (t0 := 0) hx hb hK1 hP rfl rfl (by omega) (by decide) dX5_truth_44 ?_
      refine xtop (y := (nI (p1 f))) (by exact (hag 5 f (by decide)).trans hB1) ?_
      refine lv_istore (lv' := [(6, .int (nI (p1 f))), (5, .int (M0 4 f)), (4, .int mo), (3, .int (nI ((40 * lv) + f))), (0, .ref (b 0)), (1, .int (nI lv)), (2, .int (nI f))]) hx hb dX5_truth_45 hl (by decide) rfl (fun ls hl => ?_)
      refine lv_iconst (v := (nI 0)) hx hb dX5_truth_47 (by decide) ?_
      refine lv_istore (lv' := [(7, .int (nI 0)), (6, .int (nI (p1 f))), (5, .int (M0 4 f)), (4, .int mo), (3, .int (nI ((40 * lv) + f))), (0, .ref (b 0)), (1, .int (nI lv)), (2, .int (nI f))]) hx hb dX5_truth_48 hl (by decide) rfl (fun ls hl => ?_)
      refine lv_aload_n hx hb dX5_truth_50 rfl (lv_at hl 5 rfl) ?_
      refine va_get (D := D) (ci := 5) (v := .ref (b 3)) (C := RX5) (T := TX5) (N := 15) hx hb hts hinX5 hown hK1 hP 0 rfl rfl 6 (by decide) (hts (.fieldLink RX5 16 "KnowledgeModelModel" "kinds" "[I") (List.mem_of_getElem? (i := 6) rfl)) (fun _ h9 => h9) rfl dX5_truth_51 ?_
      refine lv_iload_n hx hb dX5_truth_54 rfl (lv_at hl 7 rfl) ?_
      refine xiald (j := f) (q0 := 3) (t0 := 0) hx hb hK1 hP rfl rfl (by omega) (by decide) dX5_truth_55 ?_
      refine xtop (y := (nI 1)) (by exact ((hag 3 f (by decide)).trans hk3).trans (congrArg nI hkd)) ?_
      refine lv_iconst (v := (nI 2)) hx hb dX5_truth_56 (by decide) ?_
      refine lv_icmp_ne (tgt := 80) hx hb dX5_truth_57 (by decide) (fun c57 => ?_) (fun c57 => ?_)
      ·
        replace c57 : ¬ 1 = 2 := k_net c57 (by omega) (by omega)
        refine lv_aload_n hx hb dX5_truth_80 rfl (lv_at hl 5 rfl) ?_
        refine va_get (D := D) (ci := 5) (v := .ref (b 3)) (C := RX5) (T := TX5) (N := 15) hx hb hts hinX5 hown hK1 hP 0 rfl rfl 6 (by decide) (hts (.fieldLink RX5 16 "KnowledgeModelModel" "kinds" "[I") (List.mem_of_getElem? (i := 6) rfl)) (fun _ h9 => h9) rfl dX5_truth_81 ?_
        refine lv_iload_n hx hb dX5_truth_84 rfl (lv_at hl 7 rfl) ?_
        refine xiald (j := f) (q0 := 3) (t0 := 0) hx hb hK1 hP rfl rfl (by omega) (by decide) dX5_truth_85 ?_
        refine xtop (y := (nI 1)) (by exact ((hag 3 f (by decide)).trans hk3).trans (congrArg nI hkd)) ?_
        refine lv_iconst (v := (nI 1)) hx hb dX5_truth_86 (by decide) ?_
        refine lv_icmp_ne (tgt := 107) hx hb dX5_truth_87 (by decide) (fun c87 => ?_) (fun c87 => ?_)
        ·
          replace c87 : ¬ 1 = 1 := k_net c87 (by omega) (by omega)
          exfalso; omega
        ·
          replace c87 : 1 = 1 := k_nef c87 (by omega) (by omega)
          refine lv_iload hx hb dX5_truth_90 (lv_at hl 3 rfl) ?_
          refine lv_aload_n hx hb dX5_truth_92 rfl (lv_at hl 5 rfl) ?_
          refine lv_iload_n hx hb dX5_truth_93 rfl (lv_at hl 6 rfl) ?_
          refine lv_iload hx hb dX5_truth_94 (lv_at hl 1 rfl) ?_
          refine xcallwi (va_runV (As := [.int (nI lv), .int (nI (p1 f))]) (rest := [.int mo]) ⟨hx, hb, hml, hown, hts⟩ (ih (p1 f) (by omega) M _ lv mo hag hlv (by omega) (by omega) hti) (cwV 2 hts gX5_truth_X5_truth rfl rfl rfl (by decide +kernel) ⟨by dsimp only; omega, by dsimp only; omega⟩) (xpreVs hP hK (ci := 5) 0 rfl rfl) rfl rfl hl.1 rfl (lv_room (Nat.le_of_ble_eq_true rfl)) dX5_truth_96 ⟨Nat.le_of_ble_eq_true rfl, Nat.le_of_ble_eq_true rfl⟩) hS (kAle hS.1) (fun u_13 H locs hu_13 hP _ _ hS => ?_)
          have hP : va_P D vwCl (rc cs b u_13) H := hP
          have hk_14 : u_13 0 1 = nI n := by rw [hu_13.1 0 1 (by decide)]; exact hn
          have hk_15 : u_13 0 3 = nI nf := by rw [hu_13.1 0 3 (by decide)]; exact hfc
          refine lv_iconst (v := (-1 : Int32)) hx hb dX5_truth_99 (by decide) ?_
          refine lv_ixor hx hb dX5_truth_100 ?_
          refine lv_iand hx hb dX5_truth_101 ?_
          refine lv_istore (lv' := [(7, .int (mo &&& ((semR M0 n kd p1 p2 sb ag mo (p1 f)) ^^^ (-1 : Int32)))), (6, .int (nI (p1 f))), (5, .int (M0 4 f)), (4, .int mo), (3, .int (nI ((40 * lv) + f))), (0, .ref (b 0)), (1, .int (nI lv)), (2, .int (nI f))]) hx hb dX5_truth_102 hl (by decide) rfl (fun ls hl => ?_)
          refine lv_goto (tgt := 342) hx hb dX5_truth_104 (by decide) ?_
          have hval : (mo &&& ((semR M0 n kd p1 p2 sb ag mo (p1 f)) ^^^ (-1 : Int32))) = semR M0 n kd p1 p2 sb ag mo f := by rw [semR_eq hwp hf]; simp only [askR, hkd, if_true, if_false, show (1 : Nat) ≠ 0 by decide, show (2 : Nat) ≠ 0 by decide, show (2 : Nat) ≠ 1 by decide, show (3 : Nat) ≠ 0 by decide, show (3 : Nat) ≠ 1 by decide, show (3 : Nat) ≠ 2 by decide, show (3 : Nat) ≠ 6 by decide, show (4 : Nat) ≠ 0 by decide, show (4 : Nat) ≠ 1 by decide, show (4 : Nat) ≠ 2 by decide, show (4 : Nat) ≠ 3 by decide, show (4 : Nat) ≠ 6 by decide, show (5 : Nat) ≠ 0 by decide, show (5 : Nat) ≠ 1 by decide, show (5 : Nat) ≠ 2 by decide, show (5 : Nat) ≠ 3 by decide, show (5 : Nat) ≠ 4 by decide, show (5 : Nat) ≠ 6 by decide, show (6 : Nat) ≠ 0 by decide, show (6 : Nat) ≠ 1 by decide, show (6 : Nat) ≠ 2 by decide]
          refine lv_aload_n hx hb dX5_truth_342 rfl (lv_at hl 5 rfl) ?_
          refine va_get (D := D) (ci := 5) (v := .ref (b 10)) (C := RX5) (T := TX5) (N := 15) hx hb hts hinX5 hown hK1 hP 0 rfl rfl 13 (by decide) (hts (.fieldLink RX5 38 "KnowledgeModelModel" "truths" "[I") (List.mem_of_getElem? (i := 2) rfl)) (fun _ h9 => h9) rfl dX5_truth_343 ?_
          refine lv_iload_n hx hb dX5_truth_346 rfl (lv_at hl 4 rfl) ?_
          refine lv_iload hx hb dX5_truth_347 (lv_at hl 0 rfl) ?_
          refine lv_topi (fun x_16 hx_16 => ?_)
          refine xiast (j := (40 * lv) + f) (q0 := 10) (t0 := 0) (ws' := rc cs b (wr u_13 10 ((40 * lv) + f) x_16)) hx hb hK1 hP (rD hI) hS rfl rfl (by omega) (by decide) rs_10 dX5_truth_349 (fun H locs hP hS => ?_)
          obtain ⟨M_17, hM_17⟩ : ∃ z, z = wr u_13 10 ((40 * lv) + f) x_16 := ⟨_, rfl⟩
          rw [← hM_17] at hP
          have hk_18 : M_17 0 1 = nI n := by rw [hM_17]; exact (wr_ne (Or.inl (by omega))).trans hk_14
          have hk_19 : M_17 0 3 = nI nf := by rw [hM_17]; exact (wr_ne (Or.inl (by omega))).trans hk_15
          refine lv_aload_n hx hb dX5_truth_350 rfl (lv_at hl 5 rfl) ?_
          refine va_get (D := D) (ci := 5) (v := .ref (b 9)) (C := RX5) (T := TX5) (N := 15) hx hb hts hinX5 hown hK1 hP 0 rfl rfl 12 (by decide) (hts (.fieldLink RX5 34 "KnowledgeModelModel" "areKnown" "[Z") (List.mem_of_getElem? (i := 1) rfl)) (fun _ h9 => h9) rfl dX5_truth_351 ?_
          refine lv_iload_n hx hb dX5_truth_354 rfl (lv_at hl 4 rfl) ?_
          refine lv_iconst (v := (nI 1)) hx hb dX5_truth_355 (by decide) ?_
          refine xzast (j := (40 * lv) + f) (q0 := 9) (t0 := 3) (ws' := rc cs b (wr M_17 9 ((40 * lv) + f) (nI 1))) hx hb hK1 hP (rD hI) hS rfl rfl (by omega) (by decide) (by decide) rs_9 dX5_truth_356 (fun H locs hP hS => ?_)
          obtain ⟨M_20, hM_20⟩ : ∃ z, z = wr M_17 9 ((40 * lv) + f) (nI 1) := ⟨_, rfl⟩
          rw [← hM_20] at hP
          have hk_21 : M_20 0 1 = nI n := by rw [hM_20]; exact (wr_ne (Or.inl (by omega))).trans hk_18
          have hk_22 : M_20 0 3 = nI nf := by rw [hM_20]; exact (wr_ne (Or.inl (by omega))).trans hk_19
          refine lv_iload hx hb dX5_truth_357 (lv_at hl 0 rfl) ?_
          subst hQ
          have hrel : TR M0 M n nf kd p1 p2 sb ag lv mo M_20 := by first | exact TR_r hti | (simp only [fo_0, c13, c57, c87, hx_16, hM_17, hM_20]; exact TR_w (TR_r hti) hf hval) | (simp only [fo_0, c13, c57, c87, hx_16, hM_17, hM_20]; exact TR_w hu_13 hf hval) | (simp only [fo_0, c13, c57, c87, hx_16, hM_17, hM_20]; exact TR_w (TR_t hu_13 hu_13) hf hval) | (simp only [fo_0, c13, c57, c87, hx_16, hM_17, hM_20]; exact TR_w (TR_b hu_13 hf40 (by simpa only [fo_0, c13, c57, c87, hx_16, hM_17, hM_20] using hu_13)) hf hval)
          have hfin : (mo &&& ((semR M0 n kd p1 p2 sb ag mo (p1 f)) ^^^ (-1 : Int32))) = semR M0 n kd p1 p2 sb ag mo f := by first | exact hval | rfl
          exact W.iret hx hb hr (fun t ht hW => ⟨⟨_, M_20, rfl, ⟨hfin, hrel⟩, by rw [← ht] at hP; exact hP⟩, hS.F ht⟩) hS.2.2 dX5_truth_359
      ·
        replace c57 : 1 = 2 := k_nef c57 (by omega) (by omega)
        exfalso; omega
    ·
      refine lv_aload_n hx hb dX5_truth_16 rfl (lv_at hl 1 rfl) ?_
      refine va_get (D := D) (ci := 5) (v := .ref (b 10)) (C := RX5) (T := TX5) (N := 15) hx hb hts hinX5 hown hK1 hP 0 rfl rfl 13 (by decide) (hts (.fieldLink RX5 38 "KnowledgeModelModel" "truths" "[I") (List.mem_of_getElem? (i := 2) rfl)) (fun _ h9 => h9) rfl dX5_truth_17 ?_
      refine lv_iload_n hx hb dX5_truth_20 rfl (lv_at hl 0 rfl) ?_
      refine xiald (j := (40 * lv) + f) (q0 := 10) (t0 := 0) hx hb hK1 hP rfl rfl (by omega) (by decide) dX5_truth_21 ?_
      refine xtop (y := (semR M0 n kd p1 p2 sb ag mo f)) (by exact ((hti.2 f hf).resolve_left c13).2) ?_
      subst hQ
      have hrel : TR M0 M n nf kd p1 p2 sb ag lv mo M := by first | exact TR_r hti | (simp only [fo_0, c13]; exact TR_w (TR_r hti) hf hval) | (simp only [fo_0, c13]; exact TR_w trivial hf hval) | (simp only [fo_0, c13]; exact TR_w (TR_t trivial trivial) hf hval) | (simp only [fo_0, c13]; exact TR_w (TR_b trivial hf40 (by simpa only [fo_0, c13] using trivial)) hf hval)
      have hfin : (semR M0 n kd p1 p2 sb ag mo f) = semR M0 n kd p1 p2 sb ag mo f := by first | exact hval | rfl
      exact W.iret hx hb hr (fun t ht hW => ⟨⟨_, M, rfl, ⟨hfin, hrel⟩, by rw [← ht] at hP; exact hP⟩, hS.F ht⟩) hS.2.2 dX5_truth_22
  ·
    have hq1 := hL.1 (by omega)
    have hz1 := hE1 (by omega)
    obtain ⟨hC1, hC2⟩ := hC (by omega)
    have hq2 := hL.2 (by omega)
    have hz2 := hE2 hkd
    refine lv_bipush (v := (nI 40)) hx hb dX5_truth_0 (by decide) ?_
    refine lv_iload_n hx hb dX5_truth_2 rfl (lv_at hl 1 rfl) ?_
    refine ximul hx hb dX5_truth_3 ?_
    refine lv_iload_n hx hb dX5_truth_4 rfl (lv_at hl 2 rfl) ?_
    refine xiadd hx hb dX5_truth_5 ?_
    refine lv_istore_n (lv' := [(3, .int (nI ((40 * lv) + f))), (0, .ref (b 0)), (1, .int (nI lv)), (2, .int (nI f))]) hx hb dX5_truth_6 rfl hl (by decide) rfl (fun ls hl => ?_)
    refine lv_aload_n hx hb dX5_truth_7 rfl (lv_at hl 1 rfl) ?_
    refine va_get (D := D) (ci := 5) (v := .ref (b 9)) (C := RX5) (T := TX5) (N := 15) hx hb hts hinX5 hown hK1 hP 0 rfl rfl 12 (by decide) (hts (.fieldLink RX5 34 "KnowledgeModelModel" "areKnown" "[Z") (List.mem_of_getElem? (i := 1) rfl)) (fun _ h9 => h9) rfl dX5_truth_8 ?_
    refine lv_iload_n hx hb dX5_truth_11 rfl (lv_at hl 0 rfl) ?_
    refine xzald (j := (40 * lv) + f) (q0 := 9) (t0 := 3) hx hb hK1 hP rfl rfl (by omega) (by decide) dX5_truth_12 ?_
    refine lv_if_eq (tgt := 23) hx hb dX5_truth_13 (by decide) (fun c13 => ?_) (fun c13 => ?_)
    ·
      refine lv_aload_n hx hb dX5_truth_23 rfl (lv_at hl 1 rfl) ?_
      refine va_get (D := D) (ci := 5) (v := .ref (b 8)) (C := RX5) (T := TX5) (N := 15) hx hb hts hinX5 hown hK1 hP 0 rfl rfl 11 (by decide) (hts (.fieldLink RX5 31 "KnowledgeModelModel" "lefts" "[I") (List.mem_of_getElem? (i := 3) rfl)) (fun _ h9 => h9) rfl dX5_truth_24 ?_
      refine lv_iload_n hx hb dX5_truth_27 rfl (lv_at hl 2 rfl) ?_
      refine xiald (j := lv) (q0 := 8) (t0 := 0) hx hb hK1 hP rfl rfl (by omega) (by decide) dX5_truth_28 ?_
      refine xtop (y := mo) (by exact hti.1) ?_
      refine lv_istore (lv' := [(4, .int mo), (3, .int (nI ((40 * lv) + f))), (0, .ref (b 0)), (1, .int (nI lv)), (2, .int (nI f))]) hx hb dX5_truth_29 hl (by decide) rfl (fun ls hl => ?_)
      refine lv_aload_n hx hb dX5_truth_31 rfl (lv_at hl 2 rfl) ?_
      refine va_get (D := D) (ci := 5) (v := .ref (b 4)) (C := RX5) (T := TX5) (N := 15) hx hb hts hinX5 hown hK1 hP 0 rfl rfl 7 (by decide) (hts (.fieldLink RX5 19 "KnowledgeModelModel" "firsts" "[I") (List.mem_of_getElem? (i := 4) rfl)) (fun _ h9 => h9) rfl dX5_truth_32 ?_
      refine lv_iload_n hx hb dX5_truth_35 rfl (lv_at hl 4 rfl) ?_
      refine xiald (j := f) (q0 := 4) (t0 := 0) hx hb hK1 hP rfl rfl (by omega) (by decide) dX5_truth_36 ?_
      refine xtop (y := (nI (p1 f))) (by exact (hag 4 f (by decide)).trans hC1) ?_
      refine lv_istore (lv' := [(5, .int (nI (p1 f))), (4, .int mo), (3, .int (nI ((40 * lv) + f))), (0, .ref (b 0)), (1, .int (nI lv)), (2, .int (nI f))]) hx hb dX5_truth_37 hl (by decide) rfl (fun ls hl => ?_)
      refine lv_aload_n hx hb dX5_truth_39 rfl (lv_at hl 3 rfl) ?_
      refine va_get (D := D) (ci := 5) (v := .ref (b 5)) (C := RX5) (T := TX5) (N := 15) hx hb hts hinX5 hown hK1 hP 0 rfl rfl 8 (by decide) (hts (.fieldLink RX5 22 "KnowledgeModelModel" "seconds" "[I") (List.mem_of_getElem? (i := 5) rfl)) (fun _ h9 => h9) rfl dX5_truth_40 ?_
      refine lv_iload_n hx hb dX5_truth_43 rfl (lv_at hl 5 rfl) ?_
      refine xiald (j := f) (q0 := 5) (t0 := 0) hx hb hK1 hP rfl rfl (by omega) (by decide) dX5_truth_44 ?_
      refine xtop (y := (nI (p2 f))) (by exact (hag 5 f (by decide)).trans hC2) ?_
      refine lv_istore (lv' := [(6, .int (nI (p2 f))), (5, .int (nI (p1 f))), (4, .int mo), (3, .int (nI ((40 * lv) + f))), (0, .ref (b 0)), (1, .int (nI lv)), (2, .int (nI f))]) hx hb dX5_truth_45 hl (by decide) rfl (fun ls hl => ?_)
      refine lv_iconst (v := (nI 0)) hx hb dX5_truth_47 (by decide) ?_
      refine lv_istore (lv' := [(7, .int (nI 0)), (6, .int (nI (p2 f))), (5, .int (nI (p1 f))), (4, .int mo), (3, .int (nI ((40 * lv) + f))), (0, .ref (b 0)), (1, .int (nI lv)), (2, .int (nI f))]) hx hb dX5_truth_48 hl (by decide) rfl (fun ls hl => ?_)
      refine lv_aload_n hx hb dX5_truth_50 rfl (lv_at hl 5 rfl) ?_
      refine va_get (D := D) (ci := 5) (v := .ref (b 3)) (C := RX5) (T := TX5) (N := 15) hx hb hts hinX5 hown hK1 hP 0 rfl rfl 6 (by decide) (hts (.fieldLink RX5 16 "KnowledgeModelModel" "kinds" "[I") (List.mem_of_getElem? (i := 6) rfl)) (fun _ h9 => h9) rfl dX5_truth_51 ?_
      refine lv_iload_n hx hb dX5_truth_54 rfl (lv_at hl 7 rfl) ?_
      refine xiald (j := f) (q0 := 3) (t0 := 0) hx hb hK1 hP rfl rfl (by omega) (by decide) dX5_truth_55 ?_
      refine xtop (y := (nI 2)) (by exact ((hag 3 f (by decide)).trans hk3).trans (congrArg nI hkd)) ?_
      refine lv_iconst (v := (nI 2)) hx hb dX5_truth_56 (by decide) ?_
      refine lv_icmp_ne (tgt := 80) hx hb dX5_truth_57 (by decide) (fun c57 => ?_) (fun c57 => ?_)
      ·
        replace c57 : ¬ 2 = 2 := k_net c57 (by omega) (by omega)
        exfalso; omega
      ·
        replace c57 : 2 = 2 := k_nef c57 (by omega) (by omega)
        refine lv_aload_n hx hb dX5_truth_60 rfl (lv_at hl 5 rfl) ?_
        refine lv_iload_n hx hb dX5_truth_61 rfl (lv_at hl 6 rfl) ?_
        refine lv_iload hx hb dX5_truth_62 (lv_at hl 2 rfl) ?_
        refine xcallwi (va_runV (As := [.int (nI lv), .int (nI (p1 f))]) (rest := []) ⟨hx, hb, hml, hown, hts⟩ (ih (p1 f) (by omega) M _ lv mo hag hlv (by omega) (by omega) hti) (cwV 2 hts gX5_truth_X5_truth rfl rfl rfl (by decide +kernel) ⟨by dsimp only; omega, by dsimp only; omega⟩) (xpreVs hP hK (ci := 5) 0 rfl rfl) rfl rfl hl.1 rfl (lv_room (Nat.le_of_ble_eq_true rfl)) dX5_truth_64 ⟨Nat.le_of_ble_eq_true rfl, Nat.le_of_ble_eq_true rfl⟩) hS (kAle hS.1) (fun u_23 H locs hu_23 hP _ _ hS => ?_)
        have hP : va_P D vwCl (rc cs b u_23) H := hP
        have hk_24 : u_23 0 1 = nI n := by rw [hu_23.1 0 1 (by decide)]; exact hn
        have hk_25 : u_23 0 3 = nI nf := by rw [hu_23.1 0 3 (by decide)]; exact hfc
        refine lv_aload_n hx hb dX5_truth_67 rfl (lv_at hl 5 rfl) ?_
        refine lv_iload_n hx hb dX5_truth_68 rfl (lv_at hl 6 rfl) ?_
        refine lv_iload hx hb dX5_truth_69 (lv_at hl 1 rfl) ?_
        refine xcallwi (va_runV (As := [.int (nI lv), .int (nI (p2 f))]) (rest := [.int (semR M0 n kd p1 p2 sb ag mo (p1 f))]) ⟨hx, hb, hml, hown, hts⟩ (ih (p2 f) (by omega) u_23 _ lv mo (Ag8_t hag hu_23) hlv (by omega) (by omega) hu_23.2.1) (cwV 2 hts gX5_truth_X5_truth rfl rfl rfl (by decide +kernel) ⟨by dsimp only; omega, by dsimp only; omega⟩) (xpreVs hP hK (ci := 5) 0 rfl rfl) rfl rfl hl.1 rfl (lv_room (Nat.le_of_ble_eq_true rfl)) dX5_truth_71 ⟨Nat.le_of_ble_eq_true rfl, Nat.le_of_ble_eq_true rfl⟩) hS (kAle hS.1) (fun u_26 H locs hu_26 hP _ _ hS => ?_)
        have hP : va_P D vwCl (rc cs b u_26) H := hP
        have hk_27 : u_26 0 1 = nI n := by rw [hu_26.1 0 1 (by decide)]; exact hk_24
        have hk_28 : u_26 0 3 = nI nf := by rw [hu_26.1 0 3 (by decide)]; exact hk_25
        refine lv_iand hx hb dX5_truth_74 ?_
        refine lv_istore (lv' := [(7, .int ((semR M0 n kd p1 p2 sb ag mo (p1 f)) &&& (semR M0 n kd p1 p2 sb ag mo (p2 f)))), (6, .int (nI (p2 f))), (5, .int (nI (p1 f))), (4, .int mo), (3, .int (nI ((40 * lv) + f))), (0, .ref (b 0)), (1, .int (nI lv)), (2, .int (nI f))]) hx hb dX5_truth_75 hl (by decide) rfl (fun ls hl => ?_)
        refine lv_goto (tgt := 342) hx hb dX5_truth_77 (by decide) ?_
        have hval : ((semR M0 n kd p1 p2 sb ag mo (p1 f)) &&& (semR M0 n kd p1 p2 sb ag mo (p2 f))) = semR M0 n kd p1 p2 sb ag mo f := by rw [semR_eq hwp hf]; simp only [askR, hkd, if_true, if_false, show (1 : Nat) ≠ 0 by decide, show (2 : Nat) ≠ 0 by decide, show (2 : Nat) ≠ 1 by decide, show (3 : Nat) ≠ 0 by decide, show (3 : Nat) ≠ 1 by decide, show (3 : Nat) ≠ 2 by decide, show (3 : Nat) ≠ 6 by decide, show (4 : Nat) ≠ 0 by decide, show (4 : Nat) ≠ 1 by decide, show (4 : Nat) ≠ 2 by decide, show (4 : Nat) ≠ 3 by decide, show (4 : Nat) ≠ 6 by decide, show (5 : Nat) ≠ 0 by decide, show (5 : Nat) ≠ 1 by decide, show (5 : Nat) ≠ 2 by decide, show (5 : Nat) ≠ 3 by decide, show (5 : Nat) ≠ 4 by decide, show (5 : Nat) ≠ 6 by decide, show (6 : Nat) ≠ 0 by decide, show (6 : Nat) ≠ 1 by decide, show (6 : Nat) ≠ 2 by decide]
        refine lv_aload_n hx hb dX5_truth_342 rfl (lv_at hl 5 rfl) ?_
        refine va_get (D := D) (ci := 5) (v := .ref (b 10)) (C := RX5) (T := TX5) (N := 15) hx hb hts hinX5 hown hK1 hP 0 rfl rfl 13 (by decide) (hts (.fieldLink RX5 38 "KnowledgeModelModel" "truths" "[I") (List.mem_of_getElem? (i := 2) rfl)) (fun _ h9 => h9) rfl dX5_truth_343 ?_
        refine lv_iload_n hx hb dX5_truth_346 rfl (lv_at hl 4 rfl) ?_
        refine lv_iload hx hb dX5_truth_347 (lv_at hl 0 rfl) ?_
        refine lv_topi (fun x_29 hx_29 => ?_)
        refine xiast (j := (40 * lv) + f) (q0 := 10) (t0 := 0) (ws' := rc cs b (wr u_26 10 ((40 * lv) + f) x_29)) hx hb hK1 hP (rD hI) hS rfl rfl (by omega) (by decide) rs_10 dX5_truth_349 (fun H locs hP hS => ?_)
        obtain ⟨M_30, hM_30⟩ : ∃ z, z = wr u_26 10 ((40 * lv) + f) x_29 := ⟨_, rfl⟩
        rw [← hM_30] at hP
        have hk_31 : M_30 0 1 = nI n := by rw [hM_30]; exact (wr_ne (Or.inl (by omega))).trans hk_27
        have hk_32 : M_30 0 3 = nI nf := by rw [hM_30]; exact (wr_ne (Or.inl (by omega))).trans hk_28
        refine lv_aload_n hx hb dX5_truth_350 rfl (lv_at hl 5 rfl) ?_
        refine va_get (D := D) (ci := 5) (v := .ref (b 9)) (C := RX5) (T := TX5) (N := 15) hx hb hts hinX5 hown hK1 hP 0 rfl rfl 12 (by decide) (hts (.fieldLink RX5 34 "KnowledgeModelModel" "areKnown" "[Z") (List.mem_of_getElem? (i := 1) rfl)) (fun _ h9 => h9) rfl dX5_truth_351 ?_
        refine lv_iload_n hx hb dX5_truth_354 rfl (lv_at hl 4 rfl) ?_
        refine lv_iconst (v := (nI 1)) hx hb dX5_truth_355 (by decide) ?_
        refine xzast (j := (40 * lv) + f) (q0 := 9) (t0 := 3) (ws' := rc cs b (wr M_30 9 ((40 * lv) + f) (nI 1))) hx hb hK1 hP (rD hI) hS rfl rfl (by omega) (by decide) (by decide) rs_9 dX5_truth_356 (fun H locs hP hS => ?_)
        obtain ⟨M_33, hM_33⟩ : ∃ z, z = wr M_30 9 ((40 * lv) + f) (nI 1) := ⟨_, rfl⟩
        rw [← hM_33] at hP
        have hk_34 : M_33 0 1 = nI n := by rw [hM_33]; exact (wr_ne (Or.inl (by omega))).trans hk_31
        have hk_35 : M_33 0 3 = nI nf := by rw [hM_33]; exact (wr_ne (Or.inl (by omega))).trans hk_32
        refine lv_iload hx hb dX5_truth_357 (lv_at hl 0 rfl) ?_
        subst hQ
        have hrel : TR M0 M n nf kd p1 p2 sb ag lv mo M_33 := by first | exact TR_r hti | (simp only [fo_0, c13, c57, hx_29, hM_30, hM_33]; exact TR_w (TR_r hti) hf hval) | (simp only [fo_0, c13, c57, hx_29, hM_30, hM_33]; exact TR_w hu_23 hf hval) | (simp only [fo_0, c13, c57, hx_29, hM_30, hM_33]; exact TR_w (TR_t hu_23 hu_26) hf hval) | (simp only [fo_0, c13, c57, hx_29, hM_30, hM_33]; exact TR_w (TR_b hu_23 hf40 (by simpa only [fo_0, c13, c57, hx_29, hM_30, hM_33] using hu_26)) hf hval)
        have hfin : ((semR M0 n kd p1 p2 sb ag mo (p1 f)) &&& (semR M0 n kd p1 p2 sb ag mo (p2 f))) = semR M0 n kd p1 p2 sb ag mo f := by first | exact hval | rfl
        exact W.iret hx hb hr (fun t ht hW => ⟨⟨_, M_33, rfl, ⟨hfin, hrel⟩, by rw [← ht] at hP; exact hP⟩, hS.F ht⟩) hS.2.2 dX5_truth_359
    ·
      refine lv_aload_n hx hb dX5_truth_16 rfl (lv_at hl 1 rfl) ?_
      refine va_get (D := D) (ci := 5) (v := .ref (b 10)) (C := RX5) (T := TX5) (N := 15) hx hb hts hinX5 hown hK1 hP 0 rfl rfl 13 (by decide) (hts (.fieldLink RX5 38 "KnowledgeModelModel" "truths" "[I") (List.mem_of_getElem? (i := 2) rfl)) (fun _ h9 => h9) rfl dX5_truth_17 ?_
      refine lv_iload_n hx hb dX5_truth_20 rfl (lv_at hl 0 rfl) ?_
      refine xiald (j := (40 * lv) + f) (q0 := 10) (t0 := 0) hx hb hK1 hP rfl rfl (by omega) (by decide) dX5_truth_21 ?_
      refine xtop (y := (semR M0 n kd p1 p2 sb ag mo f)) (by exact ((hti.2 f hf).resolve_left c13).2) ?_
      subst hQ
      have hrel : TR M0 M n nf kd p1 p2 sb ag lv mo M := by first | exact TR_r hti | (simp only [fo_0, c13]; exact TR_w (TR_r hti) hf hval) | (simp only [fo_0, c13]; exact TR_w trivial hf hval) | (simp only [fo_0, c13]; exact TR_w (TR_t trivial trivial) hf hval) | (simp only [fo_0, c13]; exact TR_w (TR_b trivial hf40 (by simpa only [fo_0, c13] using trivial)) hf hval)
      have hfin : (semR M0 n kd p1 p2 sb ag mo f) = semR M0 n kd p1 p2 sb ag mo f := by first | exact hval | rfl
      exact W.iret hx hb hr (fun t ht hW => ⟨⟨_, M, rfl, ⟨hfin, hrel⟩, by rw [← ht] at hP; exact hP⟩, hS.F ht⟩) hS.2.2 dX5_truth_22
  ·
    have hq1 := hL.1 (by omega)
    have hz1 := hE1 (by omega)
    have hB1 := hB (by omega)
    obtain ⟨hG1, hG2⟩ := hG hkd
    refine lv_bipush (v := (nI 40)) hx hb dX5_truth_0 (by decide) ?_
    refine lv_iload_n hx hb dX5_truth_2 rfl (lv_at hl 1 rfl) ?_
    refine ximul hx hb dX5_truth_3 ?_
    refine lv_iload_n hx hb dX5_truth_4 rfl (lv_at hl 2 rfl) ?_
    refine xiadd hx hb dX5_truth_5 ?_
    refine lv_istore_n (lv' := [(3, .int (nI ((40 * lv) + f))), (0, .ref (b 0)), (1, .int (nI lv)), (2, .int (nI f))]) hx hb dX5_truth_6 rfl hl (by decide) rfl (fun ls hl => ?_)
    refine lv_aload_n hx hb dX5_truth_7 rfl (lv_at hl 1 rfl) ?_
    refine va_get (D := D) (ci := 5) (v := .ref (b 9)) (C := RX5) (T := TX5) (N := 15) hx hb hts hinX5 hown hK1 hP 0 rfl rfl 12 (by decide) (hts (.fieldLink RX5 34 "KnowledgeModelModel" "areKnown" "[Z") (List.mem_of_getElem? (i := 1) rfl)) (fun _ h9 => h9) rfl dX5_truth_8 ?_
    refine lv_iload_n hx hb dX5_truth_11 rfl (lv_at hl 0 rfl) ?_
    refine xzald (j := (40 * lv) + f) (q0 := 9) (t0 := 3) hx hb hK1 hP rfl rfl (by omega) (by decide) dX5_truth_12 ?_
    refine lv_if_eq (tgt := 23) hx hb dX5_truth_13 (by decide) (fun c13 => ?_) (fun c13 => ?_)
    ·
      refine lv_aload_n hx hb dX5_truth_23 rfl (lv_at hl 1 rfl) ?_
      refine va_get (D := D) (ci := 5) (v := .ref (b 8)) (C := RX5) (T := TX5) (N := 15) hx hb hts hinX5 hown hK1 hP 0 rfl rfl 11 (by decide) (hts (.fieldLink RX5 31 "KnowledgeModelModel" "lefts" "[I") (List.mem_of_getElem? (i := 3) rfl)) (fun _ h9 => h9) rfl dX5_truth_24 ?_
      refine lv_iload_n hx hb dX5_truth_27 rfl (lv_at hl 2 rfl) ?_
      refine xiald (j := lv) (q0 := 8) (t0 := 0) hx hb hK1 hP rfl rfl (by omega) (by decide) dX5_truth_28 ?_
      refine xtop (y := mo) (by exact hti.1) ?_
      refine lv_istore (lv' := [(4, .int mo), (3, .int (nI ((40 * lv) + f))), (0, .ref (b 0)), (1, .int (nI lv)), (2, .int (nI f))]) hx hb dX5_truth_29 hl (by decide) rfl (fun ls hl => ?_)
      refine lv_aload_n hx hb dX5_truth_31 rfl (lv_at hl 2 rfl) ?_
      refine va_get (D := D) (ci := 5) (v := .ref (b 4)) (C := RX5) (T := TX5) (N := 15) hx hb hts hinX5 hown hK1 hP 0 rfl rfl 7 (by decide) (hts (.fieldLink RX5 19 "KnowledgeModelModel" "firsts" "[I") (List.mem_of_getElem? (i := 4) rfl)) (fun _ h9 => h9) rfl dX5_truth_32 ?_
      refine lv_iload_n hx hb dX5_truth_35 rfl (lv_at hl 4 rfl) ?_
      refine xiald (j := f) (q0 := 4) (t0 := 0) hx hb hK1 hP rfl rfl (by omega) (by decide) dX5_truth_36 ?_
      refine xtop (y := (nI (ag f))) (by exact (hag 4 f (by decide)).trans hG1) ?_
      refine lv_istore (lv' := [(5, .int (nI (ag f))), (4, .int mo), (3, .int (nI ((40 * lv) + f))), (0, .ref (b 0)), (1, .int (nI lv)), (2, .int (nI f))]) hx hb dX5_truth_37 hl (by decide) rfl (fun ls hl => ?_)
      refine lv_aload_n hx hb dX5_truth_39 rfl (lv_at hl 3 rfl) ?_
      refine va_get (D := D) (ci := 5) (v := .ref (b 5)) (C := RX5) (T := TX5) (N := 15) hx hb hts hinX5 hown hK1 hP 0 rfl rfl 8 (by decide) (hts (.fieldLink RX5 22 "KnowledgeModelModel" "seconds" "[I") (List.mem_of_getElem? (i := 5) rfl)) (fun _ h9 => h9) rfl dX5_truth_40 ?_
      refine lv_iload_n hx hb dX5_truth_43 rfl (lv_at hl 5 rfl) ?_
      refine xiald (j := f) (q0 := 5) (t0 := 0) hx hb hK1 hP rfl rfl (by omega) (by decide) dX5_truth_44 ?_
      refine xtop (y := (nI (p1 f))) (by exact (hag 5 f (by decide)).trans hB1) ?_
      refine lv_istore (lv' := [(6, .int (nI (p1 f))), (5, .int (nI (ag f))), (4, .int mo), (3, .int (nI ((40 * lv) + f))), (0, .ref (b 0)), (1, .int (nI lv)), (2, .int (nI f))]) hx hb dX5_truth_45 hl (by decide) rfl (fun ls hl => ?_)
      refine lv_iconst (v := (nI 0)) hx hb dX5_truth_47 (by decide) ?_
      refine lv_istore (lv' := [(7, .int (nI 0)), (6, .int (nI (p1 f))), (5, .int (nI (ag f))), (4, .int mo), (3, .int (nI ((40 * lv) + f))), (0, .ref (b 0)), (1, .int (nI lv)), (2, .int (nI f))]) hx hb dX5_truth_48 hl (by decide) rfl (fun ls hl => ?_)
      refine lv_aload_n hx hb dX5_truth_50 rfl (lv_at hl 5 rfl) ?_
      refine va_get (D := D) (ci := 5) (v := .ref (b 3)) (C := RX5) (T := TX5) (N := 15) hx hb hts hinX5 hown hK1 hP 0 rfl rfl 6 (by decide) (hts (.fieldLink RX5 16 "KnowledgeModelModel" "kinds" "[I") (List.mem_of_getElem? (i := 6) rfl)) (fun _ h9 => h9) rfl dX5_truth_51 ?_
      refine lv_iload_n hx hb dX5_truth_54 rfl (lv_at hl 7 rfl) ?_
      refine xiald (j := f) (q0 := 3) (t0 := 0) hx hb hK1 hP rfl rfl (by omega) (by decide) dX5_truth_55 ?_
      refine xtop (y := (nI 3)) (by exact ((hag 3 f (by decide)).trans hk3).trans (congrArg nI hkd)) ?_
      refine lv_iconst (v := (nI 2)) hx hb dX5_truth_56 (by decide) ?_
      refine lv_icmp_ne (tgt := 80) hx hb dX5_truth_57 (by decide) (fun c57 => ?_) (fun c57 => ?_)
      ·
        replace c57 : ¬ 3 = 2 := k_net c57 (by omega) (by omega)
        refine lv_aload_n hx hb dX5_truth_80 rfl (lv_at hl 5 rfl) ?_
        refine va_get (D := D) (ci := 5) (v := .ref (b 3)) (C := RX5) (T := TX5) (N := 15) hx hb hts hinX5 hown hK1 hP 0 rfl rfl 6 (by decide) (hts (.fieldLink RX5 16 "KnowledgeModelModel" "kinds" "[I") (List.mem_of_getElem? (i := 6) rfl)) (fun _ h9 => h9) rfl dX5_truth_81 ?_
        refine lv_iload_n hx hb dX5_truth_84 rfl (lv_at hl 7 rfl) ?_
        refine xiald (j := f) (q0 := 3) (t0 := 0) hx hb hK1 hP rfl rfl (by omega) (by decide) dX5_truth_85 ?_
        refine xtop (y := (nI 3)) (by exact ((hag 3 f (by decide)).trans hk3).trans (congrArg nI hkd)) ?_
        refine lv_iconst (v := (nI 1)) hx hb dX5_truth_86 (by decide) ?_
        refine lv_icmp_ne (tgt := 107) hx hb dX5_truth_87 (by decide) (fun c87 => ?_) (fun c87 => ?_)
        ·
          replace c87 : ¬ 3 = 1 := k_net c87 (by omega) (by omega)
          refine lv_aload_n hx hb dX5_truth_107 rfl (lv_at hl 5 rfl) ?_
          refine va_get (D := D) (ci := 5) (v := .ref (b 3)) (C := RX5) (T := TX5) (N := 15) hx hb hts hinX5 hown hK1 hP 0 rfl rfl 6 (by decide) (hts (.fieldLink RX5 16 "KnowledgeModelModel" "kinds" "[I") (List.mem_of_getElem? (i := 6) rfl)) (fun _ h9 => h9) rfl dX5_truth_108 ?_
          refine lv_iload_n hx hb dX5_truth_111 rfl (lv_at hl 7 rfl) ?_
          refine xiald (j := f) (q0 := 3) (t0 := 0) hx hb hK1 hP rfl rfl (by omega) (by decide) dX5_truth_112 ?_
          refine xtop (y := (nI 3)) (by exact ((hag 3 f (by decide)).trans hk3).trans (congrArg nI hkd)) ?_
          refine lv_bipush (v := (nI 6)) hx hb dX5_truth_113 (by decide) ?_
          refine lv_icmp_ne (tgt := 158) hx hb dX5_truth_115 (by decide) (fun c115 => ?_) (fun c115 => ?_)
          ·
            replace c115 : ¬ 3 = 6 := k_net c115 (by omega) (by omega)
            refine lv_aload_n hx hb dX5_truth_158 rfl (lv_at hl 5 rfl) ?_
            refine va_get (D := D) (ci := 5) (v := .ref (b 3)) (C := RX5) (T := TX5) (N := 15) hx hb hts hinX5 hown hK1 hP 0 rfl rfl 6 (by decide) (hts (.fieldLink RX5 16 "KnowledgeModelModel" "kinds" "[I") (List.mem_of_getElem? (i := 6) rfl)) (fun _ h9 => h9) rfl dX5_truth_159 ?_
            refine lv_iload_n hx hb dX5_truth_162 rfl (lv_at hl 7 rfl) ?_
            refine xiald (j := f) (q0 := 3) (t0 := 0) hx hb hK1 hP rfl rfl (by omega) (by decide) dX5_truth_163 ?_
            refine xtop (y := (nI 3)) (by exact ((hag 3 f (by decide)).trans hk3).trans (congrArg nI hkd)) ?_
            refine lv_if_ne (tgt := 171) hx hb dX5_truth_164 (by decide) (fun c164 => ?_) (fun c164 => ?_)
            ·
              replace c164 : ¬ 3 = 0 := k0_net c164 (by omega)
              refine lv_aload_n hx hb dX5_truth_171 rfl (lv_at hl 5 rfl) ?_
              refine lv_iload_n hx hb dX5_truth_172 rfl (lv_at hl 6 rfl) ?_
              refine lv_iload hx hb dX5_truth_173 (lv_at hl 1 rfl) ?_
              refine xcallwi (va_runV (As := [.int (nI lv), .int (nI (p1 f))]) (rest := []) ⟨hx, hb, hml, hown, hts⟩ (ih (p1 f) (by omega) M _ lv mo hag hlv (by omega) (by omega) hti) (cwV 2 hts gX5_truth_X5_truth rfl rfl rfl (by decide +kernel) ⟨by dsimp only; omega, by dsimp only; omega⟩) (xpreVs hP hK (ci := 5) 0 rfl rfl) rfl rfl hl.1 rfl (lv_room (Nat.le_of_ble_eq_true rfl)) dX5_truth_175 ⟨Nat.le_of_ble_eq_true rfl, Nat.le_of_ble_eq_true rfl⟩) hS (kAle hS.1) (fun u_36 H locs hu_36 hP _ _ hS => ?_)
              have hP : va_P D vwCl (rc cs b u_36) H := hP
              have hk_37 : u_36 0 1 = nI n := by rw [hu_36.1 0 1 (by decide)]; exact hn
              have hk_38 : u_36 0 3 = nI nf := by rw [hu_36.1 0 3 (by decide)]; exact hfc
              refine lv_istore (lv' := [(8, .int (semR M0 n kd p1 p2 sb ag mo (p1 f))), (7, .int (nI 0)), (6, .int (nI (p1 f))), (5, .int (nI (ag f))), (4, .int mo), (3, .int (nI ((40 * lv) + f))), (0, .ref (b 0)), (1, .int (nI lv)), (2, .int (nI f))]) hx hb dX5_truth_178 hl (by decide) rfl (fun ls hl => ?_)
              refine lv_iconst (v := (nI 0)) hx hb dX5_truth_180 (by decide) ?_
              refine lv_istore (lv' := [(9, .int (nI 0)), (8, .int (semR M0 n kd p1 p2 sb ag mo (p1 f))), (7, .int (nI 0)), (6, .int (nI (p1 f))), (5, .int (nI (ag f))), (4, .int mo), (3, .int (nI ((40 * lv) + f))), (0, .ref (b 0)), (1, .int (nI lv)), (2, .int (nI f))]) hx hb dX5_truth_181 hl (by decide) rfl (fun ls hl => ?_)
              have cut183 : ∀ (f183 : Nat) (j : Nat) (hj : j ≤ n), n + 1 ≤ j + f183 → ∀ (H : Heap) (locs : List Loc), va_P D vwCl (rc cs b u_36) H → va_S (kA b 12 s.heap.size) s.heap H locs → ∀ (ls : Array Slot), lv_has ls 12 [(0, .ref (b 0)), (1, .int (nI lv)), (2, .int (nI f)), (3, .int (nI ((40 * lv) + f))), (4, .int mo), (5, .int (nI (ag f))), (6, .int (nI (p1 f))), (7, .int (fo (fun w r => if bt mo w && decide ((M0 2 (24 * ag f + w) &&& mo &&& (semR M0 n kd p1 p2 sb ag mo (p1 f) ^^^ (-1))) = 0) then r ||| sg w else r) (nI 0) j)), (8, .int (semR M0 n kd p1 p2 sb ag mo (p1 f))), (9, .int (nI j))] → W p l e ({ frames := 56 + f, cells := 0, slots := 0, locals := 1600 + 31 * f } : Room) s m ([.ref (b 0), .int (nI lv), .int (nI f)] : List Value).toArray below meth c H locs 0 0 Q (F0 m 183 ls []) := by
                intro f183
                induction f183 with
                | zero => intro j hj hfu183; exact absurd hfu183 (by omega)
                | succ f183 cut183 =>
                  intro j hj hfu183 H locs hP hS ls hl
                  refine lv_iload hx hb dX5_truth_183 (lv_at hl 9 rfl) ?_
                  refine lv_aload_n hx hb dX5_truth_185 rfl (lv_at hl 0 rfl) ?_
                  refine va_get (D := D) (ci := 5) (v := .int (u_36 0 1)) (C := RX5) (T := TX5) (N := 15) hx hb hts hinX5 hown hK1 hP 0 rfl rfl 1 (by decide) (hts (.fieldLink RX5 48 "KnowledgeModelModel" "worlds" "I") (List.mem_of_getElem? (i := 7) rfl)) (fun _ h9 => h9) rfl dX5_truth_186 ?_
                  refine xtop (y := nI n) (hk_37) ?_
                  refine lv_icmp_ge (tgt := 342) hx hb dX5_truth_189 (by decide) (fun c189 => ?_) (fun c189 => ?_)
                  ·
                    replace c189 : n ≤ j := k_get c189 (by omega) (by omega)
                    have hje : j = n := by omega
                    have hval : (fo (fun w r => if bt mo w && decide ((M0 2 (24 * ag f + w) &&& mo &&& (semR M0 n kd p1 p2 sb ag mo (p1 f) ^^^ (-1))) = 0) then r ||| sg w else r) (nI 0) j) = semR M0 n kd p1 p2 sb ag mo f := by rw [semR_eq hwp hf]; simp only [askR, hkd, if_true, if_false, show (1 : Nat) ≠ 0 by decide, show (2 : Nat) ≠ 0 by decide, show (2 : Nat) ≠ 1 by decide, show (3 : Nat) ≠ 0 by decide, show (3 : Nat) ≠ 1 by decide, show (3 : Nat) ≠ 2 by decide, show (3 : Nat) ≠ 6 by decide, show (4 : Nat) ≠ 0 by decide, show (4 : Nat) ≠ 1 by decide, show (4 : Nat) ≠ 2 by decide, show (4 : Nat) ≠ 3 by decide, show (4 : Nat) ≠ 6 by decide, show (5 : Nat) ≠ 0 by decide, show (5 : Nat) ≠ 1 by decide, show (5 : Nat) ≠ 2 by decide, show (5 : Nat) ≠ 3 by decide, show (5 : Nat) ≠ 4 by decide, show (5 : Nat) ≠ 6 by decide, show (6 : Nat) ≠ 0 by decide, show (6 : Nat) ≠ 1 by decide, show (6 : Nat) ≠ 2 by decide, hje]
                    refine lv_aload_n hx hb dX5_truth_342 rfl (lv_at hl 0 rfl) ?_
                    refine va_get (D := D) (ci := 5) (v := .ref (b 10)) (C := RX5) (T := TX5) (N := 15) hx hb hts hinX5 hown hK1 hP 0 rfl rfl 13 (by decide) (hts (.fieldLink RX5 38 "KnowledgeModelModel" "truths" "[I") (List.mem_of_getElem? (i := 2) rfl)) (fun _ h9 => h9) rfl dX5_truth_343 ?_
                    refine lv_iload_n hx hb dX5_truth_346 rfl (lv_at hl 3 rfl) ?_
                    refine lv_iload hx hb dX5_truth_347 (lv_at hl 7 rfl) ?_
                    refine lv_topi (fun x_39 hx_39 => ?_)
                    refine xiast (j := (40 * lv) + f) (q0 := 10) (t0 := 0) (ws' := rc cs b (wr u_36 10 ((40 * lv) + f) x_39)) hx hb hK1 hP (rD hI) hS rfl rfl (by omega) (by decide) rs_10 dX5_truth_349 (fun H locs hP hS => ?_)
                    obtain ⟨M_40, hM_40⟩ : ∃ z, z = wr u_36 10 ((40 * lv) + f) x_39 := ⟨_, rfl⟩
                    rw [← hM_40] at hP
                    have hk_41 : M_40 0 1 = nI n := by rw [hM_40]; exact (wr_ne (Or.inl (by omega))).trans hk_37
                    have hk_42 : M_40 0 3 = nI nf := by rw [hM_40]; exact (wr_ne (Or.inl (by omega))).trans hk_38
                    refine lv_aload_n hx hb dX5_truth_350 rfl (lv_at hl 0 rfl) ?_
                    refine va_get (D := D) (ci := 5) (v := .ref (b 9)) (C := RX5) (T := TX5) (N := 15) hx hb hts hinX5 hown hK1 hP 0 rfl rfl 12 (by decide) (hts (.fieldLink RX5 34 "KnowledgeModelModel" "areKnown" "[Z") (List.mem_of_getElem? (i := 1) rfl)) (fun _ h9 => h9) rfl dX5_truth_351 ?_
                    refine lv_iload_n hx hb dX5_truth_354 rfl (lv_at hl 3 rfl) ?_
                    refine lv_iconst (v := (nI 1)) hx hb dX5_truth_355 (by decide) ?_
                    refine xzast (j := (40 * lv) + f) (q0 := 9) (t0 := 3) (ws' := rc cs b (wr M_40 9 ((40 * lv) + f) (nI 1))) hx hb hK1 hP (rD hI) hS rfl rfl (by omega) (by decide) (by decide) rs_9 dX5_truth_356 (fun H locs hP hS => ?_)
                    obtain ⟨M_43, hM_43⟩ : ∃ z, z = wr M_40 9 ((40 * lv) + f) (nI 1) := ⟨_, rfl⟩
                    rw [← hM_43] at hP
                    have hk_44 : M_43 0 1 = nI n := by rw [hM_43]; exact (wr_ne (Or.inl (by omega))).trans hk_41
                    have hk_45 : M_43 0 3 = nI nf := by rw [hM_43]; exact (wr_ne (Or.inl (by omega))).trans hk_42
                    refine lv_iload hx hb dX5_truth_357 (lv_at hl 7 rfl) ?_
                    subst hQ
                    have hrel : TR M0 M n nf kd p1 p2 sb ag lv mo M_43 := by first | exact TR_r hti | (simp only [fo_0, c13, c57, c87, c115, c164, c189, hx_39, hM_40, hM_43]; exact TR_w (TR_r hti) hf hval) | (simp only [fo_0, c13, c57, c87, c115, c164, c189, hx_39, hM_40, hM_43]; exact TR_w hu_36 hf hval) | (simp only [fo_0, c13, c57, c87, c115, c164, c189, hx_39, hM_40, hM_43]; exact TR_w (TR_t hu_36 hu_36) hf hval) | (simp only [fo_0, c13, c57, c87, c115, c164, c189, hx_39, hM_40, hM_43]; exact TR_w (TR_b hu_36 hf40 (by simpa only [fo_0, c13, c57, c87, c115, c164, c189, hx_39, hM_40, hM_43] using hu_36)) hf hval)
                    have hfin : (fo (fun w r => if bt mo w && decide ((M0 2 (24 * ag f + w) &&& mo &&& (semR M0 n kd p1 p2 sb ag mo (p1 f) ^^^ (-1))) = 0) then r ||| sg w else r) (nI 0) j) = semR M0 n kd p1 p2 sb ag mo f := by first | exact hval | rfl
                    exact W.iret hx hb hr (fun t ht hW => ⟨⟨_, M_43, rfl, ⟨hfin, hrel⟩, by rw [← ht] at hP; exact hP⟩, hS.F ht⟩) hS.2.2 dX5_truth_359
                  ·
                    replace c189 : j < n := k_gef c189 (by omega) (by omega)
                    refine lv_iload hx hb dX5_truth_192 (lv_at hl 4 rfl) ?_
                    refine lv_iload hx hb dX5_truth_194 (lv_at hl 9 rfl) ?_
                    refine xcalli (va_runS (As := [.int mo, .int (nI j)]) (rest := []) ⟨hx, hb, hml, hown, hts⟩ (c_X5_has l mo j (by omega)) (va_cwS 2 hts gX5_truth_X5_has rfl rfl rfl (by decide +kernel) ⟨by dsimp only; omega, by dsimp only; omega⟩) xpreN rfl rfl hl.1 rfl (lv_room (Nat.le_of_ble_eq_true rfl)) dX5_truth_196 ⟨Nat.le_of_ble_eq_true rfl, Nat.le_of_ble_eq_true rfl⟩) hS hP (fun H locs hP hS => ?_)
                    refine lv_if_ne (tgt := 205) hx hb dX5_truth_199 (by decide) (fun c199 => ?_) (fun c199 => ?_)
                    ·
                      replace c199 := bI_n0 c199
                      refine lv_aload_n hx hb dX5_truth_205 rfl (lv_at hl 0 rfl) ?_
                      refine va_get (D := D) (ci := 5) (v := .ref (b 3)) (C := RX5) (T := TX5) (N := 15) hx hb hts hinX5 hown hK1 hP 0 rfl rfl 6 (by decide) (hts (.fieldLink RX5 16 "KnowledgeModelModel" "kinds" "[I") (List.mem_of_getElem? (i := 6) rfl)) (fun _ h9 => h9) rfl dX5_truth_206 ?_
                      refine lv_iload_n hx hb dX5_truth_209 rfl (lv_at hl 2 rfl) ?_
                      refine xiald (j := f) (q0 := 3) (t0 := 0) hx hb hK1 hP rfl rfl (by omega) (by decide) dX5_truth_210 ?_
                      refine xtop (y := (nI 3)) (by exact (((Ag8_t hag hu_36) 3 f (by decide)).trans hk3).trans (congrArg nI hkd)) ?_
                      refine lv_iconst (v := (nI 3)) hx hb dX5_truth_211 (by decide) ?_
                      refine lv_icmp_ne (tgt := 231) hx hb dX5_truth_212 (by decide) (fun c212 => ?_) (fun c212 => ?_)
                      ·
                        replace c212 : ¬ 3 = 3 := k_net c212 (by omega) (by omega)
                        exfalso; omega
                      ·
                        replace c212 : 3 = 3 := k_nef c212 (by omega) (by omega)
                        refine lv_aload_n hx hb dX5_truth_215 rfl (lv_at hl 0 rfl) ?_
                        refine va_get (D := D) (ci := 5) (v := .ref (b 2)) (C := RX5) (T := TX5) (N := 15) hx hb hts hinX5 hown hK1 hP 0 rfl rfl 4 (by decide) (hts (.fieldLink RX5 13 "KnowledgeModelModel" "seen" "[I") (List.mem_of_getElem? (i := 8) rfl)) (fun _ h9 => h9) rfl dX5_truth_216 ?_
                        refine lv_bipush (v := (nI 24)) hx hb dX5_truth_219 (by decide) ?_
                        refine lv_iload hx hb dX5_truth_221 (lv_at hl 5 rfl) ?_
                        refine ximul hx hb dX5_truth_223 ?_
                        refine lv_iload hx hb dX5_truth_224 (lv_at hl 9 rfl) ?_
                        refine xiadd hx hb dX5_truth_226 ?_
                        refine xiald (j := (24 * (ag f)) + j) (q0 := 2) (t0 := 0) hx hb hK1 hP rfl rfl (by omega) (by decide) dX5_truth_227 ?_
                        refine xtop (y := (M0 2 (24 * ag f + j))) (by exact (Ag8_t hag hu_36) 2 _ (by decide)) ?_
                        refine lv_goto (tgt := 276) hx hb dX5_truth_228 (by decide) ?_
                        refine lv_istore (lv' := [(10, .int (M0 2 (24 * ag f + j))), (0, .ref (b 0)), (1, .int (nI lv)), (2, .int (nI f)), (3, .int (nI ((40 * lv) + f))), (4, .int mo), (5, .int (nI (ag f))), (6, .int (nI (p1 f))), (7, .int (fo (fun w r => if bt mo w && decide ((M0 2 (24 * ag f + w) &&& mo &&& (semR M0 n kd p1 p2 sb ag mo (p1 f) ^^^ (-1))) = 0) then r ||| sg w else r) (nI 0) j)), (8, .int (semR M0 n kd p1 p2 sb ag mo (p1 f))), (9, .int (nI j))]) hx hb dX5_truth_276 hl (by decide) rfl (fun ls hl => ?_)
                        refine lv_aload_n hx hb dX5_truth_278 rfl (lv_at hl 1 rfl) ?_
                        refine va_get (D := D) (ci := 5) (v := .ref (b 3)) (C := RX5) (T := TX5) (N := 15) hx hb hts hinX5 hown hK1 hP 0 rfl rfl 6 (by decide) (hts (.fieldLink RX5 16 "KnowledgeModelModel" "kinds" "[I") (List.mem_of_getElem? (i := 6) rfl)) (fun _ h9 => h9) rfl dX5_truth_279 ?_
                        refine lv_iload_n hx hb dX5_truth_282 rfl (lv_at hl 3 rfl) ?_
                        refine xiald (j := f) (q0 := 3) (t0 := 0) hx hb hK1 hP rfl rfl (by omega) (by decide) dX5_truth_283 ?_
                        refine xtop (y := (nI 3)) (by exact (((Ag8_t hag hu_36) 3 f (by decide)).trans hk3).trans (congrArg nI hkd)) ?_
                        refine lv_if_ne (tgt := 302) hx hb dX5_truth_284 (by decide) (fun c284 => ?_) (fun c284 => ?_)
                        ·
                          replace c284 : ¬ 3 = 0 := k0_net c284 (by omega)
                          refine lv_iload hx hb dX5_truth_302 (lv_at hl 0 rfl) ?_
                          refine lv_iload hx hb dX5_truth_304 (lv_at hl 5 rfl) ?_
                          refine lv_iand hx hb dX5_truth_306 ?_
                          refine lv_iload hx hb dX5_truth_307 (lv_at hl 9 rfl) ?_
                          refine lv_iconst (v := (-1 : Int32)) hx hb dX5_truth_309 (by decide) ?_
                          refine lv_ixor hx hb dX5_truth_310 ?_
                          refine lv_iand hx hb dX5_truth_311 ?_
                          refine lv_if_ne (tgt := 319) hx hb dX5_truth_312 (by decide) (fun c312 => ?_) (fun c312 => ?_)
                          ·
                            refine lv_iconst (v := (nI 0)) hx hb dX5_truth_319 (by decide) ?_
                            refine lv_istore (lv' := [(11, .int (nI 0)), (10, .int (M0 2 (24 * ag f + j))), (0, .ref (b 0)), (1, .int (nI lv)), (2, .int (nI f)), (3, .int (nI ((40 * lv) + f))), (4, .int mo), (5, .int (nI (ag f))), (6, .int (nI (p1 f))), (7, .int (fo (fun w r => if bt mo w && decide ((M0 2 (24 * ag f + w) &&& mo &&& (semR M0 n kd p1 p2 sb ag mo (p1 f) ^^^ (-1))) = 0) then r ||| sg w else r) (nI 0) j)), (8, .int (semR M0 n kd p1 p2 sb ag mo (p1 f))), (9, .int (nI j))]) hx hb dX5_truth_320 hl (by decide) rfl (fun ls hl => ?_)
                            refine lv_iload hx hb dX5_truth_322 (lv_at hl 0 rfl) ?_
                            refine lv_if_eq (tgt := 336) hx hb dX5_truth_324 (by decide) (fun c324 => ?_) (fun c324 => ?_)
                            ·
                              replace c324 : 0 = 0 := k0_eqt c324 (by omega)
                              refine lv_iinc (v := (nI (j + 1))) (lv' := [(9, .int (nI (j + 1))), (11, .int (nI 0)), (10, .int (M0 2 (24 * ag f + j))), (0, .ref (b 0)), (1, .int (nI lv)), (2, .int (nI f)), (3, .int (nI ((40 * lv) + f))), (4, .int mo), (5, .int (nI (ag f))), (6, .int (nI (p1 f))), (7, .int (fo (fun w r => if bt mo w && decide ((M0 2 (24 * ag f + w) &&& mo &&& (semR M0 n kd p1 p2 sb ag mo (p1 f) ^^^ (-1))) = 0) then r ||| sg w else r) (nI 0) j)), (8, .int (semR M0 n kd p1 p2 sb ag mo (p1 f)))]) hx hb dX5_truth_336 hl (k := 11) rfl (nI_add j 1) (by decide) rfl (fun ls hl => ?_)
                              refine lv_goto (tgt := 183) hx hb dX5_truth_339 (by decide) ?_
                              have e_46 : (fo (fun w r => if bt mo w && decide ((M0 2 (24 * ag f + w) &&& mo &&& (semR M0 n kd p1 p2 sb ag mo (p1 f) ^^^ (-1))) = 0) then r ||| sg w else r) (nI 0) j) = (fo (fun w r => if bt mo w && decide ((M0 2 (24 * ag f + w) &&& mo &&& (semR M0 n kd p1 p2 sb ag mo (p1 f) ^^^ (-1))) = 0) then r ||| sg w else r) (nI 0) (j + 1)) := by first | (rw [fo_s, if_neg (by rw [c199]; exact Bool.false_ne_true)]; done) | (rw [fo_s, if_pos (by rw [c199, decide_eq_true c312]; rfl)]; assumption) | (rw [fo_s, if_neg (by rw [c199, decide_eq_false c312]; exact Bool.false_ne_true)]; done)
                              exact cut183 (j + 1) (by omega) (by omega) _ _ hP hS ls (lcons (lcons (lcons (lcons (lcons (lcons (lcons (lcons (lcons (lcons (lzero hl) hl 0 rfl rfl) hl 11 rfl rfl) hl 10 rfl (congrArg Value.int e_46)) hl 9 rfl rfl) hl 8 rfl rfl) hl 7 rfl rfl) hl 6 rfl rfl) hl 5 rfl rfl) hl 4 rfl rfl) hl 3 rfl rfl)
                            ·
                              replace c324 : ¬ 0 = 0 := k0_eqf c324 (by omega)
                              exfalso; omega
                          ·
                            refine lv_iconst (v := (nI 1)) hx hb dX5_truth_315 (by decide) ?_
                            refine lv_goto (tgt := 320) hx hb dX5_truth_316 (by decide) ?_
                            refine lv_istore (lv' := [(11, .int (nI 1)), (10, .int (M0 2 (24 * ag f + j))), (0, .ref (b 0)), (1, .int (nI lv)), (2, .int (nI f)), (3, .int (nI ((40 * lv) + f))), (4, .int mo), (5, .int (nI (ag f))), (6, .int (nI (p1 f))), (7, .int (fo (fun w r => if bt mo w && decide ((M0 2 (24 * ag f + w) &&& mo &&& (semR M0 n kd p1 p2 sb ag mo (p1 f) ^^^ (-1))) = 0) then r ||| sg w else r) (nI 0) j)), (8, .int (semR M0 n kd p1 p2 sb ag mo (p1 f))), (9, .int (nI j))]) hx hb dX5_truth_320 hl (by decide) rfl (fun ls hl => ?_)
                            refine lv_iload hx hb dX5_truth_322 (lv_at hl 0 rfl) ?_
                            refine lv_if_eq (tgt := 336) hx hb dX5_truth_324 (by decide) (fun c324 => ?_) (fun c324 => ?_)
                            ·
                              replace c324 : 1 = 0 := k0_eqt c324 (by omega)
                              exfalso; omega
                            ·
                              replace c324 : ¬ 1 = 0 := k0_eqf c324 (by omega)
                              refine lv_iload hx hb dX5_truth_327 (lv_at hl 9 rfl) ?_
                              refine lv_iconst (v := (nI 1)) hx hb dX5_truth_329 (by decide) ?_
                              refine lv_iload hx hb dX5_truth_330 (lv_at hl 11 rfl) ?_
                              refine lv_ishl hx hb dX5_truth_332 ?_
                              refine lv_ior hx hb dX5_truth_333 ?_
                              refine lv_topi (fun x_47 hx_47 => ?_)
                              refine lv_istore (lv' := [(7, .int x_47), (11, .int (nI 1)), (10, .int (M0 2 (24 * ag f + j))), (0, .ref (b 0)), (1, .int (nI lv)), (2, .int (nI f)), (3, .int (nI ((40 * lv) + f))), (4, .int mo), (5, .int (nI (ag f))), (6, .int (nI (p1 f))), (8, .int (semR M0 n kd p1 p2 sb ag mo (p1 f))), (9, .int (nI j))]) hx hb dX5_truth_334 hl (by decide) rfl (fun ls hl => ?_)
                              refine lv_iinc (v := (nI (j + 1))) (lv' := [(9, .int (nI (j + 1))), (7, .int x_47), (11, .int (nI 1)), (10, .int (M0 2 (24 * ag f + j))), (0, .ref (b 0)), (1, .int (nI lv)), (2, .int (nI f)), (3, .int (nI ((40 * lv) + f))), (4, .int mo), (5, .int (nI (ag f))), (6, .int (nI (p1 f))), (8, .int (semR M0 n kd p1 p2 sb ag mo (p1 f)))]) hx hb dX5_truth_336 hl (k := 11) rfl (nI_add j 1) (by decide) rfl (fun ls hl => ?_)
                              refine lv_goto (tgt := 183) hx hb dX5_truth_339 (by decide) ?_
                              have e_48 : x_47 = (fo (fun w r => if bt mo w && decide ((M0 2 (24 * ag f + w) &&& mo &&& (semR M0 n kd p1 p2 sb ag mo (p1 f) ^^^ (-1))) = 0) then r ||| sg w else r) (nI 0) (j + 1)) := by first | (rw [fo_s, if_neg (by rw [c199]; exact Bool.false_ne_true)]; done) | (rw [fo_s, if_pos (by rw [c199, decide_eq_true c312]; rfl)]; assumption) | (rw [fo_s, if_neg (by rw [c199, decide_eq_false c312]; exact Bool.false_ne_true)]; done)
                              exact cut183 (j + 1) (by omega) (by omega) _ _ hP hS ls (lcons (lcons (lcons (lcons (lcons (lcons (lcons (lcons (lcons (lcons (lzero hl) hl 0 rfl rfl) hl 11 rfl rfl) hl 1 rfl (congrArg Value.int e_48)) hl 10 rfl rfl) hl 9 rfl rfl) hl 8 rfl rfl) hl 7 rfl rfl) hl 6 rfl rfl) hl 5 rfl rfl) hl 4 rfl rfl)
                        ·
                          replace c284 : 3 = 0 := k0_nef c284 (by omega)
                          exfalso; omega
                    ·
                      replace c199 := bI_0 c199
                      refine lv_goto (tgt := 336) hx hb dX5_truth_202 (by decide) ?_
                      refine lv_iinc (v := (nI (j + 1))) (lv' := [(9, .int (nI (j + 1))), (0, .ref (b 0)), (1, .int (nI lv)), (2, .int (nI f)), (3, .int (nI ((40 * lv) + f))), (4, .int mo), (5, .int (nI (ag f))), (6, .int (nI (p1 f))), (7, .int (fo (fun w r => if bt mo w && decide ((M0 2 (24 * ag f + w) &&& mo &&& (semR M0 n kd p1 p2 sb ag mo (p1 f) ^^^ (-1))) = 0) then r ||| sg w else r) (nI 0) j)), (8, .int (semR M0 n kd p1 p2 sb ag mo (p1 f)))]) hx hb dX5_truth_336 hl (k := 9) rfl (nI_add j 1) (by decide) rfl (fun ls hl => ?_)
                      refine lv_goto (tgt := 183) hx hb dX5_truth_339 (by decide) ?_
                      have e_49 : (fo (fun w r => if bt mo w && decide ((M0 2 (24 * ag f + w) &&& mo &&& (semR M0 n kd p1 p2 sb ag mo (p1 f) ^^^ (-1))) = 0) then r ||| sg w else r) (nI 0) j) = (fo (fun w r => if bt mo w && decide ((M0 2 (24 * ag f + w) &&& mo &&& (semR M0 n kd p1 p2 sb ag mo (p1 f) ^^^ (-1))) = 0) then r ||| sg w else r) (nI 0) (j + 1)) := by first | (rw [fo_s, if_neg (by rw [c199]; exact Bool.false_ne_true)]; done) | (rw [fo_s, if_pos (by rw [c199, decide_eq_true c312]; rfl)]; assumption) | (rw [fo_s, if_neg (by rw [c199, decide_eq_false c312]; exact Bool.false_ne_true)]; done)
                      exact cut183 (j + 1) (by omega) (by omega) _ _ hP hS ls (lcons (lcons (lcons (lcons (lcons (lcons (lcons (lcons (lcons (lcons (lzero hl) hl 0 rfl rfl) hl 9 rfl rfl) hl 8 rfl (congrArg Value.int e_49)) hl 7 rfl rfl) hl 6 rfl rfl) hl 5 rfl rfl) hl 4 rfl rfl) hl 3 rfl rfl) hl 2 rfl rfl) hl 1 rfl rfl)
              have e_50 : (nI 0) = (fo (fun w r => if bt mo w && decide ((M0 2 (24 * ag f + w) &&& mo &&& (semR M0 n kd p1 p2 sb ag mo (p1 f) ^^^ (-1))) = 0) then r ||| sg w else r) (nI 0) 0) := by rfl
              exact cut183 (n + 1) 0 (by omega) (by omega) _ _ hP hS ls (lcons (lcons (lcons (lcons (lcons (lcons (lcons (lcons (lcons (lcons (lzero hl) hl 0 rfl rfl) hl 1 rfl rfl) hl 2 rfl (congrArg Value.int e_50)) hl 3 rfl rfl) hl 4 rfl rfl) hl 5 rfl rfl) hl 6 rfl rfl) hl 9 rfl rfl) hl 8 rfl rfl) hl 7 rfl rfl)
            ·
              replace c164 : 3 = 0 := k0_nef c164 (by omega)
              exfalso; omega
          ·
            replace c115 : 3 = 6 := k_nef c115 (by omega) (by omega)
            exfalso; omega
        ·
          replace c87 : 3 = 1 := k_nef c87 (by omega) (by omega)
          exfalso; omega
      ·
        replace c57 : 3 = 2 := k_nef c57 (by omega) (by omega)
        exfalso; omega
    ·
      refine lv_aload_n hx hb dX5_truth_16 rfl (lv_at hl 1 rfl) ?_
      refine va_get (D := D) (ci := 5) (v := .ref (b 10)) (C := RX5) (T := TX5) (N := 15) hx hb hts hinX5 hown hK1 hP 0 rfl rfl 13 (by decide) (hts (.fieldLink RX5 38 "KnowledgeModelModel" "truths" "[I") (List.mem_of_getElem? (i := 2) rfl)) (fun _ h9 => h9) rfl dX5_truth_17 ?_
      refine lv_iload_n hx hb dX5_truth_20 rfl (lv_at hl 0 rfl) ?_
      refine xiald (j := (40 * lv) + f) (q0 := 10) (t0 := 0) hx hb hK1 hP rfl rfl (by omega) (by decide) dX5_truth_21 ?_
      refine xtop (y := (semR M0 n kd p1 p2 sb ag mo f)) (by exact ((hti.2 f hf).resolve_left c13).2) ?_
      subst hQ
      have hrel : TR M0 M n nf kd p1 p2 sb ag lv mo M := by first | exact TR_r hti | (simp only [fo_0, c13]; exact TR_w (TR_r hti) hf hval) | (simp only [fo_0, c13]; exact TR_w trivial hf hval) | (simp only [fo_0, c13]; exact TR_w (TR_t trivial trivial) hf hval) | (simp only [fo_0, c13]; exact TR_w (TR_b trivial hf40 (by simpa only [fo_0, c13] using trivial)) hf hval)
      have hfin : (semR M0 n kd p1 p2 sb ag mo f) = semR M0 n kd p1 p2 sb ag mo f := by first | exact hval | rfl
      exact W.iret hx hb hr (fun t ht hW => ⟨⟨_, M, rfl, ⟨hfin, hrel⟩, by rw [← ht] at hP; exact hP⟩, hS.F ht⟩) hS.2.2 dX5_truth_22
  ·
    have hq1 := hL.1 (by omega)
    have hz1 := hE1 (by omega)
    have hB1 := hB (by omega)
    refine lv_bipush (v := (nI 40)) hx hb dX5_truth_0 (by decide) ?_
    refine lv_iload_n hx hb dX5_truth_2 rfl (lv_at hl 1 rfl) ?_
    refine ximul hx hb dX5_truth_3 ?_
    refine lv_iload_n hx hb dX5_truth_4 rfl (lv_at hl 2 rfl) ?_
    refine xiadd hx hb dX5_truth_5 ?_
    refine lv_istore_n (lv' := [(3, .int (nI ((40 * lv) + f))), (0, .ref (b 0)), (1, .int (nI lv)), (2, .int (nI f))]) hx hb dX5_truth_6 rfl hl (by decide) rfl (fun ls hl => ?_)
    refine lv_aload_n hx hb dX5_truth_7 rfl (lv_at hl 1 rfl) ?_
    refine va_get (D := D) (ci := 5) (v := .ref (b 9)) (C := RX5) (T := TX5) (N := 15) hx hb hts hinX5 hown hK1 hP 0 rfl rfl 12 (by decide) (hts (.fieldLink RX5 34 "KnowledgeModelModel" "areKnown" "[Z") (List.mem_of_getElem? (i := 1) rfl)) (fun _ h9 => h9) rfl dX5_truth_8 ?_
    refine lv_iload_n hx hb dX5_truth_11 rfl (lv_at hl 0 rfl) ?_
    refine xzald (j := (40 * lv) + f) (q0 := 9) (t0 := 3) hx hb hK1 hP rfl rfl (by omega) (by decide) dX5_truth_12 ?_
    refine lv_if_eq (tgt := 23) hx hb dX5_truth_13 (by decide) (fun c13 => ?_) (fun c13 => ?_)
    ·
      refine lv_aload_n hx hb dX5_truth_23 rfl (lv_at hl 1 rfl) ?_
      refine va_get (D := D) (ci := 5) (v := .ref (b 8)) (C := RX5) (T := TX5) (N := 15) hx hb hts hinX5 hown hK1 hP 0 rfl rfl 11 (by decide) (hts (.fieldLink RX5 31 "KnowledgeModelModel" "lefts" "[I") (List.mem_of_getElem? (i := 3) rfl)) (fun _ h9 => h9) rfl dX5_truth_24 ?_
      refine lv_iload_n hx hb dX5_truth_27 rfl (lv_at hl 2 rfl) ?_
      refine xiald (j := lv) (q0 := 8) (t0 := 0) hx hb hK1 hP rfl rfl (by omega) (by decide) dX5_truth_28 ?_
      refine xtop (y := mo) (by exact hti.1) ?_
      refine lv_istore (lv' := [(4, .int mo), (3, .int (nI ((40 * lv) + f))), (0, .ref (b 0)), (1, .int (nI lv)), (2, .int (nI f))]) hx hb dX5_truth_29 hl (by decide) rfl (fun ls hl => ?_)
      refine lv_aload_n hx hb dX5_truth_31 rfl (lv_at hl 2 rfl) ?_
      refine va_get (D := D) (ci := 5) (v := .ref (b 4)) (C := RX5) (T := TX5) (N := 15) hx hb hts hinX5 hown hK1 hP 0 rfl rfl 7 (by decide) (hts (.fieldLink RX5 19 "KnowledgeModelModel" "firsts" "[I") (List.mem_of_getElem? (i := 4) rfl)) (fun _ h9 => h9) rfl dX5_truth_32 ?_
      refine lv_iload_n hx hb dX5_truth_35 rfl (lv_at hl 4 rfl) ?_
      refine xiald (j := f) (q0 := 4) (t0 := 0) hx hb hK1 hP rfl rfl (by omega) (by decide) dX5_truth_36 ?_
      refine xtop (y := (M0 4 f)) (by exact hag 4 f (by decide)) ?_
      refine lv_istore (lv' := [(5, .int (M0 4 f)), (4, .int mo), (3, .int (nI ((40 * lv) + f))), (0, .ref (b 0)), (1, .int (nI lv)), (2, .int (nI f))]) hx hb dX5_truth_37 hl (by decide) rfl (fun ls hl => ?_)
      refine lv_aload_n hx hb dX5_truth_39 rfl (lv_at hl 3 rfl) ?_
      refine va_get (D := D) (ci := 5) (v := .ref (b 5)) (C := RX5) (T := TX5) (N := 15) hx hb hts hinX5 hown hK1 hP 0 rfl rfl 8 (by decide) (hts (.fieldLink RX5 22 "KnowledgeModelModel" "seconds" "[I") (List.mem_of_getElem? (i := 5) rfl)) (fun _ h9 => h9) rfl dX5_truth_40 ?_
      refine lv_iload_n hx hb dX5_truth_43 rfl (lv_at hl 5 rfl) ?_
      refine xiald (j := f) (q0 := 5) (t0 := 0) hx hb hK1 hP rfl rfl (by omega) (by decide) dX5_truth_44 ?_
      refine xtop (y := (nI (p1 f))) (by exact (hag 5 f (by decide)).trans hB1) ?_
      refine lv_istore (lv' := [(6, .int (nI (p1 f))), (5, .int (M0 4 f)), (4, .int mo), (3, .int (nI ((40 * lv) + f))), (0, .ref (b 0)), (1, .int (nI lv)), (2, .int (nI f))]) hx hb dX5_truth_45 hl (by decide) rfl (fun ls hl => ?_)
      refine lv_iconst (v := (nI 0)) hx hb dX5_truth_47 (by decide) ?_
      refine lv_istore (lv' := [(7, .int (nI 0)), (6, .int (nI (p1 f))), (5, .int (M0 4 f)), (4, .int mo), (3, .int (nI ((40 * lv) + f))), (0, .ref (b 0)), (1, .int (nI lv)), (2, .int (nI f))]) hx hb dX5_truth_48 hl (by decide) rfl (fun ls hl => ?_)
      refine lv_aload_n hx hb dX5_truth_50 rfl (lv_at hl 5 rfl) ?_
      refine va_get (D := D) (ci := 5) (v := .ref (b 3)) (C := RX5) (T := TX5) (N := 15) hx hb hts hinX5 hown hK1 hP 0 rfl rfl 6 (by decide) (hts (.fieldLink RX5 16 "KnowledgeModelModel" "kinds" "[I") (List.mem_of_getElem? (i := 6) rfl)) (fun _ h9 => h9) rfl dX5_truth_51 ?_
      refine lv_iload_n hx hb dX5_truth_54 rfl (lv_at hl 7 rfl) ?_
      refine xiald (j := f) (q0 := 3) (t0 := 0) hx hb hK1 hP rfl rfl (by omega) (by decide) dX5_truth_55 ?_
      refine xtop (y := (nI 4)) (by exact ((hag 3 f (by decide)).trans hk3).trans (congrArg nI hkd)) ?_
      refine lv_iconst (v := (nI 2)) hx hb dX5_truth_56 (by decide) ?_
      refine lv_icmp_ne (tgt := 80) hx hb dX5_truth_57 (by decide) (fun c57 => ?_) (fun c57 => ?_)
      ·
        replace c57 : ¬ 4 = 2 := k_net c57 (by omega) (by omega)
        refine lv_aload_n hx hb dX5_truth_80 rfl (lv_at hl 5 rfl) ?_
        refine va_get (D := D) (ci := 5) (v := .ref (b 3)) (C := RX5) (T := TX5) (N := 15) hx hb hts hinX5 hown hK1 hP 0 rfl rfl 6 (by decide) (hts (.fieldLink RX5 16 "KnowledgeModelModel" "kinds" "[I") (List.mem_of_getElem? (i := 6) rfl)) (fun _ h9 => h9) rfl dX5_truth_81 ?_
        refine lv_iload_n hx hb dX5_truth_84 rfl (lv_at hl 7 rfl) ?_
        refine xiald (j := f) (q0 := 3) (t0 := 0) hx hb hK1 hP rfl rfl (by omega) (by decide) dX5_truth_85 ?_
        refine xtop (y := (nI 4)) (by exact ((hag 3 f (by decide)).trans hk3).trans (congrArg nI hkd)) ?_
        refine lv_iconst (v := (nI 1)) hx hb dX5_truth_86 (by decide) ?_
        refine lv_icmp_ne (tgt := 107) hx hb dX5_truth_87 (by decide) (fun c87 => ?_) (fun c87 => ?_)
        ·
          replace c87 : ¬ 4 = 1 := k_net c87 (by omega) (by omega)
          refine lv_aload_n hx hb dX5_truth_107 rfl (lv_at hl 5 rfl) ?_
          refine va_get (D := D) (ci := 5) (v := .ref (b 3)) (C := RX5) (T := TX5) (N := 15) hx hb hts hinX5 hown hK1 hP 0 rfl rfl 6 (by decide) (hts (.fieldLink RX5 16 "KnowledgeModelModel" "kinds" "[I") (List.mem_of_getElem? (i := 6) rfl)) (fun _ h9 => h9) rfl dX5_truth_108 ?_
          refine lv_iload_n hx hb dX5_truth_111 rfl (lv_at hl 7 rfl) ?_
          refine xiald (j := f) (q0 := 3) (t0 := 0) hx hb hK1 hP rfl rfl (by omega) (by decide) dX5_truth_112 ?_
          refine xtop (y := (nI 4)) (by exact ((hag 3 f (by decide)).trans hk3).trans (congrArg nI hkd)) ?_
          refine lv_bipush (v := (nI 6)) hx hb dX5_truth_113 (by decide) ?_
          refine lv_icmp_ne (tgt := 158) hx hb dX5_truth_115 (by decide) (fun c115 => ?_) (fun c115 => ?_)
          ·
            replace c115 : ¬ 4 = 6 := k_net c115 (by omega) (by omega)
            refine lv_aload_n hx hb dX5_truth_158 rfl (lv_at hl 5 rfl) ?_
            refine va_get (D := D) (ci := 5) (v := .ref (b 3)) (C := RX5) (T := TX5) (N := 15) hx hb hts hinX5 hown hK1 hP 0 rfl rfl 6 (by decide) (hts (.fieldLink RX5 16 "KnowledgeModelModel" "kinds" "[I") (List.mem_of_getElem? (i := 6) rfl)) (fun _ h9 => h9) rfl dX5_truth_159 ?_
            refine lv_iload_n hx hb dX5_truth_162 rfl (lv_at hl 7 rfl) ?_
            refine xiald (j := f) (q0 := 3) (t0 := 0) hx hb hK1 hP rfl rfl (by omega) (by decide) dX5_truth_163 ?_
            refine xtop (y := (nI 4)) (by exact ((hag 3 f (by decide)).trans hk3).trans (congrArg nI hkd)) ?_
            refine lv_if_ne (tgt := 171) hx hb dX5_truth_164 (by decide) (fun c164 => ?_) (fun c164 => ?_)
            ·
              replace c164 : ¬ 4 = 0 := k0_net c164 (by omega)
              refine lv_aload_n hx hb dX5_truth_171 rfl (lv_at hl 5 rfl) ?_
              refine lv_iload_n hx hb dX5_truth_172 rfl (lv_at hl 6 rfl) ?_
              refine lv_iload hx hb dX5_truth_173 (lv_at hl 1 rfl) ?_
              refine xcallwi (va_runV (As := [.int (nI lv), .int (nI (p1 f))]) (rest := []) ⟨hx, hb, hml, hown, hts⟩ (ih (p1 f) (by omega) M _ lv mo hag hlv (by omega) (by omega) hti) (cwV 2 hts gX5_truth_X5_truth rfl rfl rfl (by decide +kernel) ⟨by dsimp only; omega, by dsimp only; omega⟩) (xpreVs hP hK (ci := 5) 0 rfl rfl) rfl rfl hl.1 rfl (lv_room (Nat.le_of_ble_eq_true rfl)) dX5_truth_175 ⟨Nat.le_of_ble_eq_true rfl, Nat.le_of_ble_eq_true rfl⟩) hS (kAle hS.1) (fun u_51 H locs hu_51 hP _ _ hS => ?_)
              have hP : va_P D vwCl (rc cs b u_51) H := hP
              have hk_52 : u_51 0 1 = nI n := by rw [hu_51.1 0 1 (by decide)]; exact hn
              have hk_53 : u_51 0 3 = nI nf := by rw [hu_51.1 0 3 (by decide)]; exact hfc
              refine lv_istore (lv' := [(8, .int (semR M0 n kd p1 p2 sb ag mo (p1 f))), (7, .int (nI 0)), (6, .int (nI (p1 f))), (5, .int (M0 4 f)), (4, .int mo), (3, .int (nI ((40 * lv) + f))), (0, .ref (b 0)), (1, .int (nI lv)), (2, .int (nI f))]) hx hb dX5_truth_178 hl (by decide) rfl (fun ls hl => ?_)
              refine lv_iconst (v := (nI 0)) hx hb dX5_truth_180 (by decide) ?_
              refine lv_istore (lv' := [(9, .int (nI 0)), (8, .int (semR M0 n kd p1 p2 sb ag mo (p1 f))), (7, .int (nI 0)), (6, .int (nI (p1 f))), (5, .int (M0 4 f)), (4, .int mo), (3, .int (nI ((40 * lv) + f))), (0, .ref (b 0)), (1, .int (nI lv)), (2, .int (nI f))]) hx hb dX5_truth_181 hl (by decide) rfl (fun ls hl => ?_)
              have cut183 : ∀ (f183 : Nat) (j : Nat) (hj : j ≤ n), n + 1 ≤ j + f183 → ∀ (H : Heap) (locs : List Loc), va_P D vwCl (rc cs b u_51) H → va_S (kA b 12 s.heap.size) s.heap H locs → ∀ (ls : Array Slot), lv_has ls 12 [(0, .ref (b 0)), (1, .int (nI lv)), (2, .int (nI f)), (3, .int (nI ((40 * lv) + f))), (4, .int mo), (5, .int (M0 4 f)), (6, .int (nI (p1 f))), (7, .int (fo (fun w r => if bt mo w && decide ((reachR M0 n (M0 4 f) w mo &&& mo &&& (semR M0 n kd p1 p2 sb ag mo (p1 f) ^^^ (-1))) = 0) then r ||| sg w else r) (nI 0) j)), (8, .int (semR M0 n kd p1 p2 sb ag mo (p1 f))), (9, .int (nI j))] → W p l e ({ frames := 56 + f, cells := 0, slots := 0, locals := 1600 + 31 * f } : Room) s m ([.ref (b 0), .int (nI lv), .int (nI f)] : List Value).toArray below meth c H locs 0 0 Q (F0 m 183 ls []) := by
                intro f183
                induction f183 with
                | zero => intro j hj hfu183; exact absurd hfu183 (by omega)
                | succ f183 cut183 =>
                  intro j hj hfu183 H locs hP hS ls hl
                  refine lv_iload hx hb dX5_truth_183 (lv_at hl 9 rfl) ?_
                  refine lv_aload_n hx hb dX5_truth_185 rfl (lv_at hl 0 rfl) ?_
                  refine va_get (D := D) (ci := 5) (v := .int (u_51 0 1)) (C := RX5) (T := TX5) (N := 15) hx hb hts hinX5 hown hK1 hP 0 rfl rfl 1 (by decide) (hts (.fieldLink RX5 48 "KnowledgeModelModel" "worlds" "I") (List.mem_of_getElem? (i := 7) rfl)) (fun _ h9 => h9) rfl dX5_truth_186 ?_
                  refine xtop (y := nI n) (hk_52) ?_
                  refine lv_icmp_ge (tgt := 342) hx hb dX5_truth_189 (by decide) (fun c189 => ?_) (fun c189 => ?_)
                  ·
                    replace c189 : n ≤ j := k_get c189 (by omega) (by omega)
                    have hje : j = n := by omega
                    have hval : (fo (fun w r => if bt mo w && decide ((reachR M0 n (M0 4 f) w mo &&& mo &&& (semR M0 n kd p1 p2 sb ag mo (p1 f) ^^^ (-1))) = 0) then r ||| sg w else r) (nI 0) j) = semR M0 n kd p1 p2 sb ag mo f := by rw [semR_eq hwp hf]; simp only [askR, hkd, if_true, if_false, show (1 : Nat) ≠ 0 by decide, show (2 : Nat) ≠ 0 by decide, show (2 : Nat) ≠ 1 by decide, show (3 : Nat) ≠ 0 by decide, show (3 : Nat) ≠ 1 by decide, show (3 : Nat) ≠ 2 by decide, show (3 : Nat) ≠ 6 by decide, show (4 : Nat) ≠ 0 by decide, show (4 : Nat) ≠ 1 by decide, show (4 : Nat) ≠ 2 by decide, show (4 : Nat) ≠ 3 by decide, show (4 : Nat) ≠ 6 by decide, show (5 : Nat) ≠ 0 by decide, show (5 : Nat) ≠ 1 by decide, show (5 : Nat) ≠ 2 by decide, show (5 : Nat) ≠ 3 by decide, show (5 : Nat) ≠ 4 by decide, show (5 : Nat) ≠ 6 by decide, show (6 : Nat) ≠ 0 by decide, show (6 : Nat) ≠ 1 by decide, show (6 : Nat) ≠ 2 by decide, hje]
                    refine lv_aload_n hx hb dX5_truth_342 rfl (lv_at hl 0 rfl) ?_
                    refine va_get (D := D) (ci := 5) (v := .ref (b 10)) (C := RX5) (T := TX5) (N := 15) hx hb hts hinX5 hown hK1 hP 0 rfl rfl 13 (by decide) (hts (.fieldLink RX5 38 "KnowledgeModelModel" "truths" "[I") (List.mem_of_getElem? (i := 2) rfl)) (fun _ h9 => h9) rfl dX5_truth_343 ?_
                    refine lv_iload_n hx hb dX5_truth_346 rfl (lv_at hl 3 rfl) ?_
                    refine lv_iload hx hb dX5_truth_347 (lv_at hl 7 rfl) ?_
                    refine lv_topi (fun x_54 hx_54 => ?_)
                    refine xiast (j := (40 * lv) + f) (q0 := 10) (t0 := 0) (ws' := rc cs b (wr u_51 10 ((40 * lv) + f) x_54)) hx hb hK1 hP (rD hI) hS rfl rfl (by omega) (by decide) rs_10 dX5_truth_349 (fun H locs hP hS => ?_)
                    obtain ⟨M_55, hM_55⟩ : ∃ z, z = wr u_51 10 ((40 * lv) + f) x_54 := ⟨_, rfl⟩
                    rw [← hM_55] at hP
                    have hk_56 : M_55 0 1 = nI n := by rw [hM_55]; exact (wr_ne (Or.inl (by omega))).trans hk_52
                    have hk_57 : M_55 0 3 = nI nf := by rw [hM_55]; exact (wr_ne (Or.inl (by omega))).trans hk_53
                    refine lv_aload_n hx hb dX5_truth_350 rfl (lv_at hl 0 rfl) ?_
                    refine va_get (D := D) (ci := 5) (v := .ref (b 9)) (C := RX5) (T := TX5) (N := 15) hx hb hts hinX5 hown hK1 hP 0 rfl rfl 12 (by decide) (hts (.fieldLink RX5 34 "KnowledgeModelModel" "areKnown" "[Z") (List.mem_of_getElem? (i := 1) rfl)) (fun _ h9 => h9) rfl dX5_truth_351 ?_
                    refine lv_iload_n hx hb dX5_truth_354 rfl (lv_at hl 3 rfl) ?_
                    refine lv_iconst (v := (nI 1)) hx hb dX5_truth_355 (by decide) ?_
                    refine xzast (j := (40 * lv) + f) (q0 := 9) (t0 := 3) (ws' := rc cs b (wr M_55 9 ((40 * lv) + f) (nI 1))) hx hb hK1 hP (rD hI) hS rfl rfl (by omega) (by decide) (by decide) rs_9 dX5_truth_356 (fun H locs hP hS => ?_)
                    obtain ⟨M_58, hM_58⟩ : ∃ z, z = wr M_55 9 ((40 * lv) + f) (nI 1) := ⟨_, rfl⟩
                    rw [← hM_58] at hP
                    have hk_59 : M_58 0 1 = nI n := by rw [hM_58]; exact (wr_ne (Or.inl (by omega))).trans hk_56
                    have hk_60 : M_58 0 3 = nI nf := by rw [hM_58]; exact (wr_ne (Or.inl (by omega))).trans hk_57
                    refine lv_iload hx hb dX5_truth_357 (lv_at hl 7 rfl) ?_
                    subst hQ
                    have hrel : TR M0 M n nf kd p1 p2 sb ag lv mo M_58 := by first | exact TR_r hti | (simp only [fo_0, c13, c57, c87, c115, c164, c189, hx_54, hM_55, hM_58]; exact TR_w (TR_r hti) hf hval) | (simp only [fo_0, c13, c57, c87, c115, c164, c189, hx_54, hM_55, hM_58]; exact TR_w hu_51 hf hval) | (simp only [fo_0, c13, c57, c87, c115, c164, c189, hx_54, hM_55, hM_58]; exact TR_w (TR_t hu_51 hu_51) hf hval) | (simp only [fo_0, c13, c57, c87, c115, c164, c189, hx_54, hM_55, hM_58]; exact TR_w (TR_b hu_51 hf40 (by simpa only [fo_0, c13, c57, c87, c115, c164, c189, hx_54, hM_55, hM_58] using hu_51)) hf hval)
                    have hfin : (fo (fun w r => if bt mo w && decide ((reachR M0 n (M0 4 f) w mo &&& mo &&& (semR M0 n kd p1 p2 sb ag mo (p1 f) ^^^ (-1))) = 0) then r ||| sg w else r) (nI 0) j) = semR M0 n kd p1 p2 sb ag mo f := by first | exact hval | rfl
                    exact W.iret hx hb hr (fun t ht hW => ⟨⟨_, M_58, rfl, ⟨hfin, hrel⟩, by rw [← ht] at hP; exact hP⟩, hS.F ht⟩) hS.2.2 dX5_truth_359
                  ·
                    replace c189 : j < n := k_gef c189 (by omega) (by omega)
                    refine lv_iload hx hb dX5_truth_192 (lv_at hl 4 rfl) ?_
                    refine lv_iload hx hb dX5_truth_194 (lv_at hl 9 rfl) ?_
                    refine xcalli (va_runS (As := [.int mo, .int (nI j)]) (rest := []) ⟨hx, hb, hml, hown, hts⟩ (c_X5_has l mo j (by omega)) (va_cwS 2 hts gX5_truth_X5_has rfl rfl rfl (by decide +kernel) ⟨by dsimp only; omega, by dsimp only; omega⟩) xpreN rfl rfl hl.1 rfl (lv_room (Nat.le_of_ble_eq_true rfl)) dX5_truth_196 ⟨Nat.le_of_ble_eq_true rfl, Nat.le_of_ble_eq_true rfl⟩) hS hP (fun H locs hP hS => ?_)
                    refine lv_if_ne (tgt := 205) hx hb dX5_truth_199 (by decide) (fun c199 => ?_) (fun c199 => ?_)
                    ·
                      replace c199 := bI_n0 c199
                      refine lv_aload_n hx hb dX5_truth_205 rfl (lv_at hl 0 rfl) ?_
                      refine va_get (D := D) (ci := 5) (v := .ref (b 3)) (C := RX5) (T := TX5) (N := 15) hx hb hts hinX5 hown hK1 hP 0 rfl rfl 6 (by decide) (hts (.fieldLink RX5 16 "KnowledgeModelModel" "kinds" "[I") (List.mem_of_getElem? (i := 6) rfl)) (fun _ h9 => h9) rfl dX5_truth_206 ?_
                      refine lv_iload_n hx hb dX5_truth_209 rfl (lv_at hl 2 rfl) ?_
                      refine xiald (j := f) (q0 := 3) (t0 := 0) hx hb hK1 hP rfl rfl (by omega) (by decide) dX5_truth_210 ?_
                      refine xtop (y := (nI 4)) (by exact (((Ag8_t hag hu_51) 3 f (by decide)).trans hk3).trans (congrArg nI hkd)) ?_
                      refine lv_iconst (v := (nI 3)) hx hb dX5_truth_211 (by decide) ?_
                      refine lv_icmp_ne (tgt := 231) hx hb dX5_truth_212 (by decide) (fun c212 => ?_) (fun c212 => ?_)
                      ·
                        replace c212 : ¬ 4 = 3 := k_net c212 (by omega) (by omega)
                        refine lv_aload_n hx hb dX5_truth_231 rfl (lv_at hl 0 rfl) ?_
                        refine va_get (D := D) (ci := 5) (v := .ref (b 3)) (C := RX5) (T := TX5) (N := 15) hx hb hts hinX5 hown hK1 hP 0 rfl rfl 6 (by decide) (hts (.fieldLink RX5 16 "KnowledgeModelModel" "kinds" "[I") (List.mem_of_getElem? (i := 6) rfl)) (fun _ h9 => h9) rfl dX5_truth_232 ?_
                        refine lv_iload_n hx hb dX5_truth_235 rfl (lv_at hl 2 rfl) ?_
                        refine xiald (j := f) (q0 := 3) (t0 := 0) hx hb hK1 hP rfl rfl (by omega) (by decide) dX5_truth_236 ?_
                        refine xtop (y := (nI 4)) (by exact (((Ag8_t hag hu_51) 3 f (by decide)).trans hk3).trans (congrArg nI hkd)) ?_
                        refine lv_iconst (v := (nI 4)) hx hb dX5_truth_237 (by decide) ?_
                        refine lv_icmp_ne (tgt := 254) hx hb dX5_truth_238 (by decide) (fun c238 => ?_) (fun c238 => ?_)
                        ·
                          replace c238 : ¬ 4 = 4 := k_net c238 (by omega) (by omega)
                          exfalso; omega
                        ·
                          replace c238 : 4 = 4 := k_nef c238 (by omega) (by omega)
                          refine lv_aload_n hx hb dX5_truth_241 rfl (lv_at hl 0 rfl) ?_
                          refine lv_iload hx hb dX5_truth_242 (lv_at hl 5 rfl) ?_
                          refine lv_iload hx hb dX5_truth_244 (lv_at hl 9 rfl) ?_
                          refine lv_iload hx hb dX5_truth_246 (lv_at hl 4 rfl) ?_
                          refine xcalli (va_runV (As := [.int (M0 4 f), .int (nI j), .int mo]) (rest := []) ⟨hx, hb, hml, hown, hts⟩ (c_X5_reach l D cs b u_51 n (M0 4 f) j mo hk_52 (by omega)) (cwV 3 hts gX5_truth_X5_reach rfl rfl rfl (by decide +kernel) ⟨by dsimp only; omega, by dsimp only; omega⟩) (xpreV hP hK (ci := 5) 0 rfl rfl) rfl rfl hl.1 rfl (lv_room (Nat.le_of_ble_eq_true rfl)) dX5_truth_248 ⟨Nat.le_of_ble_eq_true rfl, Nat.le_of_ble_eq_true rfl⟩) hS hP (fun H locs hP hS => ?_)
                          refine xtop (y := (reachR M0 n (M0 4 f) j mo)) (by exact reachR_c (Ag8_t hag hu_51)) ?_
                          refine lv_goto (tgt := 276) hx hb dX5_truth_251 (by decide) ?_
                          refine lv_istore (lv' := [(10, .int (reachR M0 n (M0 4 f) j mo)), (0, .ref (b 0)), (1, .int (nI lv)), (2, .int (nI f)), (3, .int (nI ((40 * lv) + f))), (4, .int mo), (5, .int (M0 4 f)), (6, .int (nI (p1 f))), (7, .int (fo (fun w r => if bt mo w && decide ((reachR M0 n (M0 4 f) w mo &&& mo &&& (semR M0 n kd p1 p2 sb ag mo (p1 f) ^^^ (-1))) = 0) then r ||| sg w else r) (nI 0) j)), (8, .int (semR M0 n kd p1 p2 sb ag mo (p1 f))), (9, .int (nI j))]) hx hb dX5_truth_276 hl (by decide) rfl (fun ls hl => ?_)
                          refine lv_aload_n hx hb dX5_truth_278 rfl (lv_at hl 1 rfl) ?_
                          refine va_get (D := D) (ci := 5) (v := .ref (b 3)) (C := RX5) (T := TX5) (N := 15) hx hb hts hinX5 hown hK1 hP 0 rfl rfl 6 (by decide) (hts (.fieldLink RX5 16 "KnowledgeModelModel" "kinds" "[I") (List.mem_of_getElem? (i := 6) rfl)) (fun _ h9 => h9) rfl dX5_truth_279 ?_
                          refine lv_iload_n hx hb dX5_truth_282 rfl (lv_at hl 3 rfl) ?_
                          refine xiald (j := f) (q0 := 3) (t0 := 0) hx hb hK1 hP rfl rfl (by omega) (by decide) dX5_truth_283 ?_
                          refine xtop (y := (nI 4)) (by exact (((Ag8_t hag hu_51) 3 f (by decide)).trans hk3).trans (congrArg nI hkd)) ?_
                          refine lv_if_ne (tgt := 302) hx hb dX5_truth_284 (by decide) (fun c284 => ?_) (fun c284 => ?_)
                          ·
                            replace c284 : ¬ 4 = 0 := k0_net c284 (by omega)
                            refine lv_iload hx hb dX5_truth_302 (lv_at hl 0 rfl) ?_
                            refine lv_iload hx hb dX5_truth_304 (lv_at hl 5 rfl) ?_
                            refine lv_iand hx hb dX5_truth_306 ?_
                            refine lv_iload hx hb dX5_truth_307 (lv_at hl 9 rfl) ?_
                            refine lv_iconst (v := (-1 : Int32)) hx hb dX5_truth_309 (by decide) ?_
                            refine lv_ixor hx hb dX5_truth_310 ?_
                            refine lv_iand hx hb dX5_truth_311 ?_
                            refine lv_if_ne (tgt := 319) hx hb dX5_truth_312 (by decide) (fun c312 => ?_) (fun c312 => ?_)
                            ·
                              refine lv_iconst (v := (nI 0)) hx hb dX5_truth_319 (by decide) ?_
                              refine lv_istore (lv' := [(11, .int (nI 0)), (10, .int (reachR M0 n (M0 4 f) j mo)), (0, .ref (b 0)), (1, .int (nI lv)), (2, .int (nI f)), (3, .int (nI ((40 * lv) + f))), (4, .int mo), (5, .int (M0 4 f)), (6, .int (nI (p1 f))), (7, .int (fo (fun w r => if bt mo w && decide ((reachR M0 n (M0 4 f) w mo &&& mo &&& (semR M0 n kd p1 p2 sb ag mo (p1 f) ^^^ (-1))) = 0) then r ||| sg w else r) (nI 0) j)), (8, .int (semR M0 n kd p1 p2 sb ag mo (p1 f))), (9, .int (nI j))]) hx hb dX5_truth_320 hl (by decide) rfl (fun ls hl => ?_)
                              refine lv_iload hx hb dX5_truth_322 (lv_at hl 0 rfl) ?_
                              refine lv_if_eq (tgt := 336) hx hb dX5_truth_324 (by decide) (fun c324 => ?_) (fun c324 => ?_)
                              ·
                                replace c324 : 0 = 0 := k0_eqt c324 (by omega)
                                refine lv_iinc (v := (nI (j + 1))) (lv' := [(9, .int (nI (j + 1))), (11, .int (nI 0)), (10, .int (reachR M0 n (M0 4 f) j mo)), (0, .ref (b 0)), (1, .int (nI lv)), (2, .int (nI f)), (3, .int (nI ((40 * lv) + f))), (4, .int mo), (5, .int (M0 4 f)), (6, .int (nI (p1 f))), (7, .int (fo (fun w r => if bt mo w && decide ((reachR M0 n (M0 4 f) w mo &&& mo &&& (semR M0 n kd p1 p2 sb ag mo (p1 f) ^^^ (-1))) = 0) then r ||| sg w else r) (nI 0) j)), (8, .int (semR M0 n kd p1 p2 sb ag mo (p1 f)))]) hx hb dX5_truth_336 hl (k := 11) rfl (nI_add j 1) (by decide) rfl (fun ls hl => ?_)
                                refine lv_goto (tgt := 183) hx hb dX5_truth_339 (by decide) ?_
                                have e_61 : (fo (fun w r => if bt mo w && decide ((reachR M0 n (M0 4 f) w mo &&& mo &&& (semR M0 n kd p1 p2 sb ag mo (p1 f) ^^^ (-1))) = 0) then r ||| sg w else r) (nI 0) j) = (fo (fun w r => if bt mo w && decide ((reachR M0 n (M0 4 f) w mo &&& mo &&& (semR M0 n kd p1 p2 sb ag mo (p1 f) ^^^ (-1))) = 0) then r ||| sg w else r) (nI 0) (j + 1)) := by first | (rw [fo_s, if_neg (by rw [c199]; exact Bool.false_ne_true)]; done) | (rw [fo_s, if_pos (by rw [c199, decide_eq_true c312]; rfl)]; assumption) | (rw [fo_s, if_neg (by rw [c199, decide_eq_false c312]; exact Bool.false_ne_true)]; done)
                                exact cut183 (j + 1) (by omega) (by omega) _ _ hP hS ls (lcons (lcons (lcons (lcons (lcons (lcons (lcons (lcons (lcons (lcons (lzero hl) hl 0 rfl rfl) hl 11 rfl rfl) hl 10 rfl (congrArg Value.int e_61)) hl 9 rfl rfl) hl 8 rfl rfl) hl 7 rfl rfl) hl 6 rfl rfl) hl 5 rfl rfl) hl 4 rfl rfl) hl 3 rfl rfl)
                              ·
                                replace c324 : ¬ 0 = 0 := k0_eqf c324 (by omega)
                                exfalso; omega
                            ·
                              refine lv_iconst (v := (nI 1)) hx hb dX5_truth_315 (by decide) ?_
                              refine lv_goto (tgt := 320) hx hb dX5_truth_316 (by decide) ?_
                              refine lv_istore (lv' := [(11, .int (nI 1)), (10, .int (reachR M0 n (M0 4 f) j mo)), (0, .ref (b 0)), (1, .int (nI lv)), (2, .int (nI f)), (3, .int (nI ((40 * lv) + f))), (4, .int mo), (5, .int (M0 4 f)), (6, .int (nI (p1 f))), (7, .int (fo (fun w r => if bt mo w && decide ((reachR M0 n (M0 4 f) w mo &&& mo &&& (semR M0 n kd p1 p2 sb ag mo (p1 f) ^^^ (-1))) = 0) then r ||| sg w else r) (nI 0) j)), (8, .int (semR M0 n kd p1 p2 sb ag mo (p1 f))), (9, .int (nI j))]) hx hb dX5_truth_320 hl (by decide) rfl (fun ls hl => ?_)
                              refine lv_iload hx hb dX5_truth_322 (lv_at hl 0 rfl) ?_
                              refine lv_if_eq (tgt := 336) hx hb dX5_truth_324 (by decide) (fun c324 => ?_) (fun c324 => ?_)
                              ·
                                replace c324 : 1 = 0 := k0_eqt c324 (by omega)
                                exfalso; omega
                              ·
                                replace c324 : ¬ 1 = 0 := k0_eqf c324 (by omega)
                                refine lv_iload hx hb dX5_truth_327 (lv_at hl 9 rfl) ?_
                                refine lv_iconst (v := (nI 1)) hx hb dX5_truth_329 (by decide) ?_
                                refine lv_iload hx hb dX5_truth_330 (lv_at hl 11 rfl) ?_
                                refine lv_ishl hx hb dX5_truth_332 ?_
                                refine lv_ior hx hb dX5_truth_333 ?_
                                refine lv_topi (fun x_62 hx_62 => ?_)
                                refine lv_istore (lv' := [(7, .int x_62), (11, .int (nI 1)), (10, .int (reachR M0 n (M0 4 f) j mo)), (0, .ref (b 0)), (1, .int (nI lv)), (2, .int (nI f)), (3, .int (nI ((40 * lv) + f))), (4, .int mo), (5, .int (M0 4 f)), (6, .int (nI (p1 f))), (8, .int (semR M0 n kd p1 p2 sb ag mo (p1 f))), (9, .int (nI j))]) hx hb dX5_truth_334 hl (by decide) rfl (fun ls hl => ?_)
                                refine lv_iinc (v := (nI (j + 1))) (lv' := [(9, .int (nI (j + 1))), (7, .int x_62), (11, .int (nI 1)), (10, .int (reachR M0 n (M0 4 f) j mo)), (0, .ref (b 0)), (1, .int (nI lv)), (2, .int (nI f)), (3, .int (nI ((40 * lv) + f))), (4, .int mo), (5, .int (M0 4 f)), (6, .int (nI (p1 f))), (8, .int (semR M0 n kd p1 p2 sb ag mo (p1 f)))]) hx hb dX5_truth_336 hl (k := 11) rfl (nI_add j 1) (by decide) rfl (fun ls hl => ?_)
                                refine lv_goto (tgt := 183) hx hb dX5_truth_339 (by decide) ?_
                                have e_63 : x_62 = (fo (fun w r => if bt mo w && decide ((reachR M0 n (M0 4 f) w mo &&& mo &&& (semR M0 n kd p1 p2 sb ag mo (p1 f) ^^^ (-1))) = 0) then r ||| sg w else r) (nI 0) (j + 1)) := by first | (rw [fo_s, if_neg (by rw [c199]; exact Bool.false_ne_true)]; done) | (rw [fo_s, if_pos (by rw [c199, decide_eq_true c312]; rfl)]; assumption) | (rw [fo_s, if_neg (by rw [c199, decide_eq_false c312]; exact Bool.false_ne_true)]; done)
                                exact cut183 (j + 1) (by omega) (by omega) _ _ hP hS ls (lcons (lcons (lcons (lcons (lcons (lcons (lcons (lcons (lcons (lcons (lzero hl) hl 0 rfl rfl) hl 11 rfl rfl) hl 1 rfl (congrArg Value.int e_63)) hl 10 rfl rfl) hl 9 rfl rfl) hl 8 rfl rfl) hl 7 rfl rfl) hl 6 rfl rfl) hl 5 rfl rfl) hl 4 rfl rfl)
                          ·
                            replace c284 : 4 = 0 := k0_nef c284 (by omega)
                            exfalso; omega
                      ·
                        replace c212 : 4 = 3 := k_nef c212 (by omega) (by omega)
                        exfalso; omega
                    ·
                      replace c199 := bI_0 c199
                      refine lv_goto (tgt := 336) hx hb dX5_truth_202 (by decide) ?_
                      refine lv_iinc (v := (nI (j + 1))) (lv' := [(9, .int (nI (j + 1))), (0, .ref (b 0)), (1, .int (nI lv)), (2, .int (nI f)), (3, .int (nI ((40 * lv) + f))), (4, .int mo), (5, .int (M0 4 f)), (6, .int (nI (p1 f))), (7, .int (fo (fun w r => if bt mo w && decide ((reachR M0 n (M0 4 f) w mo &&& mo &&& (semR M0 n kd p1 p2 sb ag mo (p1 f) ^^^ (-1))) = 0) then r ||| sg w else r) (nI 0) j)), (8, .int (semR M0 n kd p1 p2 sb ag mo (p1 f)))]) hx hb dX5_truth_336 hl (k := 9) rfl (nI_add j 1) (by decide) rfl (fun ls hl => ?_)
                      refine lv_goto (tgt := 183) hx hb dX5_truth_339 (by decide) ?_
                      have e_64 : (fo (fun w r => if bt mo w && decide ((reachR M0 n (M0 4 f) w mo &&& mo &&& (semR M0 n kd p1 p2 sb ag mo (p1 f) ^^^ (-1))) = 0) then r ||| sg w else r) (nI 0) j) = (fo (fun w r => if bt mo w && decide ((reachR M0 n (M0 4 f) w mo &&& mo &&& (semR M0 n kd p1 p2 sb ag mo (p1 f) ^^^ (-1))) = 0) then r ||| sg w else r) (nI 0) (j + 1)) := by first | (rw [fo_s, if_neg (by rw [c199]; exact Bool.false_ne_true)]; done) | (rw [fo_s, if_pos (by rw [c199, decide_eq_true c312]; rfl)]; assumption) | (rw [fo_s, if_neg (by rw [c199, decide_eq_false c312]; exact Bool.false_ne_true)]; done)
                      exact cut183 (j + 1) (by omega) (by omega) _ _ hP hS ls (lcons (lcons (lcons (lcons (lcons (lcons (lcons (lcons (lcons (lcons (lzero hl) hl 0 rfl rfl) hl 9 rfl rfl) hl 8 rfl (congrArg Value.int e_64)) hl 7 rfl rfl) hl 6 rfl rfl) hl 5 rfl rfl) hl 4 rfl rfl) hl 3 rfl rfl) hl 2 rfl rfl) hl 1 rfl rfl)
              have e_65 : (nI 0) = (fo (fun w r => if bt mo w && decide ((reachR M0 n (M0 4 f) w mo &&& mo &&& (semR M0 n kd p1 p2 sb ag mo (p1 f) ^^^ (-1))) = 0) then r ||| sg w else r) (nI 0) 0) := by rfl
              exact cut183 (n + 1) 0 (by omega) (by omega) _ _ hP hS ls (lcons (lcons (lcons (lcons (lcons (lcons (lcons (lcons (lcons (lcons (lzero hl) hl 0 rfl rfl) hl 1 rfl rfl) hl 2 rfl (congrArg Value.int e_65)) hl 3 rfl rfl) hl 4 rfl rfl) hl 5 rfl rfl) hl 6 rfl rfl) hl 9 rfl rfl) hl 8 rfl rfl) hl 7 rfl rfl)
            ·
              replace c164 : 4 = 0 := k0_nef c164 (by omega)
              exfalso; omega
          ·
            replace c115 : 4 = 6 := k_nef c115 (by omega) (by omega)
            exfalso; omega
        ·
          replace c87 : 4 = 1 := k_nef c87 (by omega) (by omega)
          exfalso; omega
      ·
        replace c57 : 4 = 2 := k_nef c57 (by omega) (by omega)
        exfalso; omega
    ·
      refine lv_aload_n hx hb dX5_truth_16 rfl (lv_at hl 1 rfl) ?_
      refine va_get (D := D) (ci := 5) (v := .ref (b 10)) (C := RX5) (T := TX5) (N := 15) hx hb hts hinX5 hown hK1 hP 0 rfl rfl 13 (by decide) (hts (.fieldLink RX5 38 "KnowledgeModelModel" "truths" "[I") (List.mem_of_getElem? (i := 2) rfl)) (fun _ h9 => h9) rfl dX5_truth_17 ?_
      refine lv_iload_n hx hb dX5_truth_20 rfl (lv_at hl 0 rfl) ?_
      refine xiald (j := (40 * lv) + f) (q0 := 10) (t0 := 0) hx hb hK1 hP rfl rfl (by omega) (by decide) dX5_truth_21 ?_
      refine xtop (y := (semR M0 n kd p1 p2 sb ag mo f)) (by exact ((hti.2 f hf).resolve_left c13).2) ?_
      subst hQ
      have hrel : TR M0 M n nf kd p1 p2 sb ag lv mo M := by first | exact TR_r hti | (simp only [fo_0, c13]; exact TR_w (TR_r hti) hf hval) | (simp only [fo_0, c13]; exact TR_w trivial hf hval) | (simp only [fo_0, c13]; exact TR_w (TR_t trivial trivial) hf hval) | (simp only [fo_0, c13]; exact TR_w (TR_b trivial hf40 (by simpa only [fo_0, c13] using trivial)) hf hval)
      have hfin : (semR M0 n kd p1 p2 sb ag mo f) = semR M0 n kd p1 p2 sb ag mo f := by first | exact hval | rfl
      exact W.iret hx hb hr (fun t ht hW => ⟨⟨_, M, rfl, ⟨hfin, hrel⟩, by rw [← ht] at hP; exact hP⟩, hS.F ht⟩) hS.2.2 dX5_truth_22
  ·
    have hq1 := hL.1 (by omega)
    have hz1 := hE1 (by omega)
    have hB1 := hB (by omega)
    refine lv_bipush (v := (nI 40)) hx hb dX5_truth_0 (by decide) ?_
    refine lv_iload_n hx hb dX5_truth_2 rfl (lv_at hl 1 rfl) ?_
    refine ximul hx hb dX5_truth_3 ?_
    refine lv_iload_n hx hb dX5_truth_4 rfl (lv_at hl 2 rfl) ?_
    refine xiadd hx hb dX5_truth_5 ?_
    refine lv_istore_n (lv' := [(3, .int (nI ((40 * lv) + f))), (0, .ref (b 0)), (1, .int (nI lv)), (2, .int (nI f))]) hx hb dX5_truth_6 rfl hl (by decide) rfl (fun ls hl => ?_)
    refine lv_aload_n hx hb dX5_truth_7 rfl (lv_at hl 1 rfl) ?_
    refine va_get (D := D) (ci := 5) (v := .ref (b 9)) (C := RX5) (T := TX5) (N := 15) hx hb hts hinX5 hown hK1 hP 0 rfl rfl 12 (by decide) (hts (.fieldLink RX5 34 "KnowledgeModelModel" "areKnown" "[Z") (List.mem_of_getElem? (i := 1) rfl)) (fun _ h9 => h9) rfl dX5_truth_8 ?_
    refine lv_iload_n hx hb dX5_truth_11 rfl (lv_at hl 0 rfl) ?_
    refine xzald (j := (40 * lv) + f) (q0 := 9) (t0 := 3) hx hb hK1 hP rfl rfl (by omega) (by decide) dX5_truth_12 ?_
    refine lv_if_eq (tgt := 23) hx hb dX5_truth_13 (by decide) (fun c13 => ?_) (fun c13 => ?_)
    ·
      refine lv_aload_n hx hb dX5_truth_23 rfl (lv_at hl 1 rfl) ?_
      refine va_get (D := D) (ci := 5) (v := .ref (b 8)) (C := RX5) (T := TX5) (N := 15) hx hb hts hinX5 hown hK1 hP 0 rfl rfl 11 (by decide) (hts (.fieldLink RX5 31 "KnowledgeModelModel" "lefts" "[I") (List.mem_of_getElem? (i := 3) rfl)) (fun _ h9 => h9) rfl dX5_truth_24 ?_
      refine lv_iload_n hx hb dX5_truth_27 rfl (lv_at hl 2 rfl) ?_
      refine xiald (j := lv) (q0 := 8) (t0 := 0) hx hb hK1 hP rfl rfl (by omega) (by decide) dX5_truth_28 ?_
      refine xtop (y := mo) (by exact hti.1) ?_
      refine lv_istore (lv' := [(4, .int mo), (3, .int (nI ((40 * lv) + f))), (0, .ref (b 0)), (1, .int (nI lv)), (2, .int (nI f))]) hx hb dX5_truth_29 hl (by decide) rfl (fun ls hl => ?_)
      refine lv_aload_n hx hb dX5_truth_31 rfl (lv_at hl 2 rfl) ?_
      refine va_get (D := D) (ci := 5) (v := .ref (b 4)) (C := RX5) (T := TX5) (N := 15) hx hb hts hinX5 hown hK1 hP 0 rfl rfl 7 (by decide) (hts (.fieldLink RX5 19 "KnowledgeModelModel" "firsts" "[I") (List.mem_of_getElem? (i := 4) rfl)) (fun _ h9 => h9) rfl dX5_truth_32 ?_
      refine lv_iload_n hx hb dX5_truth_35 rfl (lv_at hl 4 rfl) ?_
      refine xiald (j := f) (q0 := 4) (t0 := 0) hx hb hK1 hP rfl rfl (by omega) (by decide) dX5_truth_36 ?_
      refine xtop (y := (M0 4 f)) (by exact hag 4 f (by decide)) ?_
      refine lv_istore (lv' := [(5, .int (M0 4 f)), (4, .int mo), (3, .int (nI ((40 * lv) + f))), (0, .ref (b 0)), (1, .int (nI lv)), (2, .int (nI f))]) hx hb dX5_truth_37 hl (by decide) rfl (fun ls hl => ?_)
      refine lv_aload_n hx hb dX5_truth_39 rfl (lv_at hl 3 rfl) ?_
      refine va_get (D := D) (ci := 5) (v := .ref (b 5)) (C := RX5) (T := TX5) (N := 15) hx hb hts hinX5 hown hK1 hP 0 rfl rfl 8 (by decide) (hts (.fieldLink RX5 22 "KnowledgeModelModel" "seconds" "[I") (List.mem_of_getElem? (i := 5) rfl)) (fun _ h9 => h9) rfl dX5_truth_40 ?_
      refine lv_iload_n hx hb dX5_truth_43 rfl (lv_at hl 5 rfl) ?_
      refine xiald (j := f) (q0 := 5) (t0 := 0) hx hb hK1 hP rfl rfl (by omega) (by decide) dX5_truth_44 ?_
      refine xtop (y := (nI (p1 f))) (by exact (hag 5 f (by decide)).trans hB1) ?_
      refine lv_istore (lv' := [(6, .int (nI (p1 f))), (5, .int (M0 4 f)), (4, .int mo), (3, .int (nI ((40 * lv) + f))), (0, .ref (b 0)), (1, .int (nI lv)), (2, .int (nI f))]) hx hb dX5_truth_45 hl (by decide) rfl (fun ls hl => ?_)
      refine lv_iconst (v := (nI 0)) hx hb dX5_truth_47 (by decide) ?_
      refine lv_istore (lv' := [(7, .int (nI 0)), (6, .int (nI (p1 f))), (5, .int (M0 4 f)), (4, .int mo), (3, .int (nI ((40 * lv) + f))), (0, .ref (b 0)), (1, .int (nI lv)), (2, .int (nI f))]) hx hb dX5_truth_48 hl (by decide) rfl (fun ls hl => ?_)
      refine lv_aload_n hx hb dX5_truth_50 rfl (lv_at hl 5 rfl) ?_
      refine va_get (D := D) (ci := 5) (v := .ref (b 3)) (C := RX5) (T := TX5) (N := 15) hx hb hts hinX5 hown hK1 hP 0 rfl rfl 6 (by decide) (hts (.fieldLink RX5 16 "KnowledgeModelModel" "kinds" "[I") (List.mem_of_getElem? (i := 6) rfl)) (fun _ h9 => h9) rfl dX5_truth_51 ?_
      refine lv_iload_n hx hb dX5_truth_54 rfl (lv_at hl 7 rfl) ?_
      refine xiald (j := f) (q0 := 3) (t0 := 0) hx hb hK1 hP rfl rfl (by omega) (by decide) dX5_truth_55 ?_
      refine xtop (y := (nI 5)) (by exact ((hag 3 f (by decide)).trans hk3).trans (congrArg nI hkd)) ?_
      refine lv_iconst (v := (nI 2)) hx hb dX5_truth_56 (by decide) ?_
      refine lv_icmp_ne (tgt := 80) hx hb dX5_truth_57 (by decide) (fun c57 => ?_) (fun c57 => ?_)
      ·
        replace c57 : ¬ 5 = 2 := k_net c57 (by omega) (by omega)
        refine lv_aload_n hx hb dX5_truth_80 rfl (lv_at hl 5 rfl) ?_
        refine va_get (D := D) (ci := 5) (v := .ref (b 3)) (C := RX5) (T := TX5) (N := 15) hx hb hts hinX5 hown hK1 hP 0 rfl rfl 6 (by decide) (hts (.fieldLink RX5 16 "KnowledgeModelModel" "kinds" "[I") (List.mem_of_getElem? (i := 6) rfl)) (fun _ h9 => h9) rfl dX5_truth_81 ?_
        refine lv_iload_n hx hb dX5_truth_84 rfl (lv_at hl 7 rfl) ?_
        refine xiald (j := f) (q0 := 3) (t0 := 0) hx hb hK1 hP rfl rfl (by omega) (by decide) dX5_truth_85 ?_
        refine xtop (y := (nI 5)) (by exact ((hag 3 f (by decide)).trans hk3).trans (congrArg nI hkd)) ?_
        refine lv_iconst (v := (nI 1)) hx hb dX5_truth_86 (by decide) ?_
        refine lv_icmp_ne (tgt := 107) hx hb dX5_truth_87 (by decide) (fun c87 => ?_) (fun c87 => ?_)
        ·
          replace c87 : ¬ 5 = 1 := k_net c87 (by omega) (by omega)
          refine lv_aload_n hx hb dX5_truth_107 rfl (lv_at hl 5 rfl) ?_
          refine va_get (D := D) (ci := 5) (v := .ref (b 3)) (C := RX5) (T := TX5) (N := 15) hx hb hts hinX5 hown hK1 hP 0 rfl rfl 6 (by decide) (hts (.fieldLink RX5 16 "KnowledgeModelModel" "kinds" "[I") (List.mem_of_getElem? (i := 6) rfl)) (fun _ h9 => h9) rfl dX5_truth_108 ?_
          refine lv_iload_n hx hb dX5_truth_111 rfl (lv_at hl 7 rfl) ?_
          refine xiald (j := f) (q0 := 3) (t0 := 0) hx hb hK1 hP rfl rfl (by omega) (by decide) dX5_truth_112 ?_
          refine xtop (y := (nI 5)) (by exact ((hag 3 f (by decide)).trans hk3).trans (congrArg nI hkd)) ?_
          refine lv_bipush (v := (nI 6)) hx hb dX5_truth_113 (by decide) ?_
          refine lv_icmp_ne (tgt := 158) hx hb dX5_truth_115 (by decide) (fun c115 => ?_) (fun c115 => ?_)
          ·
            replace c115 : ¬ 5 = 6 := k_net c115 (by omega) (by omega)
            refine lv_aload_n hx hb dX5_truth_158 rfl (lv_at hl 5 rfl) ?_
            refine va_get (D := D) (ci := 5) (v := .ref (b 3)) (C := RX5) (T := TX5) (N := 15) hx hb hts hinX5 hown hK1 hP 0 rfl rfl 6 (by decide) (hts (.fieldLink RX5 16 "KnowledgeModelModel" "kinds" "[I") (List.mem_of_getElem? (i := 6) rfl)) (fun _ h9 => h9) rfl dX5_truth_159 ?_
            refine lv_iload_n hx hb dX5_truth_162 rfl (lv_at hl 7 rfl) ?_
            refine xiald (j := f) (q0 := 3) (t0 := 0) hx hb hK1 hP rfl rfl (by omega) (by decide) dX5_truth_163 ?_
            refine xtop (y := (nI 5)) (by exact ((hag 3 f (by decide)).trans hk3).trans (congrArg nI hkd)) ?_
            refine lv_if_ne (tgt := 171) hx hb dX5_truth_164 (by decide) (fun c164 => ?_) (fun c164 => ?_)
            ·
              replace c164 : ¬ 5 = 0 := k0_net c164 (by omega)
              refine lv_aload_n hx hb dX5_truth_171 rfl (lv_at hl 5 rfl) ?_
              refine lv_iload_n hx hb dX5_truth_172 rfl (lv_at hl 6 rfl) ?_
              refine lv_iload hx hb dX5_truth_173 (lv_at hl 1 rfl) ?_
              refine xcallwi (va_runV (As := [.int (nI lv), .int (nI (p1 f))]) (rest := []) ⟨hx, hb, hml, hown, hts⟩ (ih (p1 f) (by omega) M _ lv mo hag hlv (by omega) (by omega) hti) (cwV 2 hts gX5_truth_X5_truth rfl rfl rfl (by decide +kernel) ⟨by dsimp only; omega, by dsimp only; omega⟩) (xpreVs hP hK (ci := 5) 0 rfl rfl) rfl rfl hl.1 rfl (lv_room (Nat.le_of_ble_eq_true rfl)) dX5_truth_175 ⟨Nat.le_of_ble_eq_true rfl, Nat.le_of_ble_eq_true rfl⟩) hS (kAle hS.1) (fun u_66 H locs hu_66 hP _ _ hS => ?_)
              have hP : va_P D vwCl (rc cs b u_66) H := hP
              have hk_67 : u_66 0 1 = nI n := by rw [hu_66.1 0 1 (by decide)]; exact hn
              have hk_68 : u_66 0 3 = nI nf := by rw [hu_66.1 0 3 (by decide)]; exact hfc
              refine lv_istore (lv' := [(8, .int (semR M0 n kd p1 p2 sb ag mo (p1 f))), (7, .int (nI 0)), (6, .int (nI (p1 f))), (5, .int (M0 4 f)), (4, .int mo), (3, .int (nI ((40 * lv) + f))), (0, .ref (b 0)), (1, .int (nI lv)), (2, .int (nI f))]) hx hb dX5_truth_178 hl (by decide) rfl (fun ls hl => ?_)
              refine lv_iconst (v := (nI 0)) hx hb dX5_truth_180 (by decide) ?_
              refine lv_istore (lv' := [(9, .int (nI 0)), (8, .int (semR M0 n kd p1 p2 sb ag mo (p1 f))), (7, .int (nI 0)), (6, .int (nI (p1 f))), (5, .int (M0 4 f)), (4, .int mo), (3, .int (nI ((40 * lv) + f))), (0, .ref (b 0)), (1, .int (nI lv)), (2, .int (nI f))]) hx hb dX5_truth_181 hl (by decide) rfl (fun ls hl => ?_)
              have cut183 : ∀ (f183 : Nat) (j : Nat) (hj : j ≤ n), n + 1 ≤ j + f183 → ∀ (H : Heap) (locs : List Loc), va_P D vwCl (rc cs b u_66) H → va_S (kA b 12 s.heap.size) s.heap H locs → ∀ (ls : Array Slot), lv_has ls 12 [(0, .ref (b 0)), (1, .int (nI lv)), (2, .int (nI f)), (3, .int (nI ((40 * lv) + f))), (4, .int mo), (5, .int (M0 4 f)), (6, .int (nI (p1 f))), (7, .int (fo (fun w r => if bt mo w && decide ((everyR M0 n (M0 4 f) w &&& mo &&& (semR M0 n kd p1 p2 sb ag mo (p1 f) ^^^ (-1))) = 0) then r ||| sg w else r) (nI 0) j)), (8, .int (semR M0 n kd p1 p2 sb ag mo (p1 f))), (9, .int (nI j))] → W p l e ({ frames := 56 + f, cells := 0, slots := 0, locals := 1600 + 31 * f } : Room) s m ([.ref (b 0), .int (nI lv), .int (nI f)] : List Value).toArray below meth c H locs 0 0 Q (F0 m 183 ls []) := by
                intro f183
                induction f183 with
                | zero => intro j hj hfu183; exact absurd hfu183 (by omega)
                | succ f183 cut183 =>
                  intro j hj hfu183 H locs hP hS ls hl
                  refine lv_iload hx hb dX5_truth_183 (lv_at hl 9 rfl) ?_
                  refine lv_aload_n hx hb dX5_truth_185 rfl (lv_at hl 0 rfl) ?_
                  refine va_get (D := D) (ci := 5) (v := .int (u_66 0 1)) (C := RX5) (T := TX5) (N := 15) hx hb hts hinX5 hown hK1 hP 0 rfl rfl 1 (by decide) (hts (.fieldLink RX5 48 "KnowledgeModelModel" "worlds" "I") (List.mem_of_getElem? (i := 7) rfl)) (fun _ h9 => h9) rfl dX5_truth_186 ?_
                  refine xtop (y := nI n) (hk_67) ?_
                  refine lv_icmp_ge (tgt := 342) hx hb dX5_truth_189 (by decide) (fun c189 => ?_) (fun c189 => ?_)
                  ·
                    replace c189 : n ≤ j := k_get c189 (by omega) (by omega)
                    have hje : j = n := by omega
                    have hval : (fo (fun w r => if bt mo w && decide ((everyR M0 n (M0 4 f) w &&& mo &&& (semR M0 n kd p1 p2 sb ag mo (p1 f) ^^^ (-1))) = 0) then r ||| sg w else r) (nI 0) j) = semR M0 n kd p1 p2 sb ag mo f := by rw [semR_eq hwp hf]; simp only [askR, hkd, if_true, if_false, show (1 : Nat) ≠ 0 by decide, show (2 : Nat) ≠ 0 by decide, show (2 : Nat) ≠ 1 by decide, show (3 : Nat) ≠ 0 by decide, show (3 : Nat) ≠ 1 by decide, show (3 : Nat) ≠ 2 by decide, show (3 : Nat) ≠ 6 by decide, show (4 : Nat) ≠ 0 by decide, show (4 : Nat) ≠ 1 by decide, show (4 : Nat) ≠ 2 by decide, show (4 : Nat) ≠ 3 by decide, show (4 : Nat) ≠ 6 by decide, show (5 : Nat) ≠ 0 by decide, show (5 : Nat) ≠ 1 by decide, show (5 : Nat) ≠ 2 by decide, show (5 : Nat) ≠ 3 by decide, show (5 : Nat) ≠ 4 by decide, show (5 : Nat) ≠ 6 by decide, show (6 : Nat) ≠ 0 by decide, show (6 : Nat) ≠ 1 by decide, show (6 : Nat) ≠ 2 by decide, hje]
                    refine lv_aload_n hx hb dX5_truth_342 rfl (lv_at hl 0 rfl) ?_
                    refine va_get (D := D) (ci := 5) (v := .ref (b 10)) (C := RX5) (T := TX5) (N := 15) hx hb hts hinX5 hown hK1 hP 0 rfl rfl 13 (by decide) (hts (.fieldLink RX5 38 "KnowledgeModelModel" "truths" "[I") (List.mem_of_getElem? (i := 2) rfl)) (fun _ h9 => h9) rfl dX5_truth_343 ?_
                    refine lv_iload_n hx hb dX5_truth_346 rfl (lv_at hl 3 rfl) ?_
                    refine lv_iload hx hb dX5_truth_347 (lv_at hl 7 rfl) ?_
                    refine lv_topi (fun x_69 hx_69 => ?_)
                    refine xiast (j := (40 * lv) + f) (q0 := 10) (t0 := 0) (ws' := rc cs b (wr u_66 10 ((40 * lv) + f) x_69)) hx hb hK1 hP (rD hI) hS rfl rfl (by omega) (by decide) rs_10 dX5_truth_349 (fun H locs hP hS => ?_)
                    obtain ⟨M_70, hM_70⟩ : ∃ z, z = wr u_66 10 ((40 * lv) + f) x_69 := ⟨_, rfl⟩
                    rw [← hM_70] at hP
                    have hk_71 : M_70 0 1 = nI n := by rw [hM_70]; exact (wr_ne (Or.inl (by omega))).trans hk_67
                    have hk_72 : M_70 0 3 = nI nf := by rw [hM_70]; exact (wr_ne (Or.inl (by omega))).trans hk_68
                    refine lv_aload_n hx hb dX5_truth_350 rfl (lv_at hl 0 rfl) ?_
                    refine va_get (D := D) (ci := 5) (v := .ref (b 9)) (C := RX5) (T := TX5) (N := 15) hx hb hts hinX5 hown hK1 hP 0 rfl rfl 12 (by decide) (hts (.fieldLink RX5 34 "KnowledgeModelModel" "areKnown" "[Z") (List.mem_of_getElem? (i := 1) rfl)) (fun _ h9 => h9) rfl dX5_truth_351 ?_
                    refine lv_iload_n hx hb dX5_truth_354 rfl (lv_at hl 3 rfl) ?_
                    refine lv_iconst (v := (nI 1)) hx hb dX5_truth_355 (by decide) ?_
                    refine xzast (j := (40 * lv) + f) (q0 := 9) (t0 := 3) (ws' := rc cs b (wr M_70 9 ((40 * lv) + f) (nI 1))) hx hb hK1 hP (rD hI) hS rfl rfl (by omega) (by decide) (by decide) rs_9 dX5_truth_356 (fun H locs hP hS => ?_)
                    obtain ⟨M_73, hM_73⟩ : ∃ z, z = wr M_70 9 ((40 * lv) + f) (nI 1) := ⟨_, rfl⟩
                    rw [← hM_73] at hP
                    have hk_74 : M_73 0 1 = nI n := by rw [hM_73]; exact (wr_ne (Or.inl (by omega))).trans hk_71
                    have hk_75 : M_73 0 3 = nI nf := by rw [hM_73]; exact (wr_ne (Or.inl (by omega))).trans hk_72
                    refine lv_iload hx hb dX5_truth_357 (lv_at hl 7 rfl) ?_
                    subst hQ
                    have hrel : TR M0 M n nf kd p1 p2 sb ag lv mo M_73 := by first | exact TR_r hti | (simp only [fo_0, c13, c57, c87, c115, c164, c189, hx_69, hM_70, hM_73]; exact TR_w (TR_r hti) hf hval) | (simp only [fo_0, c13, c57, c87, c115, c164, c189, hx_69, hM_70, hM_73]; exact TR_w hu_66 hf hval) | (simp only [fo_0, c13, c57, c87, c115, c164, c189, hx_69, hM_70, hM_73]; exact TR_w (TR_t hu_66 hu_66) hf hval) | (simp only [fo_0, c13, c57, c87, c115, c164, c189, hx_69, hM_70, hM_73]; exact TR_w (TR_b hu_66 hf40 (by simpa only [fo_0, c13, c57, c87, c115, c164, c189, hx_69, hM_70, hM_73] using hu_66)) hf hval)
                    have hfin : (fo (fun w r => if bt mo w && decide ((everyR M0 n (M0 4 f) w &&& mo &&& (semR M0 n kd p1 p2 sb ag mo (p1 f) ^^^ (-1))) = 0) then r ||| sg w else r) (nI 0) j) = semR M0 n kd p1 p2 sb ag mo f := by first | exact hval | rfl
                    exact W.iret hx hb hr (fun t ht hW => ⟨⟨_, M_73, rfl, ⟨hfin, hrel⟩, by rw [← ht] at hP; exact hP⟩, hS.F ht⟩) hS.2.2 dX5_truth_359
                  ·
                    replace c189 : j < n := k_gef c189 (by omega) (by omega)
                    refine lv_iload hx hb dX5_truth_192 (lv_at hl 4 rfl) ?_
                    refine lv_iload hx hb dX5_truth_194 (lv_at hl 9 rfl) ?_
                    refine xcalli (va_runS (As := [.int mo, .int (nI j)]) (rest := []) ⟨hx, hb, hml, hown, hts⟩ (c_X5_has l mo j (by omega)) (va_cwS 2 hts gX5_truth_X5_has rfl rfl rfl (by decide +kernel) ⟨by dsimp only; omega, by dsimp only; omega⟩) xpreN rfl rfl hl.1 rfl (lv_room (Nat.le_of_ble_eq_true rfl)) dX5_truth_196 ⟨Nat.le_of_ble_eq_true rfl, Nat.le_of_ble_eq_true rfl⟩) hS hP (fun H locs hP hS => ?_)
                    refine lv_if_ne (tgt := 205) hx hb dX5_truth_199 (by decide) (fun c199 => ?_) (fun c199 => ?_)
                    ·
                      replace c199 := bI_n0 c199
                      refine lv_aload_n hx hb dX5_truth_205 rfl (lv_at hl 0 rfl) ?_
                      refine va_get (D := D) (ci := 5) (v := .ref (b 3)) (C := RX5) (T := TX5) (N := 15) hx hb hts hinX5 hown hK1 hP 0 rfl rfl 6 (by decide) (hts (.fieldLink RX5 16 "KnowledgeModelModel" "kinds" "[I") (List.mem_of_getElem? (i := 6) rfl)) (fun _ h9 => h9) rfl dX5_truth_206 ?_
                      refine lv_iload_n hx hb dX5_truth_209 rfl (lv_at hl 2 rfl) ?_
                      refine xiald (j := f) (q0 := 3) (t0 := 0) hx hb hK1 hP rfl rfl (by omega) (by decide) dX5_truth_210 ?_
                      refine xtop (y := (nI 5)) (by exact (((Ag8_t hag hu_66) 3 f (by decide)).trans hk3).trans (congrArg nI hkd)) ?_
                      refine lv_iconst (v := (nI 3)) hx hb dX5_truth_211 (by decide) ?_
                      refine lv_icmp_ne (tgt := 231) hx hb dX5_truth_212 (by decide) (fun c212 => ?_) (fun c212 => ?_)
                      ·
                        replace c212 : ¬ 5 = 3 := k_net c212 (by omega) (by omega)
                        refine lv_aload_n hx hb dX5_truth_231 rfl (lv_at hl 0 rfl) ?_
                        refine va_get (D := D) (ci := 5) (v := .ref (b 3)) (C := RX5) (T := TX5) (N := 15) hx hb hts hinX5 hown hK1 hP 0 rfl rfl 6 (by decide) (hts (.fieldLink RX5 16 "KnowledgeModelModel" "kinds" "[I") (List.mem_of_getElem? (i := 6) rfl)) (fun _ h9 => h9) rfl dX5_truth_232 ?_
                        refine lv_iload_n hx hb dX5_truth_235 rfl (lv_at hl 2 rfl) ?_
                        refine xiald (j := f) (q0 := 3) (t0 := 0) hx hb hK1 hP rfl rfl (by omega) (by decide) dX5_truth_236 ?_
                        refine xtop (y := (nI 5)) (by exact (((Ag8_t hag hu_66) 3 f (by decide)).trans hk3).trans (congrArg nI hkd)) ?_
                        refine lv_iconst (v := (nI 4)) hx hb dX5_truth_237 (by decide) ?_
                        refine lv_icmp_ne (tgt := 254) hx hb dX5_truth_238 (by decide) (fun c238 => ?_) (fun c238 => ?_)
                        ·
                          replace c238 : ¬ 5 = 4 := k_net c238 (by omega) (by omega)
                          refine lv_aload_n hx hb dX5_truth_254 rfl (lv_at hl 0 rfl) ?_
                          refine va_get (D := D) (ci := 5) (v := .ref (b 3)) (C := RX5) (T := TX5) (N := 15) hx hb hts hinX5 hown hK1 hP 0 rfl rfl 6 (by decide) (hts (.fieldLink RX5 16 "KnowledgeModelModel" "kinds" "[I") (List.mem_of_getElem? (i := 6) rfl)) (fun _ h9 => h9) rfl dX5_truth_255 ?_
                          refine lv_iload_n hx hb dX5_truth_258 rfl (lv_at hl 2 rfl) ?_
                          refine xiald (j := f) (q0 := 3) (t0 := 0) hx hb hK1 hP rfl rfl (by omega) (by decide) dX5_truth_259 ?_
                          refine xtop (y := (nI 5)) (by exact (((Ag8_t hag hu_66) 3 f (by decide)).trans hk3).trans (congrArg nI hkd)) ?_
                          refine lv_iconst (v := (nI 5)) hx hb dX5_truth_260 (by decide) ?_
                          refine lv_icmp_ne (tgt := 275) hx hb dX5_truth_261 (by decide) (fun c261 => ?_) (fun c261 => ?_)
                          ·
                            replace c261 : ¬ 5 = 5 := k_net c261 (by omega) (by omega)
                            exfalso; omega
                          ·
                            replace c261 : 5 = 5 := k_nef c261 (by omega) (by omega)
                            refine lv_aload_n hx hb dX5_truth_264 rfl (lv_at hl 0 rfl) ?_
                            refine lv_iload hx hb dX5_truth_265 (lv_at hl 5 rfl) ?_
                            refine lv_iload hx hb dX5_truth_267 (lv_at hl 9 rfl) ?_
                            refine xcalli (va_runV (As := [.int (M0 4 f), .int (nI j)]) (rest := []) ⟨hx, hb, hml, hown, hts⟩ (c_X5_seenByAll l D cs b u_66 n (M0 4 f) j (by omega) hk_67) (cwV 2 hts gX5_truth_X5_seenByAll rfl rfl rfl (by decide +kernel) ⟨by dsimp only; omega, by dsimp only; omega⟩) (xpreV hP hK (ci := 5) 0 rfl rfl) rfl rfl hl.1 rfl (lv_room (Nat.le_of_ble_eq_true rfl)) dX5_truth_269 ⟨Nat.le_of_ble_eq_true rfl, Nat.le_of_ble_eq_true rfl⟩) hS hP (fun H locs hP hS => ?_)
                            refine xtop (y := (everyR M0 n (M0 4 f) j)) (by exact everyR_c (Ag8_t hag hu_66)) ?_
                            refine lv_goto (tgt := 276) hx hb dX5_truth_272 (by decide) ?_
                            refine lv_istore (lv' := [(10, .int (everyR M0 n (M0 4 f) j)), (0, .ref (b 0)), (1, .int (nI lv)), (2, .int (nI f)), (3, .int (nI ((40 * lv) + f))), (4, .int mo), (5, .int (M0 4 f)), (6, .int (nI (p1 f))), (7, .int (fo (fun w r => if bt mo w && decide ((everyR M0 n (M0 4 f) w &&& mo &&& (semR M0 n kd p1 p2 sb ag mo (p1 f) ^^^ (-1))) = 0) then r ||| sg w else r) (nI 0) j)), (8, .int (semR M0 n kd p1 p2 sb ag mo (p1 f))), (9, .int (nI j))]) hx hb dX5_truth_276 hl (by decide) rfl (fun ls hl => ?_)
                            refine lv_aload_n hx hb dX5_truth_278 rfl (lv_at hl 1 rfl) ?_
                            refine va_get (D := D) (ci := 5) (v := .ref (b 3)) (C := RX5) (T := TX5) (N := 15) hx hb hts hinX5 hown hK1 hP 0 rfl rfl 6 (by decide) (hts (.fieldLink RX5 16 "KnowledgeModelModel" "kinds" "[I") (List.mem_of_getElem? (i := 6) rfl)) (fun _ h9 => h9) rfl dX5_truth_279 ?_
                            refine lv_iload_n hx hb dX5_truth_282 rfl (lv_at hl 3 rfl) ?_
                            refine xiald (j := f) (q0 := 3) (t0 := 0) hx hb hK1 hP rfl rfl (by omega) (by decide) dX5_truth_283 ?_
                            refine xtop (y := (nI 5)) (by exact (((Ag8_t hag hu_66) 3 f (by decide)).trans hk3).trans (congrArg nI hkd)) ?_
                            refine lv_if_ne (tgt := 302) hx hb dX5_truth_284 (by decide) (fun c284 => ?_) (fun c284 => ?_)
                            ·
                              replace c284 : ¬ 5 = 0 := k0_net c284 (by omega)
                              refine lv_iload hx hb dX5_truth_302 (lv_at hl 0 rfl) ?_
                              refine lv_iload hx hb dX5_truth_304 (lv_at hl 5 rfl) ?_
                              refine lv_iand hx hb dX5_truth_306 ?_
                              refine lv_iload hx hb dX5_truth_307 (lv_at hl 9 rfl) ?_
                              refine lv_iconst (v := (-1 : Int32)) hx hb dX5_truth_309 (by decide) ?_
                              refine lv_ixor hx hb dX5_truth_310 ?_
                              refine lv_iand hx hb dX5_truth_311 ?_
                              refine lv_if_ne (tgt := 319) hx hb dX5_truth_312 (by decide) (fun c312 => ?_) (fun c312 => ?_)
                              ·
                                refine lv_iconst (v := (nI 0)) hx hb dX5_truth_319 (by decide) ?_
                                refine lv_istore (lv' := [(11, .int (nI 0)), (10, .int (everyR M0 n (M0 4 f) j)), (0, .ref (b 0)), (1, .int (nI lv)), (2, .int (nI f)), (3, .int (nI ((40 * lv) + f))), (4, .int mo), (5, .int (M0 4 f)), (6, .int (nI (p1 f))), (7, .int (fo (fun w r => if bt mo w && decide ((everyR M0 n (M0 4 f) w &&& mo &&& (semR M0 n kd p1 p2 sb ag mo (p1 f) ^^^ (-1))) = 0) then r ||| sg w else r) (nI 0) j)), (8, .int (semR M0 n kd p1 p2 sb ag mo (p1 f))), (9, .int (nI j))]) hx hb dX5_truth_320 hl (by decide) rfl (fun ls hl => ?_)
                                refine lv_iload hx hb dX5_truth_322 (lv_at hl 0 rfl) ?_
                                refine lv_if_eq (tgt := 336) hx hb dX5_truth_324 (by decide) (fun c324 => ?_) (fun c324 => ?_)
                                ·
                                  replace c324 : 0 = 0 := k0_eqt c324 (by omega)
                                  refine lv_iinc (v := (nI (j + 1))) (lv' := [(9, .int (nI (j + 1))), (11, .int (nI 0)), (10, .int (everyR M0 n (M0 4 f) j)), (0, .ref (b 0)), (1, .int (nI lv)), (2, .int (nI f)), (3, .int (nI ((40 * lv) + f))), (4, .int mo), (5, .int (M0 4 f)), (6, .int (nI (p1 f))), (7, .int (fo (fun w r => if bt mo w && decide ((everyR M0 n (M0 4 f) w &&& mo &&& (semR M0 n kd p1 p2 sb ag mo (p1 f) ^^^ (-1))) = 0) then r ||| sg w else r) (nI 0) j)), (8, .int (semR M0 n kd p1 p2 sb ag mo (p1 f)))]) hx hb dX5_truth_336 hl (k := 11) rfl (nI_add j 1) (by decide) rfl (fun ls hl => ?_)
                                  refine lv_goto (tgt := 183) hx hb dX5_truth_339 (by decide) ?_
                                  have e_76 : (fo (fun w r => if bt mo w && decide ((everyR M0 n (M0 4 f) w &&& mo &&& (semR M0 n kd p1 p2 sb ag mo (p1 f) ^^^ (-1))) = 0) then r ||| sg w else r) (nI 0) j) = (fo (fun w r => if bt mo w && decide ((everyR M0 n (M0 4 f) w &&& mo &&& (semR M0 n kd p1 p2 sb ag mo (p1 f) ^^^ (-1))) = 0) then r ||| sg w else r) (nI 0) (j + 1)) := by first | (rw [fo_s, if_neg (by rw [c199]; exact Bool.false_ne_true)]; done) | (rw [fo_s, if_pos (by rw [c199, decide_eq_true c312]; rfl)]; assumption) | (rw [fo_s, if_neg (by rw [c199, decide_eq_false c312]; exact Bool.false_ne_true)]; done)
                                  exact cut183 (j + 1) (by omega) (by omega) _ _ hP hS ls (lcons (lcons (lcons (lcons (lcons (lcons (lcons (lcons (lcons (lcons (lzero hl) hl 0 rfl rfl) hl 11 rfl rfl) hl 10 rfl (congrArg Value.int e_76)) hl 9 rfl rfl) hl 8 rfl rfl) hl 7 rfl rfl) hl 6 rfl rfl) hl 5 rfl rfl) hl 4 rfl rfl) hl 3 rfl rfl)
                                ·
                                  replace c324 : ¬ 0 = 0 := k0_eqf c324 (by omega)
                                  exfalso; omega
                              ·
                                refine lv_iconst (v := (nI 1)) hx hb dX5_truth_315 (by decide) ?_
                                refine lv_goto (tgt := 320) hx hb dX5_truth_316 (by decide) ?_
                                refine lv_istore (lv' := [(11, .int (nI 1)), (10, .int (everyR M0 n (M0 4 f) j)), (0, .ref (b 0)), (1, .int (nI lv)), (2, .int (nI f)), (3, .int (nI ((40 * lv) + f))), (4, .int mo), (5, .int (M0 4 f)), (6, .int (nI (p1 f))), (7, .int (fo (fun w r => if bt mo w && decide ((everyR M0 n (M0 4 f) w &&& mo &&& (semR M0 n kd p1 p2 sb ag mo (p1 f) ^^^ (-1))) = 0) then r ||| sg w else r) (nI 0) j)), (8, .int (semR M0 n kd p1 p2 sb ag mo (p1 f))), (9, .int (nI j))]) hx hb dX5_truth_320 hl (by decide) rfl (fun ls hl => ?_)
                                refine lv_iload hx hb dX5_truth_322 (lv_at hl 0 rfl) ?_
                                refine lv_if_eq (tgt := 336) hx hb dX5_truth_324 (by decide) (fun c324 => ?_) (fun c324 => ?_)
                                ·
                                  replace c324 : 1 = 0 := k0_eqt c324 (by omega)
                                  exfalso; omega
                                ·
                                  replace c324 : ¬ 1 = 0 := k0_eqf c324 (by omega)
                                  refine lv_iload hx hb dX5_truth_327 (lv_at hl 9 rfl) ?_
                                  refine lv_iconst (v := (nI 1)) hx hb dX5_truth_329 (by decide) ?_
                                  refine lv_iload hx hb dX5_truth_330 (lv_at hl 11 rfl) ?_
                                  refine lv_ishl hx hb dX5_truth_332 ?_
                                  refine lv_ior hx hb dX5_truth_333 ?_
                                  refine lv_topi (fun x_77 hx_77 => ?_)
                                  refine lv_istore (lv' := [(7, .int x_77), (11, .int (nI 1)), (10, .int (everyR M0 n (M0 4 f) j)), (0, .ref (b 0)), (1, .int (nI lv)), (2, .int (nI f)), (3, .int (nI ((40 * lv) + f))), (4, .int mo), (5, .int (M0 4 f)), (6, .int (nI (p1 f))), (8, .int (semR M0 n kd p1 p2 sb ag mo (p1 f))), (9, .int (nI j))]) hx hb dX5_truth_334 hl (by decide) rfl (fun ls hl => ?_)
                                  refine lv_iinc (v := (nI (j + 1))) (lv' := [(9, .int (nI (j + 1))), (7, .int x_77), (11, .int (nI 1)), (10, .int (everyR M0 n (M0 4 f) j)), (0, .ref (b 0)), (1, .int (nI lv)), (2, .int (nI f)), (3, .int (nI ((40 * lv) + f))), (4, .int mo), (5, .int (M0 4 f)), (6, .int (nI (p1 f))), (8, .int (semR M0 n kd p1 p2 sb ag mo (p1 f)))]) hx hb dX5_truth_336 hl (k := 11) rfl (nI_add j 1) (by decide) rfl (fun ls hl => ?_)
                                  refine lv_goto (tgt := 183) hx hb dX5_truth_339 (by decide) ?_
                                  have e_78 : x_77 = (fo (fun w r => if bt mo w && decide ((everyR M0 n (M0 4 f) w &&& mo &&& (semR M0 n kd p1 p2 sb ag mo (p1 f) ^^^ (-1))) = 0) then r ||| sg w else r) (nI 0) (j + 1)) := by first | (rw [fo_s, if_neg (by rw [c199]; exact Bool.false_ne_true)]; done) | (rw [fo_s, if_pos (by rw [c199, decide_eq_true c312]; rfl)]; assumption) | (rw [fo_s, if_neg (by rw [c199, decide_eq_false c312]; exact Bool.false_ne_true)]; done)
                                  exact cut183 (j + 1) (by omega) (by omega) _ _ hP hS ls (lcons (lcons (lcons (lcons (lcons (lcons (lcons (lcons (lcons (lcons (lzero hl) hl 0 rfl rfl) hl 11 rfl rfl) hl 1 rfl (congrArg Value.int e_78)) hl 10 rfl rfl) hl 9 rfl rfl) hl 8 rfl rfl) hl 7 rfl rfl) hl 6 rfl rfl) hl 5 rfl rfl) hl 4 rfl rfl)
                            ·
                              replace c284 : 5 = 0 := k0_nef c284 (by omega)
                              exfalso; omega
                        ·
                          replace c238 : 5 = 4 := k_nef c238 (by omega) (by omega)
                          exfalso; omega
                      ·
                        replace c212 : 5 = 3 := k_nef c212 (by omega) (by omega)
                        exfalso; omega
                    ·
                      replace c199 := bI_0 c199
                      refine lv_goto (tgt := 336) hx hb dX5_truth_202 (by decide) ?_
                      refine lv_iinc (v := (nI (j + 1))) (lv' := [(9, .int (nI (j + 1))), (0, .ref (b 0)), (1, .int (nI lv)), (2, .int (nI f)), (3, .int (nI ((40 * lv) + f))), (4, .int mo), (5, .int (M0 4 f)), (6, .int (nI (p1 f))), (7, .int (fo (fun w r => if bt mo w && decide ((everyR M0 n (M0 4 f) w &&& mo &&& (semR M0 n kd p1 p2 sb ag mo (p1 f) ^^^ (-1))) = 0) then r ||| sg w else r) (nI 0) j)), (8, .int (semR M0 n kd p1 p2 sb ag mo (p1 f)))]) hx hb dX5_truth_336 hl (k := 9) rfl (nI_add j 1) (by decide) rfl (fun ls hl => ?_)
                      refine lv_goto (tgt := 183) hx hb dX5_truth_339 (by decide) ?_
                      have e_79 : (fo (fun w r => if bt mo w && decide ((everyR M0 n (M0 4 f) w &&& mo &&& (semR M0 n kd p1 p2 sb ag mo (p1 f) ^^^ (-1))) = 0) then r ||| sg w else r) (nI 0) j) = (fo (fun w r => if bt mo w && decide ((everyR M0 n (M0 4 f) w &&& mo &&& (semR M0 n kd p1 p2 sb ag mo (p1 f) ^^^ (-1))) = 0) then r ||| sg w else r) (nI 0) (j + 1)) := by first | (rw [fo_s, if_neg (by rw [c199]; exact Bool.false_ne_true)]; done) | (rw [fo_s, if_pos (by rw [c199, decide_eq_true c312]; rfl)]; assumption) | (rw [fo_s, if_neg (by rw [c199, decide_eq_false c312]; exact Bool.false_ne_true)]; done)
                      exact cut183 (j + 1) (by omega) (by omega) _ _ hP hS ls (lcons (lcons (lcons (lcons (lcons (lcons (lcons (lcons (lcons (lcons (lzero hl) hl 0 rfl rfl) hl 9 rfl rfl) hl 8 rfl (congrArg Value.int e_79)) hl 7 rfl rfl) hl 6 rfl rfl) hl 5 rfl rfl) hl 4 rfl rfl) hl 3 rfl rfl) hl 2 rfl rfl) hl 1 rfl rfl)
              have e_80 : (nI 0) = (fo (fun w r => if bt mo w && decide ((everyR M0 n (M0 4 f) w &&& mo &&& (semR M0 n kd p1 p2 sb ag mo (p1 f) ^^^ (-1))) = 0) then r ||| sg w else r) (nI 0) 0) := by rfl
              exact cut183 (n + 1) 0 (by omega) (by omega) _ _ hP hS ls (lcons (lcons (lcons (lcons (lcons (lcons (lcons (lcons (lcons (lcons (lzero hl) hl 0 rfl rfl) hl 1 rfl rfl) hl 2 rfl (congrArg Value.int e_80)) hl 3 rfl rfl) hl 4 rfl rfl) hl 5 rfl rfl) hl 6 rfl rfl) hl 9 rfl rfl) hl 8 rfl rfl) hl 7 rfl rfl)
            ·
              replace c164 : 5 = 0 := k0_nef c164 (by omega)
              exfalso; omega
          ·
            replace c115 : 5 = 6 := k_nef c115 (by omega) (by omega)
            exfalso; omega
        ·
          replace c87 : 5 = 1 := k_nef c87 (by omega) (by omega)
          exfalso; omega
      ·
        replace c57 : 5 = 2 := k_nef c57 (by omega) (by omega)
        exfalso; omega
    ·
      refine lv_aload_n hx hb dX5_truth_16 rfl (lv_at hl 1 rfl) ?_
      refine va_get (D := D) (ci := 5) (v := .ref (b 10)) (C := RX5) (T := TX5) (N := 15) hx hb hts hinX5 hown hK1 hP 0 rfl rfl 13 (by decide) (hts (.fieldLink RX5 38 "KnowledgeModelModel" "truths" "[I") (List.mem_of_getElem? (i := 2) rfl)) (fun _ h9 => h9) rfl dX5_truth_17 ?_
      refine lv_iload_n hx hb dX5_truth_20 rfl (lv_at hl 0 rfl) ?_
      refine xiald (j := (40 * lv) + f) (q0 := 10) (t0 := 0) hx hb hK1 hP rfl rfl (by omega) (by decide) dX5_truth_21 ?_
      refine xtop (y := (semR M0 n kd p1 p2 sb ag mo f)) (by exact ((hti.2 f hf).resolve_left c13).2) ?_
      subst hQ
      have hrel : TR M0 M n nf kd p1 p2 sb ag lv mo M := by first | exact TR_r hti | (simp only [fo_0, c13]; exact TR_w (TR_r hti) hf hval) | (simp only [fo_0, c13]; exact TR_w trivial hf hval) | (simp only [fo_0, c13]; exact TR_w (TR_t trivial trivial) hf hval) | (simp only [fo_0, c13]; exact TR_w (TR_b trivial hf40 (by simpa only [fo_0, c13] using trivial)) hf hval)
      have hfin : (semR M0 n kd p1 p2 sb ag mo f) = semR M0 n kd p1 p2 sb ag mo f := by first | exact hval | rfl
      exact W.iret hx hb hr (fun t ht hW => ⟨⟨_, M, rfl, ⟨hfin, hrel⟩, by rw [← ht] at hP; exact hP⟩, hS.F ht⟩) hS.2.2 dX5_truth_22
  ·
    have hq1 := hL.1 (by omega)
    have hz1 := hE1 (by omega)
    obtain ⟨hC1, hC2⟩ := hC (by omega)
    have hq2 := hL.2 (by omega)
    have hz6 := hE6 hkd
    refine lv_bipush (v := (nI 40)) hx hb dX5_truth_0 (by decide) ?_
    refine lv_iload_n hx hb dX5_truth_2 rfl (lv_at hl 1 rfl) ?_
    refine ximul hx hb dX5_truth_3 ?_
    refine lv_iload_n hx hb dX5_truth_4 rfl (lv_at hl 2 rfl) ?_
    refine xiadd hx hb dX5_truth_5 ?_
    refine lv_istore_n (lv' := [(3, .int (nI ((40 * lv) + f))), (0, .ref (b 0)), (1, .int (nI lv)), (2, .int (nI f))]) hx hb dX5_truth_6 rfl hl (by decide) rfl (fun ls hl => ?_)
    refine lv_aload_n hx hb dX5_truth_7 rfl (lv_at hl 1 rfl) ?_
    refine va_get (D := D) (ci := 5) (v := .ref (b 9)) (C := RX5) (T := TX5) (N := 15) hx hb hts hinX5 hown hK1 hP 0 rfl rfl 12 (by decide) (hts (.fieldLink RX5 34 "KnowledgeModelModel" "areKnown" "[Z") (List.mem_of_getElem? (i := 1) rfl)) (fun _ h9 => h9) rfl dX5_truth_8 ?_
    refine lv_iload_n hx hb dX5_truth_11 rfl (lv_at hl 0 rfl) ?_
    refine xzald (j := (40 * lv) + f) (q0 := 9) (t0 := 3) hx hb hK1 hP rfl rfl (by omega) (by decide) dX5_truth_12 ?_
    refine lv_if_eq (tgt := 23) hx hb dX5_truth_13 (by decide) (fun c13 => ?_) (fun c13 => ?_)
    ·
      refine lv_aload_n hx hb dX5_truth_23 rfl (lv_at hl 1 rfl) ?_
      refine va_get (D := D) (ci := 5) (v := .ref (b 8)) (C := RX5) (T := TX5) (N := 15) hx hb hts hinX5 hown hK1 hP 0 rfl rfl 11 (by decide) (hts (.fieldLink RX5 31 "KnowledgeModelModel" "lefts" "[I") (List.mem_of_getElem? (i := 3) rfl)) (fun _ h9 => h9) rfl dX5_truth_24 ?_
      refine lv_iload_n hx hb dX5_truth_27 rfl (lv_at hl 2 rfl) ?_
      refine xiald (j := lv) (q0 := 8) (t0 := 0) hx hb hK1 hP rfl rfl (by omega) (by decide) dX5_truth_28 ?_
      refine xtop (y := mo) (by exact hti.1) ?_
      refine lv_istore (lv' := [(4, .int mo), (3, .int (nI ((40 * lv) + f))), (0, .ref (b 0)), (1, .int (nI lv)), (2, .int (nI f))]) hx hb dX5_truth_29 hl (by decide) rfl (fun ls hl => ?_)
      refine lv_aload_n hx hb dX5_truth_31 rfl (lv_at hl 2 rfl) ?_
      refine va_get (D := D) (ci := 5) (v := .ref (b 4)) (C := RX5) (T := TX5) (N := 15) hx hb hts hinX5 hown hK1 hP 0 rfl rfl 7 (by decide) (hts (.fieldLink RX5 19 "KnowledgeModelModel" "firsts" "[I") (List.mem_of_getElem? (i := 4) rfl)) (fun _ h9 => h9) rfl dX5_truth_32 ?_
      refine lv_iload_n hx hb dX5_truth_35 rfl (lv_at hl 4 rfl) ?_
      refine xiald (j := f) (q0 := 4) (t0 := 0) hx hb hK1 hP rfl rfl (by omega) (by decide) dX5_truth_36 ?_
      refine xtop (y := (nI (p1 f))) (by exact (hag 4 f (by decide)).trans hC1) ?_
      refine lv_istore (lv' := [(5, .int (nI (p1 f))), (4, .int mo), (3, .int (nI ((40 * lv) + f))), (0, .ref (b 0)), (1, .int (nI lv)), (2, .int (nI f))]) hx hb dX5_truth_37 hl (by decide) rfl (fun ls hl => ?_)
      refine lv_aload_n hx hb dX5_truth_39 rfl (lv_at hl 3 rfl) ?_
      refine va_get (D := D) (ci := 5) (v := .ref (b 5)) (C := RX5) (T := TX5) (N := 15) hx hb hts hinX5 hown hK1 hP 0 rfl rfl 8 (by decide) (hts (.fieldLink RX5 22 "KnowledgeModelModel" "seconds" "[I") (List.mem_of_getElem? (i := 5) rfl)) (fun _ h9 => h9) rfl dX5_truth_40 ?_
      refine lv_iload_n hx hb dX5_truth_43 rfl (lv_at hl 5 rfl) ?_
      refine xiald (j := f) (q0 := 5) (t0 := 0) hx hb hK1 hP rfl rfl (by omega) (by decide) dX5_truth_44 ?_
      refine xtop (y := (nI (p2 f))) (by exact (hag 5 f (by decide)).trans hC2) ?_
      refine lv_istore (lv' := [(6, .int (nI (p2 f))), (5, .int (nI (p1 f))), (4, .int mo), (3, .int (nI ((40 * lv) + f))), (0, .ref (b 0)), (1, .int (nI lv)), (2, .int (nI f))]) hx hb dX5_truth_45 hl (by decide) rfl (fun ls hl => ?_)
      refine lv_iconst (v := (nI 0)) hx hb dX5_truth_47 (by decide) ?_
      refine lv_istore (lv' := [(7, .int (nI 0)), (6, .int (nI (p2 f))), (5, .int (nI (p1 f))), (4, .int mo), (3, .int (nI ((40 * lv) + f))), (0, .ref (b 0)), (1, .int (nI lv)), (2, .int (nI f))]) hx hb dX5_truth_48 hl (by decide) rfl (fun ls hl => ?_)
      refine lv_aload_n hx hb dX5_truth_50 rfl (lv_at hl 5 rfl) ?_
      refine va_get (D := D) (ci := 5) (v := .ref (b 3)) (C := RX5) (T := TX5) (N := 15) hx hb hts hinX5 hown hK1 hP 0 rfl rfl 6 (by decide) (hts (.fieldLink RX5 16 "KnowledgeModelModel" "kinds" "[I") (List.mem_of_getElem? (i := 6) rfl)) (fun _ h9 => h9) rfl dX5_truth_51 ?_
      refine lv_iload_n hx hb dX5_truth_54 rfl (lv_at hl 7 rfl) ?_
      refine xiald (j := f) (q0 := 3) (t0 := 0) hx hb hK1 hP rfl rfl (by omega) (by decide) dX5_truth_55 ?_
      refine xtop (y := (nI 6)) (by exact ((hag 3 f (by decide)).trans hk3).trans (congrArg nI hkd)) ?_
      refine lv_iconst (v := (nI 2)) hx hb dX5_truth_56 (by decide) ?_
      refine lv_icmp_ne (tgt := 80) hx hb dX5_truth_57 (by decide) (fun c57 => ?_) (fun c57 => ?_)
      ·
        replace c57 : ¬ 6 = 2 := k_net c57 (by omega) (by omega)
        refine lv_aload_n hx hb dX5_truth_80 rfl (lv_at hl 5 rfl) ?_
        refine va_get (D := D) (ci := 5) (v := .ref (b 3)) (C := RX5) (T := TX5) (N := 15) hx hb hts hinX5 hown hK1 hP 0 rfl rfl 6 (by decide) (hts (.fieldLink RX5 16 "KnowledgeModelModel" "kinds" "[I") (List.mem_of_getElem? (i := 6) rfl)) (fun _ h9 => h9) rfl dX5_truth_81 ?_
        refine lv_iload_n hx hb dX5_truth_84 rfl (lv_at hl 7 rfl) ?_
        refine xiald (j := f) (q0 := 3) (t0 := 0) hx hb hK1 hP rfl rfl (by omega) (by decide) dX5_truth_85 ?_
        refine xtop (y := (nI 6)) (by exact ((hag 3 f (by decide)).trans hk3).trans (congrArg nI hkd)) ?_
        refine lv_iconst (v := (nI 1)) hx hb dX5_truth_86 (by decide) ?_
        refine lv_icmp_ne (tgt := 107) hx hb dX5_truth_87 (by decide) (fun c87 => ?_) (fun c87 => ?_)
        ·
          replace c87 : ¬ 6 = 1 := k_net c87 (by omega) (by omega)
          refine lv_aload_n hx hb dX5_truth_107 rfl (lv_at hl 5 rfl) ?_
          refine va_get (D := D) (ci := 5) (v := .ref (b 3)) (C := RX5) (T := TX5) (N := 15) hx hb hts hinX5 hown hK1 hP 0 rfl rfl 6 (by decide) (hts (.fieldLink RX5 16 "KnowledgeModelModel" "kinds" "[I") (List.mem_of_getElem? (i := 6) rfl)) (fun _ h9 => h9) rfl dX5_truth_108 ?_
          refine lv_iload_n hx hb dX5_truth_111 rfl (lv_at hl 7 rfl) ?_
          refine xiald (j := f) (q0 := 3) (t0 := 0) hx hb hK1 hP rfl rfl (by omega) (by decide) dX5_truth_112 ?_
          refine xtop (y := (nI 6)) (by exact ((hag 3 f (by decide)).trans hk3).trans (congrArg nI hkd)) ?_
          refine lv_bipush (v := (nI 6)) hx hb dX5_truth_113 (by decide) ?_
          refine lv_icmp_ne (tgt := 158) hx hb dX5_truth_115 (by decide) (fun c115 => ?_) (fun c115 => ?_)
          ·
            replace c115 : ¬ 6 = 6 := k_net c115 (by omega) (by omega)
            exfalso; omega
          ·
            replace c115 : 6 = 6 := k_nef c115 (by omega) (by omega)
            refine lv_aload_n hx hb dX5_truth_118 rfl (lv_at hl 5 rfl) ?_
            refine lv_iload_n hx hb dX5_truth_119 rfl (lv_at hl 6 rfl) ?_
            refine lv_iload hx hb dX5_truth_120 (lv_at hl 2 rfl) ?_
            refine xcallwi (va_runV (As := [.int (nI lv), .int (nI (p1 f))]) (rest := []) ⟨hx, hb, hml, hown, hts⟩ (ih (p1 f) (by omega) M _ lv mo hag hlv (by omega) (by omega) hti) (cwV 2 hts gX5_truth_X5_truth rfl rfl rfl (by decide +kernel) ⟨by dsimp only; omega, by dsimp only; omega⟩) (xpreVs hP hK (ci := 5) 0 rfl rfl) rfl rfl hl.1 rfl (lv_room (Nat.le_of_ble_eq_true rfl)) dX5_truth_122 ⟨Nat.le_of_ble_eq_true rfl, Nat.le_of_ble_eq_true rfl⟩) hS (kAle hS.1) (fun u_81 H locs hu_81 hP _ _ hS => ?_)
            have hP : va_P D vwCl (rc cs b u_81) H := hP
            have hk_82 : u_81 0 1 = nI n := by rw [hu_81.1 0 1 (by decide)]; exact hn
            have hk_83 : u_81 0 3 = nI nf := by rw [hu_81.1 0 3 (by decide)]; exact hfc
            refine lv_istore (lv' := [(8, .int (semR M0 n kd p1 p2 sb ag mo (p1 f))), (7, .int (nI 0)), (6, .int (nI (p2 f))), (5, .int (nI (p1 f))), (4, .int mo), (3, .int (nI ((40 * lv) + f))), (0, .ref (b 0)), (1, .int (nI lv)), (2, .int (nI f))]) hx hb dX5_truth_125 hl (by decide) rfl (fun ls hl => ?_)
            refine lv_aload_n hx hb dX5_truth_127 rfl (lv_at hl 6 rfl) ?_
            refine lv_iload_n hx hb dX5_truth_128 rfl (lv_at hl 7 rfl) ?_
            refine lv_iconst (v := (nI 1)) hx hb dX5_truth_129 (by decide) ?_
            refine xiadd hx hb dX5_truth_130 ?_
            refine lv_iload hx hb dX5_truth_131 (lv_at hl 0 rfl) ?_
            refine xcallwv (va_runV (As := [.int (nI (lv + 1)), .int (semR M0 n kd p1 p2 sb ag mo (p1 f))]) (rest := []) ⟨hx, hb, hml, hown, hts⟩ (c_X5_begin l D cs b u_81 _ hI nf (lv + 1) (semR M0 n kd p1 p2 sb ag mo (p1 f)) (by omega) hk_83 (by omega)) (cwV 2 hts gX5_truth_X5_begin rfl rfl rfl (by decide +kernel) ⟨by dsimp only; omega, by dsimp only; omega⟩) (xpreVs hP hK (ci := 5) 0 rfl rfl) rfl rfl hl.1 rfl (lv_room (Nat.le_of_ble_eq_true rfl)) dX5_truth_133 ⟨Nat.le_of_ble_eq_true rfl, Nat.le_of_ble_eq_true rfl⟩) hS (kAle hS.1) (fun u_84 H locs hu_84 hP _ _ hS => ?_)
            have hP : va_P D vwCl (rc cs b (begC (wr u_81 8 (lv + 1) (semR M0 n kd p1 p2 sb ag mo (p1 f))) (lv + 1) nf)) H := hP
            obtain ⟨M_85, hM_85⟩ : ∃ z, z = begC (wr u_81 8 (lv + 1) (semR M0 n kd p1 p2 sb ag mo (p1 f))) (lv + 1) nf := ⟨_, rfl⟩
            rw [← hM_85] at hP
            have hk_86 : M_85 0 1 = nI n := by rw [hM_85]; exact (begC_o (by decide)).trans ((wr_ne (Or.inl (by decide))).trans hk_82)
            have hk_88 : M_85 0 3 = nI nf := by rw [hM_85]; exact (begC_o (by decide)).trans ((wr_ne (Or.inl (by decide))).trans hk_83)
            refine lv_iload hx hb dX5_truth_136 (lv_at hl 4 rfl) ?_
            refine lv_iload hx hb dX5_truth_138 (lv_at hl 0 rfl) ?_
            refine lv_iconst (v := (-1 : Int32)) hx hb dX5_truth_140 (by decide) ?_
            refine lv_ixor hx hb dX5_truth_141 ?_
            refine lv_iand hx hb dX5_truth_142 ?_
            refine lv_aload_n hx hb dX5_truth_143 rfl (lv_at hl 6 rfl) ?_
            refine lv_iload_n hx hb dX5_truth_144 rfl (lv_at hl 7 rfl) ?_
            refine lv_iconst (v := (nI 1)) hx hb dX5_truth_145 (by decide) ?_
            refine xiadd hx hb dX5_truth_146 ?_
            refine lv_iload hx hb dX5_truth_147 (lv_at hl 2 rfl) ?_
            refine xcallwi (va_runV (As := [.int (nI (lv + 1)), .int (nI (p2 f))]) (rest := [.int (mo &&& ((semR M0 n kd p1 p2 sb ag mo (p1 f)) ^^^ (-1 : Int32)))]) ⟨hx, hb, hml, hown, hts⟩ (c_X5_truth_2 l D cs b hI n nf kd p1 p2 ns sb ag M0 hn0 hn24 hwf hfc0 hf40 (p2 f) M_85 _ (lv + 1) (semR M0 n kd p1 p2 sb ag mo (p1 f)) (by simp only [fo_0, hM_85]; exact fun i y hi => ((begC_o (by omega)).trans (wr_ne (Or.inl (by omega)))).trans (Ag8_t hag hu_81 i y hi)) (by omega) (by omega) (by omega) (by simp only [fo_0, hM_85]; exact TI_b hf40)) (cwV 2 hts gX5_truth_X5_truth rfl rfl rfl (by decide +kernel) ⟨by dsimp only; omega, by dsimp only; omega⟩) (xpreVs hP hK (ci := 5) 0 rfl rfl) rfl rfl hl.1 rfl (lv_room (Nat.le_of_ble_eq_true rfl)) dX5_truth_149 ⟨Nat.le_of_ble_eq_true rfl, Nat.le_of_ble_eq_true rfl⟩) hS (kAle hS.1) (fun u_89 H locs hu_89 hP _ _ hS => ?_)
            have hP : va_P D vwCl (rc cs b u_89) H := hP
            have hk_90 : u_89 0 1 = nI n := by rw [hu_89.1 0 1 (by decide)]; exact hk_86
            have hk_91 : u_89 0 3 = nI nf := by rw [hu_89.1 0 3 (by decide)]; exact hk_88
            refine lv_ior hx hb dX5_truth_152 ?_
            refine lv_istore (lv' := [(7, .int ((mo &&& ((semR M0 n kd p1 p2 sb ag mo (p1 f)) ^^^ (-1 : Int32))) ||| (semR M0 n kd p1 p2 sb ag (semR M0 n kd p1 p2 sb ag mo (p1 f)) (p2 f)))), (8, .int (semR M0 n kd p1 p2 sb ag mo (p1 f))), (6, .int (nI (p2 f))), (5, .int (nI (p1 f))), (4, .int mo), (3, .int (nI ((40 * lv) + f))), (0, .ref (b 0)), (1, .int (nI lv)), (2, .int (nI f))]) hx hb dX5_truth_153 hl (by decide) rfl (fun ls hl => ?_)
            refine lv_goto (tgt := 342) hx hb dX5_truth_155 (by decide) ?_
            have hval : ((mo &&& ((semR M0 n kd p1 p2 sb ag mo (p1 f)) ^^^ (-1 : Int32))) ||| (semR M0 n kd p1 p2 sb ag (semR M0 n kd p1 p2 sb ag mo (p1 f)) (p2 f))) = semR M0 n kd p1 p2 sb ag mo f := by rw [semR_eq hwp hf]; simp only [askR, hkd, if_true, if_false, show (1 : Nat) ≠ 0 by decide, show (2 : Nat) ≠ 0 by decide, show (2 : Nat) ≠ 1 by decide, show (3 : Nat) ≠ 0 by decide, show (3 : Nat) ≠ 1 by decide, show (3 : Nat) ≠ 2 by decide, show (3 : Nat) ≠ 6 by decide, show (4 : Nat) ≠ 0 by decide, show (4 : Nat) ≠ 1 by decide, show (4 : Nat) ≠ 2 by decide, show (4 : Nat) ≠ 3 by decide, show (4 : Nat) ≠ 6 by decide, show (5 : Nat) ≠ 0 by decide, show (5 : Nat) ≠ 1 by decide, show (5 : Nat) ≠ 2 by decide, show (5 : Nat) ≠ 3 by decide, show (5 : Nat) ≠ 4 by decide, show (5 : Nat) ≠ 6 by decide, show (6 : Nat) ≠ 0 by decide, show (6 : Nat) ≠ 1 by decide, show (6 : Nat) ≠ 2 by decide]
            refine lv_aload_n hx hb dX5_truth_342 rfl (lv_at hl 6 rfl) ?_
            refine va_get (D := D) (ci := 5) (v := .ref (b 10)) (C := RX5) (T := TX5) (N := 15) hx hb hts hinX5 hown hK1 hP 0 rfl rfl 13 (by decide) (hts (.fieldLink RX5 38 "KnowledgeModelModel" "truths" "[I") (List.mem_of_getElem? (i := 2) rfl)) (fun _ h9 => h9) rfl dX5_truth_343 ?_
            refine lv_iload_n hx hb dX5_truth_346 rfl (lv_at hl 5 rfl) ?_
            refine lv_iload hx hb dX5_truth_347 (lv_at hl 0 rfl) ?_
            refine lv_topi (fun x_92 hx_92 => ?_)
            refine xiast (j := (40 * lv) + f) (q0 := 10) (t0 := 0) (ws' := rc cs b (wr u_89 10 ((40 * lv) + f) x_92)) hx hb hK1 hP (rD hI) hS rfl rfl (by omega) (by decide) rs_10 dX5_truth_349 (fun H locs hP hS => ?_)
            obtain ⟨M_93, hM_93⟩ : ∃ z, z = wr u_89 10 ((40 * lv) + f) x_92 := ⟨_, rfl⟩
            rw [← hM_93] at hP
            have hk_94 : M_93 0 1 = nI n := by rw [hM_93]; exact (wr_ne (Or.inl (by omega))).trans hk_90
            have hk_95 : M_93 0 3 = nI nf := by rw [hM_93]; exact (wr_ne (Or.inl (by omega))).trans hk_91
            refine lv_aload_n hx hb dX5_truth_350 rfl (lv_at hl 6 rfl) ?_
            refine va_get (D := D) (ci := 5) (v := .ref (b 9)) (C := RX5) (T := TX5) (N := 15) hx hb hts hinX5 hown hK1 hP 0 rfl rfl 12 (by decide) (hts (.fieldLink RX5 34 "KnowledgeModelModel" "areKnown" "[Z") (List.mem_of_getElem? (i := 1) rfl)) (fun _ h9 => h9) rfl dX5_truth_351 ?_
            refine lv_iload_n hx hb dX5_truth_354 rfl (lv_at hl 5 rfl) ?_
            refine lv_iconst (v := (nI 1)) hx hb dX5_truth_355 (by decide) ?_
            refine xzast (j := (40 * lv) + f) (q0 := 9) (t0 := 3) (ws' := rc cs b (wr M_93 9 ((40 * lv) + f) (nI 1))) hx hb hK1 hP (rD hI) hS rfl rfl (by omega) (by decide) (by decide) rs_9 dX5_truth_356 (fun H locs hP hS => ?_)
            obtain ⟨M_96, hM_96⟩ : ∃ z, z = wr M_93 9 ((40 * lv) + f) (nI 1) := ⟨_, rfl⟩
            rw [← hM_96] at hP
            have hk_97 : M_96 0 1 = nI n := by rw [hM_96]; exact (wr_ne (Or.inl (by omega))).trans hk_94
            have hk_98 : M_96 0 3 = nI nf := by rw [hM_96]; exact (wr_ne (Or.inl (by omega))).trans hk_95
            refine lv_iload hx hb dX5_truth_357 (lv_at hl 0 rfl) ?_
            subst hQ
            have hrel : TR M0 M n nf kd p1 p2 sb ag lv mo M_96 := by first | exact TR_r hti | (simp only [fo_0, c13, c57, c87, c115, hM_85, hx_92, hM_93, hM_96]; exact TR_w (TR_r hti) hf hval) | (simp only [fo_0, c13, c57, c87, c115, hM_85, hx_92, hM_93, hM_96]; exact TR_w hu_81 hf hval) | (simp only [fo_0, c13, c57, c87, c115, hM_85, hx_92, hM_93, hM_96]; exact TR_w (TR_t hu_81 hu_89) hf hval) | (simp only [fo_0, c13, c57, c87, c115, hM_85, hx_92, hM_93, hM_96]; exact TR_w (TR_b hu_81 hf40 (by simpa only [fo_0, c13, c57, c87, c115, hM_85, hx_92, hM_93, hM_96] using hu_89)) hf hval)
            have hfin : ((mo &&& ((semR M0 n kd p1 p2 sb ag mo (p1 f)) ^^^ (-1 : Int32))) ||| (semR M0 n kd p1 p2 sb ag (semR M0 n kd p1 p2 sb ag mo (p1 f)) (p2 f))) = semR M0 n kd p1 p2 sb ag mo f := by first | exact hval | rfl
            exact W.iret hx hb hr (fun t ht hW => ⟨⟨_, M_96, rfl, ⟨hfin, hrel⟩, by rw [← ht] at hP; exact hP⟩, hS.F ht⟩) hS.2.2 dX5_truth_359
        ·
          replace c87 : 6 = 1 := k_nef c87 (by omega) (by omega)
          exfalso; omega
      ·
        replace c57 : 6 = 2 := k_nef c57 (by omega) (by omega)
        exfalso; omega
    ·
      refine lv_aload_n hx hb dX5_truth_16 rfl (lv_at hl 1 rfl) ?_
      refine va_get (D := D) (ci := 5) (v := .ref (b 10)) (C := RX5) (T := TX5) (N := 15) hx hb hts hinX5 hown hK1 hP 0 rfl rfl 13 (by decide) (hts (.fieldLink RX5 38 "KnowledgeModelModel" "truths" "[I") (List.mem_of_getElem? (i := 2) rfl)) (fun _ h9 => h9) rfl dX5_truth_17 ?_
      refine lv_iload_n hx hb dX5_truth_20 rfl (lv_at hl 0 rfl) ?_
      refine xiald (j := (40 * lv) + f) (q0 := 10) (t0 := 0) hx hb hK1 hP rfl rfl (by omega) (by decide) dX5_truth_21 ?_
      refine xtop (y := (semR M0 n kd p1 p2 sb ag mo f)) (by exact ((hti.2 f hf).resolve_left c13).2) ?_
      subst hQ
      have hrel : TR M0 M n nf kd p1 p2 sb ag lv mo M := by first | exact TR_r hti | (simp only [fo_0, c13]; exact TR_w (TR_r hti) hf hval) | (simp only [fo_0, c13]; exact TR_w trivial hf hval) | (simp only [fo_0, c13]; exact TR_w (TR_t trivial trivial) hf hval) | (simp only [fo_0, c13]; exact TR_w (TR_b trivial hf40 (by simpa only [fo_0, c13] using trivial)) hf hval)
      have hfin : (semR M0 n kd p1 p2 sb ag mo f) = semR M0 n kd p1 p2 sb ag mo f := by first | exact hval | rfl
      exact W.iret hx hb hr (fun t ht hW => ⟨⟨_, M, rfl, ⟨hfin, hrel⟩, by rw [← ht] at hP; exact hP⟩, hS.F ht⟩) hS.2.2 dX5_truth_22

set_option maxHeartbeats 4000000 in
set_option maxRecDepth 100000 in
theorem c_X5_truth_0 (l : Launch) (D : va_G) (cs : Nat → ClassId) (b : Nat → Nat) (hI : kI b 12) (n nf : Nat) (kd p1 p2 ns sb ag : Nat → Nat) (M0 : Nat → Nat → Int32) (hn0 : M0 0 1 = nI n) (hn24 : n ≤ 24) (hwf : WFR M0 nf kd p1 p2 ns sb ag) (hfc0 : M0 0 3 = nI nf) (hf40 : nf ≤ 40) (f : Nat) : ∀ (M : Nat → Nat → Int32) (sz lv : Nat) (mo : Int32) (hag : Ag8 M M0) (hlv : lv = 0) (hf : f < nf) (hns : ns f + lv ≤ 2) (hti : TI M0 M n nf kd p1 p2 sb ag lv mo), Met l yX5_truth wsX5_truth ({ frames := 106 + f, cells := 0, slots := 0, locals := 3100 + 31 * f } : Room) (va_Pc [.ref (b 0), .int (nI lv), .int (nI f)] (XBs D cs (rc cs b M) sz)) (va_Qi (fun r (u : Nat → Nat → Int32) => r = semR M0 n kd p1 p2 sb ag mo f ∧ TR M0 M n nf kd p1 p2 sb ag lv mo u) (fun u t => va_P D vwCl (rc cs b u) t.heap) (kA b 12 sz)) 0 0 (kA b 12 sz) := by
  refine Nat.strongRecOn f (fun f ih => ?_)
  intro M sz lv mo hag hlv hf hns hti
  have hn : M 0 1 = nI n := (hag 0 1 (by decide)).trans hn0
  have hfc : M 0 3 = nI nf := (hag 0 3 (by decide)).trans hfc0
  refine Met.ofW (cc := cX5_truth) (maxL := 12) (ret := (some .int)) (by decide) rfl ?_
  intro p e s m args below meth c s₁ B hml hv
  obtain ⟨rfl, hsz, hP, hK⟩ := hv
  have hx := B.exec
  have hb := B.bytes
  have hr := B.returns
  have hts := atoms_spec (ws := wsX5_truth) B.pre
  have hown : s.vm.findClass RX5 = some m.cls := findClass_of_methodNamed B.named
  have hlocks := B.notSynchronized
  have hK1 := hK.1
  have hinX5 : ∀ w ∈ wsX50, w ∈ wsX5_truth := fun w h => List.mem_cons_of_mem _ (List.mem_append_right _ h)
  subst hsz
  have hS : va_S (kA b 12 s.heap.size) s.heap s.heap [] := va_S.rf
  have hl := lv_entry ([.ref (b 0), .int (nI lv), .int (nI f)]) (n := 12) (Nat.le_of_ble_eq_true rfl)
  rw [lg_entry_eq]
  generalize (lg_sl ([.ref (b 0), .int (nI lv), .int (nI f)]) ++ List.replicate (12 - (lg_sl ([.ref (b 0), .int (nI lv), .int (nI f)])).length) Slot.unset).toArray = ls at hl ⊢
  have hl : lv_has ls 12 [(0, .ref (b 0)), (1, .int (nI lv)), (2, .int (nI f))] := hl
  refine W_Q (fun Q hQ => ?_)
  show W p l e ({ frames := 106 + f, cells := 0, slots := 0, locals := 3100 + 31 * f } : Room) s m ([.ref (b 0), .int (nI lv), .int (nI f)] : List Value).toArray below meth c s.heap [] 0 0 Q (F0 m 0 ls [])
  obtain ⟨⟨hk7, hk3, hk2⟩, hA, hB, hC, hG, hE1, hE2, hE6⟩ := hwf.2 f hf
  have hwp := hwf.1
  have hL := hwf.1 f hf
  rcases (show kd f = 0 ∨ kd f = 1 ∨ kd f = 2 ∨ kd f = 3 ∨ kd f = 4 ∨ kd f = 5 ∨ kd f = 6 by omega) with hkd | hkd | hkd | hkd | hkd | hkd | hkd
  ·
    obtain ⟨hA1, hA2⟩ := hA hkd
    refine lv_bipush (v := (nI 40)) hx hb dX5_truth_0 (by decide) ?_
    refine lv_iload_n hx hb dX5_truth_2 rfl (lv_at hl 1 rfl) ?_
    refine ximul hx hb dX5_truth_3 ?_
    refine lv_iload_n hx hb dX5_truth_4 rfl (lv_at hl 2 rfl) ?_
    refine xiadd hx hb dX5_truth_5 ?_
    refine lv_istore_n (lv' := [(3, .int (nI ((40 * lv) + f))), (0, .ref (b 0)), (1, .int (nI lv)), (2, .int (nI f))]) hx hb dX5_truth_6 rfl hl (by decide) rfl (fun ls hl => ?_)
    refine lv_aload_n hx hb dX5_truth_7 rfl (lv_at hl 1 rfl) ?_
    refine va_get (D := D) (ci := 5) (v := .ref (b 9)) (C := RX5) (T := TX5) (N := 15) hx hb hts hinX5 hown hK1 hP 0 rfl rfl 12 (by decide) (hts (.fieldLink RX5 34 "KnowledgeModelModel" "areKnown" "[Z") (List.mem_of_getElem? (i := 1) rfl)) (fun _ h9 => h9) rfl dX5_truth_8 ?_
    refine lv_iload_n hx hb dX5_truth_11 rfl (lv_at hl 0 rfl) ?_
    refine xzald (j := (40 * lv) + f) (q0 := 9) (t0 := 3) hx hb hK1 hP rfl rfl (by omega) (by decide) dX5_truth_12 ?_
    refine lv_if_eq (tgt := 23) hx hb dX5_truth_13 (by decide) (fun c13 => ?_) (fun c13 => ?_)
    ·
      refine lv_aload_n hx hb dX5_truth_23 rfl (lv_at hl 1 rfl) ?_
      refine va_get (D := D) (ci := 5) (v := .ref (b 8)) (C := RX5) (T := TX5) (N := 15) hx hb hts hinX5 hown hK1 hP 0 rfl rfl 11 (by decide) (hts (.fieldLink RX5 31 "KnowledgeModelModel" "lefts" "[I") (List.mem_of_getElem? (i := 3) rfl)) (fun _ h9 => h9) rfl dX5_truth_24 ?_
      refine lv_iload_n hx hb dX5_truth_27 rfl (lv_at hl 2 rfl) ?_
      refine xiald (j := lv) (q0 := 8) (t0 := 0) hx hb hK1 hP rfl rfl (by omega) (by decide) dX5_truth_28 ?_
      refine xtop (y := mo) (by exact hti.1) ?_
      refine lv_istore (lv' := [(4, .int mo), (3, .int (nI ((40 * lv) + f))), (0, .ref (b 0)), (1, .int (nI lv)), (2, .int (nI f))]) hx hb dX5_truth_29 hl (by decide) rfl (fun ls hl => ?_)
      refine lv_aload_n hx hb dX5_truth_31 rfl (lv_at hl 2 rfl) ?_
      refine va_get (D := D) (ci := 5) (v := .ref (b 4)) (C := RX5) (T := TX5) (N := 15) hx hb hts hinX5 hown hK1 hP 0 rfl rfl 7 (by decide) (hts (.fieldLink RX5 19 "KnowledgeModelModel" "firsts" "[I") (List.mem_of_getElem? (i := 4) rfl)) (fun _ h9 => h9) rfl dX5_truth_32 ?_
      refine lv_iload_n hx hb dX5_truth_35 rfl (lv_at hl 4 rfl) ?_
      refine xiald (j := f) (q0 := 4) (t0 := 0) hx hb hK1 hP rfl rfl (by omega) (by decide) dX5_truth_36 ?_
      refine xtop (y := (nI (sb f))) (by exact (hag 4 f (by decide)).trans hA1) ?_
      refine lv_istore (lv' := [(5, .int (nI (sb f))), (4, .int mo), (3, .int (nI ((40 * lv) + f))), (0, .ref (b 0)), (1, .int (nI lv)), (2, .int (nI f))]) hx hb dX5_truth_37 hl (by decide) rfl (fun ls hl => ?_)
      refine lv_aload_n hx hb dX5_truth_39 rfl (lv_at hl 3 rfl) ?_
      refine va_get (D := D) (ci := 5) (v := .ref (b 5)) (C := RX5) (T := TX5) (N := 15) hx hb hts hinX5 hown hK1 hP 0 rfl rfl 8 (by decide) (hts (.fieldLink RX5 22 "KnowledgeModelModel" "seconds" "[I") (List.mem_of_getElem? (i := 5) rfl)) (fun _ h9 => h9) rfl dX5_truth_40 ?_
      refine lv_iload_n hx hb dX5_truth_43 rfl (lv_at hl 5 rfl) ?_
      refine xiald (j := f) (q0 := 5) (t0 := 0) hx hb hK1 hP rfl rfl (by omega) (by decide) dX5_truth_44 ?_
      refine xtop (y := (M0 5 f)) (by exact hag 5 f (by decide)) ?_
      refine lv_istore (lv' := [(6, .int (M0 5 f)), (5, .int (nI (sb f))), (4, .int mo), (3, .int (nI ((40 * lv) + f))), (0, .ref (b 0)), (1, .int (nI lv)), (2, .int (nI f))]) hx hb dX5_truth_45 hl (by decide) rfl (fun ls hl => ?_)
      refine lv_iconst (v := (nI 0)) hx hb dX5_truth_47 (by decide) ?_
      refine lv_istore (lv' := [(7, .int (nI 0)), (6, .int (M0 5 f)), (5, .int (nI (sb f))), (4, .int mo), (3, .int (nI ((40 * lv) + f))), (0, .ref (b 0)), (1, .int (nI lv)), (2, .int (nI f))]) hx hb dX5_truth_48 hl (by decide) rfl (fun ls hl => ?_)
      refine lv_aload_n hx hb dX5_truth_50 rfl (lv_at hl 5 rfl) ?_
      refine va_get (D := D) (ci := 5) (v := .ref (b 3)) (C := RX5) (T := TX5) (N := 15) hx hb hts hinX5 hown hK1 hP 0 rfl rfl 6 (by decide) (hts (.fieldLink RX5 16 "KnowledgeModelModel" "kinds" "[I") (List.mem_of_getElem? (i := 6) rfl)) (fun _ h9 => h9) rfl dX5_truth_51 ?_
      refine lv_iload_n hx hb dX5_truth_54 rfl (lv_at hl 7 rfl) ?_
      refine xiald (j := f) (q0 := 3) (t0 := 0) hx hb hK1 hP rfl rfl (by omega) (by decide) dX5_truth_55 ?_
      refine xtop (y := (nI 0)) (by exact ((hag 3 f (by decide)).trans hk3).trans (congrArg nI hkd)) ?_
      refine lv_iconst (v := (nI 2)) hx hb dX5_truth_56 (by decide) ?_
      refine lv_icmp_ne (tgt := 80) hx hb dX5_truth_57 (by decide) (fun c57 => ?_) (fun c57 => ?_)
      ·
        replace c57 : ¬ 0 = 2 := k_net c57 (by omega) (by omega)
        refine lv_aload_n hx hb dX5_truth_80 rfl (lv_at hl 5 rfl) ?_
        refine va_get (D := D) (ci := 5) (v := .ref (b 3)) (C := RX5) (T := TX5) (N := 15) hx hb hts hinX5 hown hK1 hP 0 rfl rfl 6 (by decide) (hts (.fieldLink RX5 16 "KnowledgeModelModel" "kinds" "[I") (List.mem_of_getElem? (i := 6) rfl)) (fun _ h9 => h9) rfl dX5_truth_81 ?_
        refine lv_iload_n hx hb dX5_truth_84 rfl (lv_at hl 7 rfl) ?_
        refine xiald (j := f) (q0 := 3) (t0 := 0) hx hb hK1 hP rfl rfl (by omega) (by decide) dX5_truth_85 ?_
        refine xtop (y := (nI 0)) (by exact ((hag 3 f (by decide)).trans hk3).trans (congrArg nI hkd)) ?_
        refine lv_iconst (v := (nI 1)) hx hb dX5_truth_86 (by decide) ?_
        refine lv_icmp_ne (tgt := 107) hx hb dX5_truth_87 (by decide) (fun c87 => ?_) (fun c87 => ?_)
        ·
          replace c87 : ¬ 0 = 1 := k_net c87 (by omega) (by omega)
          refine lv_aload_n hx hb dX5_truth_107 rfl (lv_at hl 5 rfl) ?_
          refine va_get (D := D) (ci := 5) (v := .ref (b 3)) (C := RX5) (T := TX5) (N := 15) hx hb hts hinX5 hown hK1 hP 0 rfl rfl 6 (by decide) (hts (.fieldLink RX5 16 "KnowledgeModelModel" "kinds" "[I") (List.mem_of_getElem? (i := 6) rfl)) (fun _ h9 => h9) rfl dX5_truth_108 ?_
          refine lv_iload_n hx hb dX5_truth_111 rfl (lv_at hl 7 rfl) ?_
          refine xiald (j := f) (q0 := 3) (t0 := 0) hx hb hK1 hP rfl rfl (by omega) (by decide) dX5_truth_112 ?_
          refine xtop (y := (nI 0)) (by exact ((hag 3 f (by decide)).trans hk3).trans (congrArg nI hkd)) ?_
          refine lv_bipush (v := (nI 6)) hx hb dX5_truth_113 (by decide) ?_
          refine lv_icmp_ne (tgt := 158) hx hb dX5_truth_115 (by decide) (fun c115 => ?_) (fun c115 => ?_)
          ·
            replace c115 : ¬ 0 = 6 := k_net c115 (by omega) (by omega)
            refine lv_aload_n hx hb dX5_truth_158 rfl (lv_at hl 5 rfl) ?_
            refine va_get (D := D) (ci := 5) (v := .ref (b 3)) (C := RX5) (T := TX5) (N := 15) hx hb hts hinX5 hown hK1 hP 0 rfl rfl 6 (by decide) (hts (.fieldLink RX5 16 "KnowledgeModelModel" "kinds" "[I") (List.mem_of_getElem? (i := 6) rfl)) (fun _ h9 => h9) rfl dX5_truth_159 ?_
            refine lv_iload_n hx hb dX5_truth_162 rfl (lv_at hl 7 rfl) ?_
            refine xiald (j := f) (q0 := 3) (t0 := 0) hx hb hK1 hP rfl rfl (by omega) (by decide) dX5_truth_163 ?_
            refine xtop (y := (nI 0)) (by exact ((hag 3 f (by decide)).trans hk3).trans (congrArg nI hkd)) ?_
            refine lv_if_ne (tgt := 171) hx hb dX5_truth_164 (by decide) (fun c164 => ?_) (fun c164 => ?_)
            ·
              replace c164 : ¬ 0 = 0 := k0_net c164 (by omega)
              exfalso; omega
            ·
              replace c164 : 0 = 0 := k0_nef c164 (by omega)
              refine lv_iconst (v := (nI 0)) hx hb dX5_truth_167 (by decide) ?_
              refine lv_goto (tgt := 178) hx hb dX5_truth_168 (by decide) ?_
              refine lv_istore (lv' := [(8, .int (nI 0)), (7, .int (nI 0)), (6, .int (M0 5 f)), (5, .int (nI (sb f))), (4, .int mo), (3, .int (nI ((40 * lv) + f))), (0, .ref (b 0)), (1, .int (nI lv)), (2, .int (nI f))]) hx hb dX5_truth_178 hl (by decide) rfl (fun ls hl => ?_)
              refine lv_iconst (v := (nI 0)) hx hb dX5_truth_180 (by decide) ?_
              refine lv_istore (lv' := [(9, .int (nI 0)), (8, .int (nI 0)), (7, .int (nI 0)), (6, .int (M0 5 f)), (5, .int (nI (sb f))), (4, .int mo), (3, .int (nI ((40 * lv) + f))), (0, .ref (b 0)), (1, .int (nI lv)), (2, .int (nI f))]) hx hb dX5_truth_181 hl (by decide) rfl (fun ls hl => ?_)
              have cut183 : ∀ (f183 : Nat) (j : Nat) (hj : j ≤ n), n + 1 ≤ j + f183 → ∀ (H : Heap) (locs : List Loc), va_P D vwCl (rc cs b M) H → va_S (kA b 12 s.heap.size) s.heap H locs → ∀ (ls : Array Slot), lv_has ls 12 [(0, .ref (b 0)), (1, .int (nI lv)), (2, .int (nI f)), (3, .int (nI ((40 * lv) + f))), (4, .int mo), (5, .int (nI (sb f))), (6, .int (M0 5 f)), (7, .int (fo (fun w r => if bt mo w && bt (M0 1 w) (sb f) then r ||| sg w else r) (nI 0) j)), (8, .int (nI 0)), (9, .int (nI j))] → W p l e ({ frames := 106 + f, cells := 0, slots := 0, locals := 3100 + 31 * f } : Room) s m ([.ref (b 0), .int (nI lv), .int (nI f)] : List Value).toArray below meth c H locs 0 0 Q (F0 m 183 ls []) := by
                intro f183
                induction f183 with
                | zero => intro j hj hfu183; exact absurd hfu183 (by omega)
                | succ f183 cut183 =>
                  intro j hj hfu183 H locs hP hS ls hl
                  refine lv_iload hx hb dX5_truth_183 (lv_at hl 9 rfl) ?_
                  refine lv_aload_n hx hb dX5_truth_185 rfl (lv_at hl 0 rfl) ?_
                  refine va_get (D := D) (ci := 5) (v := .int (M 0 1)) (C := RX5) (T := TX5) (N := 15) hx hb hts hinX5 hown hK1 hP 0 rfl rfl 1 (by decide) (hts (.fieldLink RX5 48 "KnowledgeModelModel" "worlds" "I") (List.mem_of_getElem? (i := 7) rfl)) (fun _ h9 => h9) rfl dX5_truth_186 ?_
                  refine xtop (y := nI n) (hn) ?_
                  refine lv_icmp_ge (tgt := 342) hx hb dX5_truth_189 (by decide) (fun c189 => ?_) (fun c189 => ?_)
                  ·
                    replace c189 : n ≤ j := k_get c189 (by omega) (by omega)
                    have hje : j = n := by omega
                    have hval : (fo (fun w r => if bt mo w && bt (M0 1 w) (sb f) then r ||| sg w else r) (nI 0) j) = semR M0 n kd p1 p2 sb ag mo f := by rw [semR_eq hwp hf]; simp only [askR, hkd, if_true, if_false, show (1 : Nat) ≠ 0 by decide, show (2 : Nat) ≠ 0 by decide, show (2 : Nat) ≠ 1 by decide, show (3 : Nat) ≠ 0 by decide, show (3 : Nat) ≠ 1 by decide, show (3 : Nat) ≠ 2 by decide, show (3 : Nat) ≠ 6 by decide, show (4 : Nat) ≠ 0 by decide, show (4 : Nat) ≠ 1 by decide, show (4 : Nat) ≠ 2 by decide, show (4 : Nat) ≠ 3 by decide, show (4 : Nat) ≠ 6 by decide, show (5 : Nat) ≠ 0 by decide, show (5 : Nat) ≠ 1 by decide, show (5 : Nat) ≠ 2 by decide, show (5 : Nat) ≠ 3 by decide, show (5 : Nat) ≠ 4 by decide, show (5 : Nat) ≠ 6 by decide, show (6 : Nat) ≠ 0 by decide, show (6 : Nat) ≠ 1 by decide, show (6 : Nat) ≠ 2 by decide, hje]
                    refine lv_aload_n hx hb dX5_truth_342 rfl (lv_at hl 0 rfl) ?_
                    refine va_get (D := D) (ci := 5) (v := .ref (b 10)) (C := RX5) (T := TX5) (N := 15) hx hb hts hinX5 hown hK1 hP 0 rfl rfl 13 (by decide) (hts (.fieldLink RX5 38 "KnowledgeModelModel" "truths" "[I") (List.mem_of_getElem? (i := 2) rfl)) (fun _ h9 => h9) rfl dX5_truth_343 ?_
                    refine lv_iload_n hx hb dX5_truth_346 rfl (lv_at hl 3 rfl) ?_
                    refine lv_iload hx hb dX5_truth_347 (lv_at hl 7 rfl) ?_
                    refine lv_topi (fun x_1 hx_1 => ?_)
                    refine xiast (j := (40 * lv) + f) (q0 := 10) (t0 := 0) (ws' := rc cs b (wr M 10 ((40 * lv) + f) x_1)) hx hb hK1 hP (rD hI) hS rfl rfl (by omega) (by decide) rs_10 dX5_truth_349 (fun H locs hP hS => ?_)
                    obtain ⟨M_2, hM_2⟩ : ∃ z, z = wr M 10 ((40 * lv) + f) x_1 := ⟨_, rfl⟩
                    rw [← hM_2] at hP
                    have hk_3 : M_2 0 1 = nI n := by rw [hM_2]; exact (wr_ne (Or.inl (by omega))).trans hn
                    have hk_4 : M_2 0 3 = nI nf := by rw [hM_2]; exact (wr_ne (Or.inl (by omega))).trans hfc
                    refine lv_aload_n hx hb dX5_truth_350 rfl (lv_at hl 0 rfl) ?_
                    refine va_get (D := D) (ci := 5) (v := .ref (b 9)) (C := RX5) (T := TX5) (N := 15) hx hb hts hinX5 hown hK1 hP 0 rfl rfl 12 (by decide) (hts (.fieldLink RX5 34 "KnowledgeModelModel" "areKnown" "[Z") (List.mem_of_getElem? (i := 1) rfl)) (fun _ h9 => h9) rfl dX5_truth_351 ?_
                    refine lv_iload_n hx hb dX5_truth_354 rfl (lv_at hl 3 rfl) ?_
                    refine lv_iconst (v := (nI 1)) hx hb dX5_truth_355 (by decide) ?_
                    refine xzast (j := (40 * lv) + f) (q0 := 9) (t0 := 3) (ws' := rc cs b (wr M_2 9 ((40 * lv) + f) (nI 1))) hx hb hK1 hP (rD hI) hS rfl rfl (by omega) (by decide) (by decide) rs_9 dX5_truth_356 (fun H locs hP hS => ?_)
                    obtain ⟨M_5, hM_5⟩ : ∃ z, z = wr M_2 9 ((40 * lv) + f) (nI 1) := ⟨_, rfl⟩
                    rw [← hM_5] at hP
                    have hk_6 : M_5 0 1 = nI n := by rw [hM_5]; exact (wr_ne (Or.inl (by omega))).trans hk_3
                    have hk_7 : M_5 0 3 = nI nf := by rw [hM_5]; exact (wr_ne (Or.inl (by omega))).trans hk_4
                    refine lv_iload hx hb dX5_truth_357 (lv_at hl 7 rfl) ?_
                    subst hQ
                    have hrel : TR M0 M n nf kd p1 p2 sb ag lv mo M_5 := by first | exact TR_r hti | (simp only [fo_0, c13, c57, c87, c115, c164, c189, hx_1, hM_2, hM_5]; exact TR_w (TR_r hti) hf hval) | (simp only [fo_0, c13, c57, c87, c115, c164, c189, hx_1, hM_2, hM_5]; exact TR_w trivial hf hval) | (simp only [fo_0, c13, c57, c87, c115, c164, c189, hx_1, hM_2, hM_5]; exact TR_w (TR_t trivial trivial) hf hval) | (simp only [fo_0, c13, c57, c87, c115, c164, c189, hx_1, hM_2, hM_5]; exact TR_w (TR_b trivial hf40 (by simpa only [fo_0, c13, c57, c87, c115, c164, c189, hx_1, hM_2, hM_5] using trivial)) hf hval)
                    have hfin : (fo (fun w r => if bt mo w && bt (M0 1 w) (sb f) then r ||| sg w else r) (nI 0) j) = semR M0 n kd p1 p2 sb ag mo f := by first | exact hval | rfl
                    exact W.iret hx hb hr (fun t ht hW => ⟨⟨_, M_5, rfl, ⟨hfin, hrel⟩, by rw [← ht] at hP; exact hP⟩, hS.F ht⟩) hS.2.2 dX5_truth_359
                  ·
                    replace c189 : j < n := k_gef c189 (by omega) (by omega)
                    refine lv_iload hx hb dX5_truth_192 (lv_at hl 4 rfl) ?_
                    refine lv_iload hx hb dX5_truth_194 (lv_at hl 9 rfl) ?_
                    refine xcalli (va_runS (As := [.int mo, .int (nI j)]) (rest := []) ⟨hx, hb, hml, hown, hts⟩ (c_X5_has l mo j (by omega)) (va_cwS 2 hts gX5_truth_X5_has rfl rfl rfl (by decide +kernel) ⟨by dsimp only; omega, by dsimp only; omega⟩) xpreN rfl rfl hl.1 rfl (lv_room (Nat.le_of_ble_eq_true rfl)) dX5_truth_196 ⟨Nat.le_of_ble_eq_true rfl, Nat.le_of_ble_eq_true rfl⟩) hS hP (fun H locs hP hS => ?_)
                    refine lv_if_ne (tgt := 205) hx hb dX5_truth_199 (by decide) (fun c199 => ?_) (fun c199 => ?_)
                    ·
                      replace c199 := bI_n0 c199
                      refine lv_aload_n hx hb dX5_truth_205 rfl (lv_at hl 0 rfl) ?_
                      refine va_get (D := D) (ci := 5) (v := .ref (b 3)) (C := RX5) (T := TX5) (N := 15) hx hb hts hinX5 hown hK1 hP 0 rfl rfl 6 (by decide) (hts (.fieldLink RX5 16 "KnowledgeModelModel" "kinds" "[I") (List.mem_of_getElem? (i := 6) rfl)) (fun _ h9 => h9) rfl dX5_truth_206 ?_
                      refine lv_iload_n hx hb dX5_truth_209 rfl (lv_at hl 2 rfl) ?_
                      refine xiald (j := f) (q0 := 3) (t0 := 0) hx hb hK1 hP rfl rfl (by omega) (by decide) dX5_truth_210 ?_
                      refine xtop (y := (nI 0)) (by exact ((hag 3 f (by decide)).trans hk3).trans (congrArg nI hkd)) ?_
                      refine lv_iconst (v := (nI 3)) hx hb dX5_truth_211 (by decide) ?_
                      refine lv_icmp_ne (tgt := 231) hx hb dX5_truth_212 (by decide) (fun c212 => ?_) (fun c212 => ?_)
                      ·
                        replace c212 : ¬ 0 = 3 := k_net c212 (by omega) (by omega)
                        refine lv_aload_n hx hb dX5_truth_231 rfl (lv_at hl 0 rfl) ?_
                        refine va_get (D := D) (ci := 5) (v := .ref (b 3)) (C := RX5) (T := TX5) (N := 15) hx hb hts hinX5 hown hK1 hP 0 rfl rfl 6 (by decide) (hts (.fieldLink RX5 16 "KnowledgeModelModel" "kinds" "[I") (List.mem_of_getElem? (i := 6) rfl)) (fun _ h9 => h9) rfl dX5_truth_232 ?_
                        refine lv_iload_n hx hb dX5_truth_235 rfl (lv_at hl 2 rfl) ?_
                        refine xiald (j := f) (q0 := 3) (t0 := 0) hx hb hK1 hP rfl rfl (by omega) (by decide) dX5_truth_236 ?_
                        refine xtop (y := (nI 0)) (by exact ((hag 3 f (by decide)).trans hk3).trans (congrArg nI hkd)) ?_
                        refine lv_iconst (v := (nI 4)) hx hb dX5_truth_237 (by decide) ?_
                        refine lv_icmp_ne (tgt := 254) hx hb dX5_truth_238 (by decide) (fun c238 => ?_) (fun c238 => ?_)
                        ·
                          replace c238 : ¬ 0 = 4 := k_net c238 (by omega) (by omega)
                          refine lv_aload_n hx hb dX5_truth_254 rfl (lv_at hl 0 rfl) ?_
                          refine va_get (D := D) (ci := 5) (v := .ref (b 3)) (C := RX5) (T := TX5) (N := 15) hx hb hts hinX5 hown hK1 hP 0 rfl rfl 6 (by decide) (hts (.fieldLink RX5 16 "KnowledgeModelModel" "kinds" "[I") (List.mem_of_getElem? (i := 6) rfl)) (fun _ h9 => h9) rfl dX5_truth_255 ?_
                          refine lv_iload_n hx hb dX5_truth_258 rfl (lv_at hl 2 rfl) ?_
                          refine xiald (j := f) (q0 := 3) (t0 := 0) hx hb hK1 hP rfl rfl (by omega) (by decide) dX5_truth_259 ?_
                          refine xtop (y := (nI 0)) (by exact ((hag 3 f (by decide)).trans hk3).trans (congrArg nI hkd)) ?_
                          refine lv_iconst (v := (nI 5)) hx hb dX5_truth_260 (by decide) ?_
                          refine lv_icmp_ne (tgt := 275) hx hb dX5_truth_261 (by decide) (fun c261 => ?_) (fun c261 => ?_)
                          ·
                            replace c261 : ¬ 0 = 5 := k_net c261 (by omega) (by omega)
                            refine lv_iconst (v := (nI 0)) hx hb dX5_truth_275 (by decide) ?_
                            refine lv_istore (lv' := [(10, .int (nI 0)), (0, .ref (b 0)), (1, .int (nI lv)), (2, .int (nI f)), (3, .int (nI ((40 * lv) + f))), (4, .int mo), (5, .int (nI (sb f))), (6, .int (M0 5 f)), (7, .int (fo (fun w r => if bt mo w && bt (M0 1 w) (sb f) then r ||| sg w else r) (nI 0) j)), (8, .int (nI 0)), (9, .int (nI j))]) hx hb dX5_truth_276 hl (by decide) rfl (fun ls hl => ?_)
                            refine lv_aload_n hx hb dX5_truth_278 rfl (lv_at hl 1 rfl) ?_
                            refine va_get (D := D) (ci := 5) (v := .ref (b 3)) (C := RX5) (T := TX5) (N := 15) hx hb hts hinX5 hown hK1 hP 0 rfl rfl 6 (by decide) (hts (.fieldLink RX5 16 "KnowledgeModelModel" "kinds" "[I") (List.mem_of_getElem? (i := 6) rfl)) (fun _ h9 => h9) rfl dX5_truth_279 ?_
                            refine lv_iload_n hx hb dX5_truth_282 rfl (lv_at hl 3 rfl) ?_
                            refine xiald (j := f) (q0 := 3) (t0 := 0) hx hb hK1 hP rfl rfl (by omega) (by decide) dX5_truth_283 ?_
                            refine xtop (y := (nI 0)) (by exact ((hag 3 f (by decide)).trans hk3).trans (congrArg nI hkd)) ?_
                            refine lv_if_ne (tgt := 302) hx hb dX5_truth_284 (by decide) (fun c284 => ?_) (fun c284 => ?_)
                            ·
                              replace c284 : ¬ 0 = 0 := k0_net c284 (by omega)
                              exfalso; omega
                            ·
                              replace c284 : 0 = 0 := k0_nef c284 (by omega)
                              refine lv_aload_n hx hb dX5_truth_287 rfl (lv_at hl 1 rfl) ?_
                              refine va_get (D := D) (ci := 5) (v := .ref (b 1)) (C := RX5) (T := TX5) (N := 15) hx hb hts hinX5 hown hK1 hP 0 rfl rfl 3 (by decide) (hts (.fieldLink RX5 9 "KnowledgeModelModel" "atoms" "[I") (List.mem_of_getElem? (i := 9) rfl)) (fun _ h9 => h9) rfl dX5_truth_288 ?_
                              refine lv_iload hx hb dX5_truth_291 (lv_at hl 10 rfl) ?_
                              refine xiald (j := j) (q0 := 1) (t0 := 0) hx hb hK1 hP rfl rfl (by omega) (by decide) dX5_truth_293 ?_
                              refine xtop (y := (M0 1 j)) (by exact hag 1 _ (by decide)) ?_
                              refine lv_iload hx hb dX5_truth_294 (lv_at hl 6 rfl) ?_
                              refine xcalli (va_runS (As := [.int (M0 1 j), .int (nI (sb f))]) (rest := []) ⟨hx, hb, hml, hown, hts⟩ (c_X5_has l (M0 1 j) (sb f) (by omega)) (va_cwS 2 hts gX5_truth_X5_has rfl rfl rfl (by decide +kernel) ⟨by dsimp only; omega, by dsimp only; omega⟩) xpreN rfl rfl hl.1 rfl (lv_room (Nat.le_of_ble_eq_true rfl)) dX5_truth_296 ⟨Nat.le_of_ble_eq_true rfl, Nat.le_of_ble_eq_true rfl⟩) hS hP (fun H locs hP hS => ?_)
                              refine lv_goto (tgt := 320) hx hb dX5_truth_299 (by decide) ?_
                              refine lv_istore (lv' := [(11, .int (bI (bt (M0 1 j) (sb f)))), (10, .int (nI 0)), (0, .ref (b 0)), (1, .int (nI lv)), (2, .int (nI f)), (3, .int (nI ((40 * lv) + f))), (4, .int mo), (5, .int (nI (sb f))), (6, .int (M0 5 f)), (7, .int (fo (fun w r => if bt mo w && bt (M0 1 w) (sb f) then r ||| sg w else r) (nI 0) j)), (8, .int (nI 0)), (9, .int (nI j))]) hx hb dX5_truth_320 hl (by decide) rfl (fun ls hl => ?_)
                              refine lv_iload hx hb dX5_truth_322 (lv_at hl 0 rfl) ?_
                              refine lv_if_eq (tgt := 336) hx hb dX5_truth_324 (by decide) (fun c324 => ?_) (fun c324 => ?_)
                              ·
                                replace c324 := bI_0 c324
                                refine lv_iinc (v := (nI (j + 1))) (lv' := [(9, .int (nI (j + 1))), (11, .int (bI (bt (M0 1 j) (sb f)))), (10, .int (nI 0)), (0, .ref (b 0)), (1, .int (nI lv)), (2, .int (nI f)), (3, .int (nI ((40 * lv) + f))), (4, .int mo), (5, .int (nI (sb f))), (6, .int (M0 5 f)), (7, .int (fo (fun w r => if bt mo w && bt (M0 1 w) (sb f) then r ||| sg w else r) (nI 0) j)), (8, .int (nI 0))]) hx hb dX5_truth_336 hl (k := 11) rfl (nI_add j 1) (by decide) rfl (fun ls hl => ?_)
                                refine lv_goto (tgt := 183) hx hb dX5_truth_339 (by decide) ?_
                                have e_8 : (fo (fun w r => if bt mo w && bt (M0 1 w) (sb f) then r ||| sg w else r) (nI 0) j) = (fo (fun w r => if bt mo w && bt (M0 1 w) (sb f) then r ||| sg w else r) (nI 0) (j + 1)) := by first | (rw [fo_s, if_neg (by rw [c199]; exact Bool.false_ne_true)]; done) | (rw [fo_s, if_pos (by rw [c199, c324]; rfl)]; assumption) | (rw [fo_s, if_neg (by rw [c199, c324]; exact Bool.false_ne_true)]; done)
                                exact cut183 (j + 1) (by omega) (by omega) _ _ hP hS ls (lcons (lcons (lcons (lcons (lcons (lcons (lcons (lcons (lcons (lcons (lzero hl) hl 0 rfl rfl) hl 11 rfl rfl) hl 10 rfl (congrArg Value.int e_8)) hl 9 rfl rfl) hl 8 rfl rfl) hl 7 rfl rfl) hl 6 rfl rfl) hl 5 rfl rfl) hl 4 rfl rfl) hl 3 rfl rfl)
                              ·
                                replace c324 := bI_n0 c324
                                refine lv_iload hx hb dX5_truth_327 (lv_at hl 9 rfl) ?_
                                refine lv_iconst (v := (nI 1)) hx hb dX5_truth_329 (by decide) ?_
                                refine lv_iload hx hb dX5_truth_330 (lv_at hl 11 rfl) ?_
                                refine lv_ishl hx hb dX5_truth_332 ?_
                                refine lv_ior hx hb dX5_truth_333 ?_
                                refine lv_topi (fun x_9 hx_9 => ?_)
                                refine lv_istore (lv' := [(7, .int x_9), (11, .int (bI (bt (M0 1 j) (sb f)))), (10, .int (nI 0)), (0, .ref (b 0)), (1, .int (nI lv)), (2, .int (nI f)), (3, .int (nI ((40 * lv) + f))), (4, .int mo), (5, .int (nI (sb f))), (6, .int (M0 5 f)), (8, .int (nI 0)), (9, .int (nI j))]) hx hb dX5_truth_334 hl (by decide) rfl (fun ls hl => ?_)
                                refine lv_iinc (v := (nI (j + 1))) (lv' := [(9, .int (nI (j + 1))), (7, .int x_9), (11, .int (bI (bt (M0 1 j) (sb f)))), (10, .int (nI 0)), (0, .ref (b 0)), (1, .int (nI lv)), (2, .int (nI f)), (3, .int (nI ((40 * lv) + f))), (4, .int mo), (5, .int (nI (sb f))), (6, .int (M0 5 f)), (8, .int (nI 0))]) hx hb dX5_truth_336 hl (k := 11) rfl (nI_add j 1) (by decide) rfl (fun ls hl => ?_)
                                refine lv_goto (tgt := 183) hx hb dX5_truth_339 (by decide) ?_
                                have e_10 : x_9 = (fo (fun w r => if bt mo w && bt (M0 1 w) (sb f) then r ||| sg w else r) (nI 0) (j + 1)) := by first | (rw [fo_s, if_neg (by rw [c199]; exact Bool.false_ne_true)]; done) | (rw [fo_s, if_pos (by rw [c199, c324]; rfl)]; assumption) | (rw [fo_s, if_neg (by rw [c199, c324]; exact Bool.false_ne_true)]; done)
                                exact cut183 (j + 1) (by omega) (by omega) _ _ hP hS ls (lcons (lcons (lcons (lcons (lcons (lcons (lcons (lcons (lcons (lcons (lzero hl) hl 0 rfl rfl) hl 11 rfl rfl) hl 1 rfl (congrArg Value.int e_10)) hl 10 rfl rfl) hl 9 rfl rfl) hl 8 rfl rfl) hl 7 rfl rfl) hl 6 rfl rfl) hl 5 rfl rfl) hl 4 rfl rfl)
                          ·
                            replace c261 : 0 = 5 := k_nef c261 (by omega) (by omega)
                            exfalso; omega
                        ·
                          replace c238 : 0 = 4 := k_nef c238 (by omega) (by omega)
                          exfalso; omega
                      ·
                        replace c212 : 0 = 3 := k_nef c212 (by omega) (by omega)
                        exfalso; omega
                    ·
                      replace c199 := bI_0 c199
                      refine lv_goto (tgt := 336) hx hb dX5_truth_202 (by decide) ?_
                      refine lv_iinc (v := (nI (j + 1))) (lv' := [(9, .int (nI (j + 1))), (0, .ref (b 0)), (1, .int (nI lv)), (2, .int (nI f)), (3, .int (nI ((40 * lv) + f))), (4, .int mo), (5, .int (nI (sb f))), (6, .int (M0 5 f)), (7, .int (fo (fun w r => if bt mo w && bt (M0 1 w) (sb f) then r ||| sg w else r) (nI 0) j)), (8, .int (nI 0))]) hx hb dX5_truth_336 hl (k := 9) rfl (nI_add j 1) (by decide) rfl (fun ls hl => ?_)
                      refine lv_goto (tgt := 183) hx hb dX5_truth_339 (by decide) ?_
                      have e_11 : (fo (fun w r => if bt mo w && bt (M0 1 w) (sb f) then r ||| sg w else r) (nI 0) j) = (fo (fun w r => if bt mo w && bt (M0 1 w) (sb f) then r ||| sg w else r) (nI 0) (j + 1)) := by first | (rw [fo_s, if_neg (by rw [c199]; exact Bool.false_ne_true)]; done) | (rw [fo_s, if_pos (by rw [c199, c324]; rfl)]; assumption) | (rw [fo_s, if_neg (by rw [c199, c324]; exact Bool.false_ne_true)]; done)
                      exact cut183 (j + 1) (by omega) (by omega) _ _ hP hS ls (lcons (lcons (lcons (lcons (lcons (lcons (lcons (lcons (lcons (lcons (lzero hl) hl 0 rfl rfl) hl 9 rfl rfl) hl 8 rfl (congrArg Value.int e_11)) hl 7 rfl rfl) hl 6 rfl rfl) hl 5 rfl rfl) hl 4 rfl rfl) hl 3 rfl rfl) hl 2 rfl rfl) hl 1 rfl rfl)
              have e_12 : (nI 0) = (fo (fun w r => if bt mo w && bt (M0 1 w) (sb f) then r ||| sg w else r) (nI 0) 0) := by rfl
              exact cut183 (n + 1) 0 (by omega) (by omega) _ _ hP hS ls (lcons (lcons (lcons (lcons (lcons (lcons (lcons (lcons (lcons (lcons (lzero hl) hl 0 rfl rfl) hl 1 rfl rfl) hl 2 rfl (congrArg Value.int e_12)) hl 3 rfl rfl) hl 4 rfl rfl) hl 5 rfl rfl) hl 6 rfl rfl) hl 9 rfl rfl) hl 8 rfl rfl) hl 7 rfl rfl)
          ·
            replace c115 : 0 = 6 := k_nef c115 (by omega) (by omega)
            exfalso; omega
        ·
          replace c87 : 0 = 1 := k_nef c87 (by omega) (by omega)
          exfalso; omega
      ·
        replace c57 : 0 = 2 := k_nef c57 (by omega) (by omega)
        exfalso; omega
    ·
      refine lv_aload_n hx hb dX5_truth_16 rfl (lv_at hl 1 rfl) ?_
      refine va_get (D := D) (ci := 5) (v := .ref (b 10)) (C := RX5) (T := TX5) (N := 15) hx hb hts hinX5 hown hK1 hP 0 rfl rfl 13 (by decide) (hts (.fieldLink RX5 38 "KnowledgeModelModel" "truths" "[I") (List.mem_of_getElem? (i := 2) rfl)) (fun _ h9 => h9) rfl dX5_truth_17 ?_
      refine lv_iload_n hx hb dX5_truth_20 rfl (lv_at hl 0 rfl) ?_
      refine xiald (j := (40 * lv) + f) (q0 := 10) (t0 := 0) hx hb hK1 hP rfl rfl (by omega) (by decide) dX5_truth_21 ?_
      refine xtop (y := (semR M0 n kd p1 p2 sb ag mo f)) (by exact ((hti.2 f hf).resolve_left c13).2) ?_
      subst hQ
      have hrel : TR M0 M n nf kd p1 p2 sb ag lv mo M := by first | exact TR_r hti | (simp only [fo_0, c13]; exact TR_w (TR_r hti) hf hval) | (simp only [fo_0, c13]; exact TR_w trivial hf hval) | (simp only [fo_0, c13]; exact TR_w (TR_t trivial trivial) hf hval) | (simp only [fo_0, c13]; exact TR_w (TR_b trivial hf40 (by simpa only [fo_0, c13] using trivial)) hf hval)
      have hfin : (semR M0 n kd p1 p2 sb ag mo f) = semR M0 n kd p1 p2 sb ag mo f := by first | exact hval | rfl
      exact W.iret hx hb hr (fun t ht hW => ⟨⟨_, M, rfl, ⟨hfin, hrel⟩, by rw [← ht] at hP; exact hP⟩, hS.F ht⟩) hS.2.2 dX5_truth_22
  ·
    have hq1 := hL.1 (by omega)
    have hz1 := hE1 (by omega)
    have hB1 := hB (by omega)
    refine lv_bipush (v := (nI 40)) hx hb dX5_truth_0 (by decide) ?_
    refine lv_iload_n hx hb dX5_truth_2 rfl (lv_at hl 1 rfl) ?_
    refine ximul hx hb dX5_truth_3 ?_
    refine lv_iload_n hx hb dX5_truth_4 rfl (lv_at hl 2 rfl) ?_
    refine xiadd hx hb dX5_truth_5 ?_
    refine lv_istore_n (lv' := [(3, .int (nI ((40 * lv) + f))), (0, .ref (b 0)), (1, .int (nI lv)), (2, .int (nI f))]) hx hb dX5_truth_6 rfl hl (by decide) rfl (fun ls hl => ?_)
    refine lv_aload_n hx hb dX5_truth_7 rfl (lv_at hl 1 rfl) ?_
    refine va_get (D := D) (ci := 5) (v := .ref (b 9)) (C := RX5) (T := TX5) (N := 15) hx hb hts hinX5 hown hK1 hP 0 rfl rfl 12 (by decide) (hts (.fieldLink RX5 34 "KnowledgeModelModel" "areKnown" "[Z") (List.mem_of_getElem? (i := 1) rfl)) (fun _ h9 => h9) rfl dX5_truth_8 ?_
    refine lv_iload_n hx hb dX5_truth_11 rfl (lv_at hl 0 rfl) ?_
    refine xzald (j := (40 * lv) + f) (q0 := 9) (t0 := 3) hx hb hK1 hP rfl rfl (by omega) (by decide) dX5_truth_12 ?_
    refine lv_if_eq (tgt := 23) hx hb dX5_truth_13 (by decide) (fun c13 => ?_) (fun c13 => ?_)
    ·
      refine lv_aload_n hx hb dX5_truth_23 rfl (lv_at hl 1 rfl) ?_
      refine va_get (D := D) (ci := 5) (v := .ref (b 8)) (C := RX5) (T := TX5) (N := 15) hx hb hts hinX5 hown hK1 hP 0 rfl rfl 11 (by decide) (hts (.fieldLink RX5 31 "KnowledgeModelModel" "lefts" "[I") (List.mem_of_getElem? (i := 3) rfl)) (fun _ h9 => h9) rfl dX5_truth_24 ?_
      refine lv_iload_n hx hb dX5_truth_27 rfl (lv_at hl 2 rfl) ?_
      refine xiald (j := lv) (q0 := 8) (t0 := 0) hx hb hK1 hP rfl rfl (by omega) (by decide) dX5_truth_28 ?_
      refine xtop (y := mo) (by exact hti.1) ?_
      refine lv_istore (lv' := [(4, .int mo), (3, .int (nI ((40 * lv) + f))), (0, .ref (b 0)), (1, .int (nI lv)), (2, .int (nI f))]) hx hb dX5_truth_29 hl (by decide) rfl (fun ls hl => ?_)
      refine lv_aload_n hx hb dX5_truth_31 rfl (lv_at hl 2 rfl) ?_
      refine va_get (D := D) (ci := 5) (v := .ref (b 4)) (C := RX5) (T := TX5) (N := 15) hx hb hts hinX5 hown hK1 hP 0 rfl rfl 7 (by decide) (hts (.fieldLink RX5 19 "KnowledgeModelModel" "firsts" "[I") (List.mem_of_getElem? (i := 4) rfl)) (fun _ h9 => h9) rfl dX5_truth_32 ?_
      refine lv_iload_n hx hb dX5_truth_35 rfl (lv_at hl 4 rfl) ?_
      refine xiald (j := f) (q0 := 4) (t0 := 0) hx hb hK1 hP rfl rfl (by omega) (by decide) dX5_truth_36 ?_
      refine xtop (y := (M0 4 f)) (by exact hag 4 f (by decide)) ?_
      refine lv_istore (lv' := [(5, .int (M0 4 f)), (4, .int mo), (3, .int (nI ((40 * lv) + f))), (0, .ref (b 0)), (1, .int (nI lv)), (2, .int (nI f))]) hx hb dX5_truth_37 hl (by decide) rfl (fun ls hl => ?_)
      refine lv_aload_n hx hb dX5_truth_39 rfl (lv_at hl 3 rfl) ?_
      refine va_get (D := D) (ci := 5) (v := .ref (b 5)) (C := RX5) (T := TX5) (N := 15) hx hb hts hinX5 hown hK1 hP 0 rfl rfl 8 (by decide) (hts (.fieldLink RX5 22 "KnowledgeModelModel" "seconds" "[I") (List.mem_of_getElem? (i := 5) rfl)) (fun _ h9 => h9) rfl dX5_truth_40 ?_
      refine lv_iload_n hx hb dX5_truth_43 rfl (lv_at hl 5 rfl) ?_
      refine xiald (j := f) (q0 := 5) (t0 := 0) hx hb hK1 hP rfl rfl (by omega) (by decide) dX5_truth_44 ?_
      refine xtop (y := (nI (p1 f))) (by exact (hag 5 f (by decide)).trans hB1) ?_
      refine lv_istore (lv' := [(6, .int (nI (p1 f))), (5, .int (M0 4 f)), (4, .int mo), (3, .int (nI ((40 * lv) + f))), (0, .ref (b 0)), (1, .int (nI lv)), (2, .int (nI f))]) hx hb dX5_truth_45 hl (by decide) rfl (fun ls hl => ?_)
      refine lv_iconst (v := (nI 0)) hx hb dX5_truth_47 (by decide) ?_
      refine lv_istore (lv' := [(7, .int (nI 0)), (6, .int (nI (p1 f))), (5, .int (M0 4 f)), (4, .int mo), (3, .int (nI ((40 * lv) + f))), (0, .ref (b 0)), (1, .int (nI lv)), (2, .int (nI f))]) hx hb dX5_truth_48 hl (by decide) rfl (fun ls hl => ?_)
      refine lv_aload_n hx hb dX5_truth_50 rfl (lv_at hl 5 rfl) ?_
      refine va_get (D := D) (ci := 5) (v := .ref (b 3)) (C := RX5) (T := TX5) (N := 15) hx hb hts hinX5 hown hK1 hP 0 rfl rfl 6 (by decide) (hts (.fieldLink RX5 16 "KnowledgeModelModel" "kinds" "[I") (List.mem_of_getElem? (i := 6) rfl)) (fun _ h9 => h9) rfl dX5_truth_51 ?_
      refine lv_iload_n hx hb dX5_truth_54 rfl (lv_at hl 7 rfl) ?_
      refine xiald (j := f) (q0 := 3) (t0 := 0) hx hb hK1 hP rfl rfl (by omega) (by decide) dX5_truth_55 ?_
      refine xtop (y := (nI 1)) (by exact ((hag 3 f (by decide)).trans hk3).trans (congrArg nI hkd)) ?_
      refine lv_iconst (v := (nI 2)) hx hb dX5_truth_56 (by decide) ?_
      refine lv_icmp_ne (tgt := 80) hx hb dX5_truth_57 (by decide) (fun c57 => ?_) (fun c57 => ?_)
      ·
        replace c57 : ¬ 1 = 2 := k_net c57 (by omega) (by omega)
        refine lv_aload_n hx hb dX5_truth_80 rfl (lv_at hl 5 rfl) ?_
        refine va_get (D := D) (ci := 5) (v := .ref (b 3)) (C := RX5) (T := TX5) (N := 15) hx hb hts hinX5 hown hK1 hP 0 rfl rfl 6 (by decide) (hts (.fieldLink RX5 16 "KnowledgeModelModel" "kinds" "[I") (List.mem_of_getElem? (i := 6) rfl)) (fun _ h9 => h9) rfl dX5_truth_81 ?_
        refine lv_iload_n hx hb dX5_truth_84 rfl (lv_at hl 7 rfl) ?_
        refine xiald (j := f) (q0 := 3) (t0 := 0) hx hb hK1 hP rfl rfl (by omega) (by decide) dX5_truth_85 ?_
        refine xtop (y := (nI 1)) (by exact ((hag 3 f (by decide)).trans hk3).trans (congrArg nI hkd)) ?_
        refine lv_iconst (v := (nI 1)) hx hb dX5_truth_86 (by decide) ?_
        refine lv_icmp_ne (tgt := 107) hx hb dX5_truth_87 (by decide) (fun c87 => ?_) (fun c87 => ?_)
        ·
          replace c87 : ¬ 1 = 1 := k_net c87 (by omega) (by omega)
          exfalso; omega
        ·
          replace c87 : 1 = 1 := k_nef c87 (by omega) (by omega)
          refine lv_iload hx hb dX5_truth_90 (lv_at hl 3 rfl) ?_
          refine lv_aload_n hx hb dX5_truth_92 rfl (lv_at hl 5 rfl) ?_
          refine lv_iload_n hx hb dX5_truth_93 rfl (lv_at hl 6 rfl) ?_
          refine lv_iload hx hb dX5_truth_94 (lv_at hl 1 rfl) ?_
          refine xcallwi (va_runV (As := [.int (nI lv), .int (nI (p1 f))]) (rest := [.int mo]) ⟨hx, hb, hml, hown, hts⟩ (ih (p1 f) (by omega) M _ lv mo hag hlv (by omega) (by omega) hti) (cwV 2 hts gX5_truth_X5_truth rfl rfl rfl (by decide +kernel) ⟨by dsimp only; omega, by dsimp only; omega⟩) (xpreVs hP hK (ci := 5) 0 rfl rfl) rfl rfl hl.1 rfl (lv_room (Nat.le_of_ble_eq_true rfl)) dX5_truth_96 ⟨Nat.le_of_ble_eq_true rfl, Nat.le_of_ble_eq_true rfl⟩) hS (kAle hS.1) (fun u_13 H locs hu_13 hP _ _ hS => ?_)
          have hP : va_P D vwCl (rc cs b u_13) H := hP
          have hk_14 : u_13 0 1 = nI n := by rw [hu_13.1 0 1 (by decide)]; exact hn
          have hk_15 : u_13 0 3 = nI nf := by rw [hu_13.1 0 3 (by decide)]; exact hfc
          refine lv_iconst (v := (-1 : Int32)) hx hb dX5_truth_99 (by decide) ?_
          refine lv_ixor hx hb dX5_truth_100 ?_
          refine lv_iand hx hb dX5_truth_101 ?_
          refine lv_istore (lv' := [(7, .int (mo &&& ((semR M0 n kd p1 p2 sb ag mo (p1 f)) ^^^ (-1 : Int32)))), (6, .int (nI (p1 f))), (5, .int (M0 4 f)), (4, .int mo), (3, .int (nI ((40 * lv) + f))), (0, .ref (b 0)), (1, .int (nI lv)), (2, .int (nI f))]) hx hb dX5_truth_102 hl (by decide) rfl (fun ls hl => ?_)
          refine lv_goto (tgt := 342) hx hb dX5_truth_104 (by decide) ?_
          have hval : (mo &&& ((semR M0 n kd p1 p2 sb ag mo (p1 f)) ^^^ (-1 : Int32))) = semR M0 n kd p1 p2 sb ag mo f := by rw [semR_eq hwp hf]; simp only [askR, hkd, if_true, if_false, show (1 : Nat) ≠ 0 by decide, show (2 : Nat) ≠ 0 by decide, show (2 : Nat) ≠ 1 by decide, show (3 : Nat) ≠ 0 by decide, show (3 : Nat) ≠ 1 by decide, show (3 : Nat) ≠ 2 by decide, show (3 : Nat) ≠ 6 by decide, show (4 : Nat) ≠ 0 by decide, show (4 : Nat) ≠ 1 by decide, show (4 : Nat) ≠ 2 by decide, show (4 : Nat) ≠ 3 by decide, show (4 : Nat) ≠ 6 by decide, show (5 : Nat) ≠ 0 by decide, show (5 : Nat) ≠ 1 by decide, show (5 : Nat) ≠ 2 by decide, show (5 : Nat) ≠ 3 by decide, show (5 : Nat) ≠ 4 by decide, show (5 : Nat) ≠ 6 by decide, show (6 : Nat) ≠ 0 by decide, show (6 : Nat) ≠ 1 by decide, show (6 : Nat) ≠ 2 by decide]
          refine lv_aload_n hx hb dX5_truth_342 rfl (lv_at hl 5 rfl) ?_
          refine va_get (D := D) (ci := 5) (v := .ref (b 10)) (C := RX5) (T := TX5) (N := 15) hx hb hts hinX5 hown hK1 hP 0 rfl rfl 13 (by decide) (hts (.fieldLink RX5 38 "KnowledgeModelModel" "truths" "[I") (List.mem_of_getElem? (i := 2) rfl)) (fun _ h9 => h9) rfl dX5_truth_343 ?_
          refine lv_iload_n hx hb dX5_truth_346 rfl (lv_at hl 4 rfl) ?_
          refine lv_iload hx hb dX5_truth_347 (lv_at hl 0 rfl) ?_
          refine lv_topi (fun x_16 hx_16 => ?_)
          refine xiast (j := (40 * lv) + f) (q0 := 10) (t0 := 0) (ws' := rc cs b (wr u_13 10 ((40 * lv) + f) x_16)) hx hb hK1 hP (rD hI) hS rfl rfl (by omega) (by decide) rs_10 dX5_truth_349 (fun H locs hP hS => ?_)
          obtain ⟨M_17, hM_17⟩ : ∃ z, z = wr u_13 10 ((40 * lv) + f) x_16 := ⟨_, rfl⟩
          rw [← hM_17] at hP
          have hk_18 : M_17 0 1 = nI n := by rw [hM_17]; exact (wr_ne (Or.inl (by omega))).trans hk_14
          have hk_19 : M_17 0 3 = nI nf := by rw [hM_17]; exact (wr_ne (Or.inl (by omega))).trans hk_15
          refine lv_aload_n hx hb dX5_truth_350 rfl (lv_at hl 5 rfl) ?_
          refine va_get (D := D) (ci := 5) (v := .ref (b 9)) (C := RX5) (T := TX5) (N := 15) hx hb hts hinX5 hown hK1 hP 0 rfl rfl 12 (by decide) (hts (.fieldLink RX5 34 "KnowledgeModelModel" "areKnown" "[Z") (List.mem_of_getElem? (i := 1) rfl)) (fun _ h9 => h9) rfl dX5_truth_351 ?_
          refine lv_iload_n hx hb dX5_truth_354 rfl (lv_at hl 4 rfl) ?_
          refine lv_iconst (v := (nI 1)) hx hb dX5_truth_355 (by decide) ?_
          refine xzast (j := (40 * lv) + f) (q0 := 9) (t0 := 3) (ws' := rc cs b (wr M_17 9 ((40 * lv) + f) (nI 1))) hx hb hK1 hP (rD hI) hS rfl rfl (by omega) (by decide) (by decide) rs_9 dX5_truth_356 (fun H locs hP hS => ?_)
          obtain ⟨M_20, hM_20⟩ : ∃ z, z = wr M_17 9 ((40 * lv) + f) (nI 1) := ⟨_, rfl⟩
          rw [← hM_20] at hP
          have hk_21 : M_20 0 1 = nI n := by rw [hM_20]; exact (wr_ne (Or.inl (by omega))).trans hk_18
          have hk_22 : M_20 0 3 = nI nf := by rw [hM_20]; exact (wr_ne (Or.inl (by omega))).trans hk_19
          refine lv_iload hx hb dX5_truth_357 (lv_at hl 0 rfl) ?_
          subst hQ
          have hrel : TR M0 M n nf kd p1 p2 sb ag lv mo M_20 := by first | exact TR_r hti | (simp only [fo_0, c13, c57, c87, hx_16, hM_17, hM_20]; exact TR_w (TR_r hti) hf hval) | (simp only [fo_0, c13, c57, c87, hx_16, hM_17, hM_20]; exact TR_w hu_13 hf hval) | (simp only [fo_0, c13, c57, c87, hx_16, hM_17, hM_20]; exact TR_w (TR_t hu_13 hu_13) hf hval) | (simp only [fo_0, c13, c57, c87, hx_16, hM_17, hM_20]; exact TR_w (TR_b hu_13 hf40 (by simpa only [fo_0, c13, c57, c87, hx_16, hM_17, hM_20] using hu_13)) hf hval)
          have hfin : (mo &&& ((semR M0 n kd p1 p2 sb ag mo (p1 f)) ^^^ (-1 : Int32))) = semR M0 n kd p1 p2 sb ag mo f := by first | exact hval | rfl
          exact W.iret hx hb hr (fun t ht hW => ⟨⟨_, M_20, rfl, ⟨hfin, hrel⟩, by rw [← ht] at hP; exact hP⟩, hS.F ht⟩) hS.2.2 dX5_truth_359
      ·
        replace c57 : 1 = 2 := k_nef c57 (by omega) (by omega)
        exfalso; omega
    ·
      refine lv_aload_n hx hb dX5_truth_16 rfl (lv_at hl 1 rfl) ?_
      refine va_get (D := D) (ci := 5) (v := .ref (b 10)) (C := RX5) (T := TX5) (N := 15) hx hb hts hinX5 hown hK1 hP 0 rfl rfl 13 (by decide) (hts (.fieldLink RX5 38 "KnowledgeModelModel" "truths" "[I") (List.mem_of_getElem? (i := 2) rfl)) (fun _ h9 => h9) rfl dX5_truth_17 ?_
      refine lv_iload_n hx hb dX5_truth_20 rfl (lv_at hl 0 rfl) ?_
      refine xiald (j := (40 * lv) + f) (q0 := 10) (t0 := 0) hx hb hK1 hP rfl rfl (by omega) (by decide) dX5_truth_21 ?_
      refine xtop (y := (semR M0 n kd p1 p2 sb ag mo f)) (by exact ((hti.2 f hf).resolve_left c13).2) ?_
      subst hQ
      have hrel : TR M0 M n nf kd p1 p2 sb ag lv mo M := by first | exact TR_r hti | (simp only [fo_0, c13]; exact TR_w (TR_r hti) hf hval) | (simp only [fo_0, c13]; exact TR_w trivial hf hval) | (simp only [fo_0, c13]; exact TR_w (TR_t trivial trivial) hf hval) | (simp only [fo_0, c13]; exact TR_w (TR_b trivial hf40 (by simpa only [fo_0, c13] using trivial)) hf hval)
      have hfin : (semR M0 n kd p1 p2 sb ag mo f) = semR M0 n kd p1 p2 sb ag mo f := by first | exact hval | rfl
      exact W.iret hx hb hr (fun t ht hW => ⟨⟨_, M, rfl, ⟨hfin, hrel⟩, by rw [← ht] at hP; exact hP⟩, hS.F ht⟩) hS.2.2 dX5_truth_22
  ·
    have hq1 := hL.1 (by omega)
    have hz1 := hE1 (by omega)
    obtain ⟨hC1, hC2⟩ := hC (by omega)
    have hq2 := hL.2 (by omega)
    have hz2 := hE2 hkd
    refine lv_bipush (v := (nI 40)) hx hb dX5_truth_0 (by decide) ?_
    refine lv_iload_n hx hb dX5_truth_2 rfl (lv_at hl 1 rfl) ?_
    refine ximul hx hb dX5_truth_3 ?_
    refine lv_iload_n hx hb dX5_truth_4 rfl (lv_at hl 2 rfl) ?_
    refine xiadd hx hb dX5_truth_5 ?_
    refine lv_istore_n (lv' := [(3, .int (nI ((40 * lv) + f))), (0, .ref (b 0)), (1, .int (nI lv)), (2, .int (nI f))]) hx hb dX5_truth_6 rfl hl (by decide) rfl (fun ls hl => ?_)
    refine lv_aload_n hx hb dX5_truth_7 rfl (lv_at hl 1 rfl) ?_
    refine va_get (D := D) (ci := 5) (v := .ref (b 9)) (C := RX5) (T := TX5) (N := 15) hx hb hts hinX5 hown hK1 hP 0 rfl rfl 12 (by decide) (hts (.fieldLink RX5 34 "KnowledgeModelModel" "areKnown" "[Z") (List.mem_of_getElem? (i := 1) rfl)) (fun _ h9 => h9) rfl dX5_truth_8 ?_
    refine lv_iload_n hx hb dX5_truth_11 rfl (lv_at hl 0 rfl) ?_
    refine xzald (j := (40 * lv) + f) (q0 := 9) (t0 := 3) hx hb hK1 hP rfl rfl (by omega) (by decide) dX5_truth_12 ?_
    refine lv_if_eq (tgt := 23) hx hb dX5_truth_13 (by decide) (fun c13 => ?_) (fun c13 => ?_)
    ·
      refine lv_aload_n hx hb dX5_truth_23 rfl (lv_at hl 1 rfl) ?_
      refine va_get (D := D) (ci := 5) (v := .ref (b 8)) (C := RX5) (T := TX5) (N := 15) hx hb hts hinX5 hown hK1 hP 0 rfl rfl 11 (by decide) (hts (.fieldLink RX5 31 "KnowledgeModelModel" "lefts" "[I") (List.mem_of_getElem? (i := 3) rfl)) (fun _ h9 => h9) rfl dX5_truth_24 ?_
      refine lv_iload_n hx hb dX5_truth_27 rfl (lv_at hl 2 rfl) ?_
      refine xiald (j := lv) (q0 := 8) (t0 := 0) hx hb hK1 hP rfl rfl (by omega) (by decide) dX5_truth_28 ?_
      refine xtop (y := mo) (by exact hti.1) ?_
      refine lv_istore (lv' := [(4, .int mo), (3, .int (nI ((40 * lv) + f))), (0, .ref (b 0)), (1, .int (nI lv)), (2, .int (nI f))]) hx hb dX5_truth_29 hl (by decide) rfl (fun ls hl => ?_)
      refine lv_aload_n hx hb dX5_truth_31 rfl (lv_at hl 2 rfl) ?_
      refine va_get (D := D) (ci := 5) (v := .ref (b 4)) (C := RX5) (T := TX5) (N := 15) hx hb hts hinX5 hown hK1 hP 0 rfl rfl 7 (by decide) (hts (.fieldLink RX5 19 "KnowledgeModelModel" "firsts" "[I") (List.mem_of_getElem? (i := 4) rfl)) (fun _ h9 => h9) rfl dX5_truth_32 ?_
      refine lv_iload_n hx hb dX5_truth_35 rfl (lv_at hl 4 rfl) ?_
      refine xiald (j := f) (q0 := 4) (t0 := 0) hx hb hK1 hP rfl rfl (by omega) (by decide) dX5_truth_36 ?_
      refine xtop (y := (nI (p1 f))) (by exact (hag 4 f (by decide)).trans hC1) ?_
      refine lv_istore (lv' := [(5, .int (nI (p1 f))), (4, .int mo), (3, .int (nI ((40 * lv) + f))), (0, .ref (b 0)), (1, .int (nI lv)), (2, .int (nI f))]) hx hb dX5_truth_37 hl (by decide) rfl (fun ls hl => ?_)
      refine lv_aload_n hx hb dX5_truth_39 rfl (lv_at hl 3 rfl) ?_
      refine va_get (D := D) (ci := 5) (v := .ref (b 5)) (C := RX5) (T := TX5) (N := 15) hx hb hts hinX5 hown hK1 hP 0 rfl rfl 8 (by decide) (hts (.fieldLink RX5 22 "KnowledgeModelModel" "seconds" "[I") (List.mem_of_getElem? (i := 5) rfl)) (fun _ h9 => h9) rfl dX5_truth_40 ?_
      refine lv_iload_n hx hb dX5_truth_43 rfl (lv_at hl 5 rfl) ?_
      refine xiald (j := f) (q0 := 5) (t0 := 0) hx hb hK1 hP rfl rfl (by omega) (by decide) dX5_truth_44 ?_
      refine xtop (y := (nI (p2 f))) (by exact (hag 5 f (by decide)).trans hC2) ?_
      refine lv_istore (lv' := [(6, .int (nI (p2 f))), (5, .int (nI (p1 f))), (4, .int mo), (3, .int (nI ((40 * lv) + f))), (0, .ref (b 0)), (1, .int (nI lv)), (2, .int (nI f))]) hx hb dX5_truth_45 hl (by decide) rfl (fun ls hl => ?_)
      refine lv_iconst (v := (nI 0)) hx hb dX5_truth_47 (by decide) ?_
      refine lv_istore (lv' := [(7, .int (nI 0)), (6, .int (nI (p2 f))), (5, .int (nI (p1 f))), (4, .int mo), (3, .int (nI ((40 * lv) + f))), (0, .ref (b 0)), (1, .int (nI lv)), (2, .int (nI f))]) hx hb dX5_truth_48 hl (by decide) rfl (fun ls hl => ?_)
      refine lv_aload_n hx hb dX5_truth_50 rfl (lv_at hl 5 rfl) ?_
      refine va_get (D := D) (ci := 5) (v := .ref (b 3)) (C := RX5) (T := TX5) (N := 15) hx hb hts hinX5 hown hK1 hP 0 rfl rfl 6 (by decide) (hts (.fieldLink RX5 16 "KnowledgeModelModel" "kinds" "[I") (List.mem_of_getElem? (i := 6) rfl)) (fun _ h9 => h9) rfl dX5_truth_51 ?_
      refine lv_iload_n hx hb dX5_truth_54 rfl (lv_at hl 7 rfl) ?_
      refine xiald (j := f) (q0 := 3) (t0 := 0) hx hb hK1 hP rfl rfl (by omega) (by decide) dX5_truth_55 ?_
      refine xtop (y := (nI 2)) (by exact ((hag 3 f (by decide)).trans hk3).trans (congrArg nI hkd)) ?_
      refine lv_iconst (v := (nI 2)) hx hb dX5_truth_56 (by decide) ?_
      refine lv_icmp_ne (tgt := 80) hx hb dX5_truth_57 (by decide) (fun c57 => ?_) (fun c57 => ?_)
      ·
        replace c57 : ¬ 2 = 2 := k_net c57 (by omega) (by omega)
        exfalso; omega
      ·
        replace c57 : 2 = 2 := k_nef c57 (by omega) (by omega)
        refine lv_aload_n hx hb dX5_truth_60 rfl (lv_at hl 5 rfl) ?_
        refine lv_iload_n hx hb dX5_truth_61 rfl (lv_at hl 6 rfl) ?_
        refine lv_iload hx hb dX5_truth_62 (lv_at hl 2 rfl) ?_
        refine xcallwi (va_runV (As := [.int (nI lv), .int (nI (p1 f))]) (rest := []) ⟨hx, hb, hml, hown, hts⟩ (ih (p1 f) (by omega) M _ lv mo hag hlv (by omega) (by omega) hti) (cwV 2 hts gX5_truth_X5_truth rfl rfl rfl (by decide +kernel) ⟨by dsimp only; omega, by dsimp only; omega⟩) (xpreVs hP hK (ci := 5) 0 rfl rfl) rfl rfl hl.1 rfl (lv_room (Nat.le_of_ble_eq_true rfl)) dX5_truth_64 ⟨Nat.le_of_ble_eq_true rfl, Nat.le_of_ble_eq_true rfl⟩) hS (kAle hS.1) (fun u_23 H locs hu_23 hP _ _ hS => ?_)
        have hP : va_P D vwCl (rc cs b u_23) H := hP
        have hk_24 : u_23 0 1 = nI n := by rw [hu_23.1 0 1 (by decide)]; exact hn
        have hk_25 : u_23 0 3 = nI nf := by rw [hu_23.1 0 3 (by decide)]; exact hfc
        refine lv_aload_n hx hb dX5_truth_67 rfl (lv_at hl 5 rfl) ?_
        refine lv_iload_n hx hb dX5_truth_68 rfl (lv_at hl 6 rfl) ?_
        refine lv_iload hx hb dX5_truth_69 (lv_at hl 1 rfl) ?_
        refine xcallwi (va_runV (As := [.int (nI lv), .int (nI (p2 f))]) (rest := [.int (semR M0 n kd p1 p2 sb ag mo (p1 f))]) ⟨hx, hb, hml, hown, hts⟩ (ih (p2 f) (by omega) u_23 _ lv mo (Ag8_t hag hu_23) hlv (by omega) (by omega) hu_23.2.1) (cwV 2 hts gX5_truth_X5_truth rfl rfl rfl (by decide +kernel) ⟨by dsimp only; omega, by dsimp only; omega⟩) (xpreVs hP hK (ci := 5) 0 rfl rfl) rfl rfl hl.1 rfl (lv_room (Nat.le_of_ble_eq_true rfl)) dX5_truth_71 ⟨Nat.le_of_ble_eq_true rfl, Nat.le_of_ble_eq_true rfl⟩) hS (kAle hS.1) (fun u_26 H locs hu_26 hP _ _ hS => ?_)
        have hP : va_P D vwCl (rc cs b u_26) H := hP
        have hk_27 : u_26 0 1 = nI n := by rw [hu_26.1 0 1 (by decide)]; exact hk_24
        have hk_28 : u_26 0 3 = nI nf := by rw [hu_26.1 0 3 (by decide)]; exact hk_25
        refine lv_iand hx hb dX5_truth_74 ?_
        refine lv_istore (lv' := [(7, .int ((semR M0 n kd p1 p2 sb ag mo (p1 f)) &&& (semR M0 n kd p1 p2 sb ag mo (p2 f)))), (6, .int (nI (p2 f))), (5, .int (nI (p1 f))), (4, .int mo), (3, .int (nI ((40 * lv) + f))), (0, .ref (b 0)), (1, .int (nI lv)), (2, .int (nI f))]) hx hb dX5_truth_75 hl (by decide) rfl (fun ls hl => ?_)
        refine lv_goto (tgt := 342) hx hb dX5_truth_77 (by decide) ?_
        have hval : ((semR M0 n kd p1 p2 sb ag mo (p1 f)) &&& (semR M0 n kd p1 p2 sb ag mo (p2 f))) = semR M0 n kd p1 p2 sb ag mo f := by rw [semR_eq hwp hf]; simp only [askR, hkd, if_true, if_false, show (1 : Nat) ≠ 0 by decide, show (2 : Nat) ≠ 0 by decide, show (2 : Nat) ≠ 1 by decide, show (3 : Nat) ≠ 0 by decide, show (3 : Nat) ≠ 1 by decide, show (3 : Nat) ≠ 2 by decide, show (3 : Nat) ≠ 6 by decide, show (4 : Nat) ≠ 0 by decide, show (4 : Nat) ≠ 1 by decide, show (4 : Nat) ≠ 2 by decide, show (4 : Nat) ≠ 3 by decide, show (4 : Nat) ≠ 6 by decide, show (5 : Nat) ≠ 0 by decide, show (5 : Nat) ≠ 1 by decide, show (5 : Nat) ≠ 2 by decide, show (5 : Nat) ≠ 3 by decide, show (5 : Nat) ≠ 4 by decide, show (5 : Nat) ≠ 6 by decide, show (6 : Nat) ≠ 0 by decide, show (6 : Nat) ≠ 1 by decide, show (6 : Nat) ≠ 2 by decide]
        refine lv_aload_n hx hb dX5_truth_342 rfl (lv_at hl 5 rfl) ?_
        refine va_get (D := D) (ci := 5) (v := .ref (b 10)) (C := RX5) (T := TX5) (N := 15) hx hb hts hinX5 hown hK1 hP 0 rfl rfl 13 (by decide) (hts (.fieldLink RX5 38 "KnowledgeModelModel" "truths" "[I") (List.mem_of_getElem? (i := 2) rfl)) (fun _ h9 => h9) rfl dX5_truth_343 ?_
        refine lv_iload_n hx hb dX5_truth_346 rfl (lv_at hl 4 rfl) ?_
        refine lv_iload hx hb dX5_truth_347 (lv_at hl 0 rfl) ?_
        refine lv_topi (fun x_29 hx_29 => ?_)
        refine xiast (j := (40 * lv) + f) (q0 := 10) (t0 := 0) (ws' := rc cs b (wr u_26 10 ((40 * lv) + f) x_29)) hx hb hK1 hP (rD hI) hS rfl rfl (by omega) (by decide) rs_10 dX5_truth_349 (fun H locs hP hS => ?_)
        obtain ⟨M_30, hM_30⟩ : ∃ z, z = wr u_26 10 ((40 * lv) + f) x_29 := ⟨_, rfl⟩
        rw [← hM_30] at hP
        have hk_31 : M_30 0 1 = nI n := by rw [hM_30]; exact (wr_ne (Or.inl (by omega))).trans hk_27
        have hk_32 : M_30 0 3 = nI nf := by rw [hM_30]; exact (wr_ne (Or.inl (by omega))).trans hk_28
        refine lv_aload_n hx hb dX5_truth_350 rfl (lv_at hl 5 rfl) ?_
        refine va_get (D := D) (ci := 5) (v := .ref (b 9)) (C := RX5) (T := TX5) (N := 15) hx hb hts hinX5 hown hK1 hP 0 rfl rfl 12 (by decide) (hts (.fieldLink RX5 34 "KnowledgeModelModel" "areKnown" "[Z") (List.mem_of_getElem? (i := 1) rfl)) (fun _ h9 => h9) rfl dX5_truth_351 ?_
        refine lv_iload_n hx hb dX5_truth_354 rfl (lv_at hl 4 rfl) ?_
        refine lv_iconst (v := (nI 1)) hx hb dX5_truth_355 (by decide) ?_
        refine xzast (j := (40 * lv) + f) (q0 := 9) (t0 := 3) (ws' := rc cs b (wr M_30 9 ((40 * lv) + f) (nI 1))) hx hb hK1 hP (rD hI) hS rfl rfl (by omega) (by decide) (by decide) rs_9 dX5_truth_356 (fun H locs hP hS => ?_)
        obtain ⟨M_33, hM_33⟩ : ∃ z, z = wr M_30 9 ((40 * lv) + f) (nI 1) := ⟨_, rfl⟩
        rw [← hM_33] at hP
        have hk_34 : M_33 0 1 = nI n := by rw [hM_33]; exact (wr_ne (Or.inl (by omega))).trans hk_31
        have hk_35 : M_33 0 3 = nI nf := by rw [hM_33]; exact (wr_ne (Or.inl (by omega))).trans hk_32
        refine lv_iload hx hb dX5_truth_357 (lv_at hl 0 rfl) ?_
        subst hQ
        have hrel : TR M0 M n nf kd p1 p2 sb ag lv mo M_33 := by first | exact TR_r hti | (simp only [fo_0, c13, c57, hx_29, hM_30, hM_33]; exact TR_w (TR_r hti) hf hval) | (simp only [fo_0, c13, c57, hx_29, hM_30, hM_33]; exact TR_w hu_23 hf hval) | (simp only [fo_0, c13, c57, hx_29, hM_30, hM_33]; exact TR_w (TR_t hu_23 hu_26) hf hval) | (simp only [fo_0, c13, c57, hx_29, hM_30, hM_33]; exact TR_w (TR_b hu_23 hf40 (by simpa only [fo_0, c13, c57, hx_29, hM_30, hM_33] using hu_26)) hf hval)
        have hfin : ((semR M0 n kd p1 p2 sb ag mo (p1 f)) &&& (semR M0 n kd p1 p2 sb ag mo (p2 f))) = semR M0 n kd p1 p2 sb ag mo f := by first | exact hval | rfl
        exact W.iret hx hb hr (fun t ht hW => ⟨⟨_, M_33, rfl, ⟨hfin, hrel⟩, by rw [← ht] at hP; exact hP⟩, hS.F ht⟩) hS.2.2 dX5_truth_359
    ·
      refine lv_aload_n hx hb dX5_truth_16 rfl (lv_at hl 1 rfl) ?_
      refine va_get (D := D) (ci := 5) (v := .ref (b 10)) (C := RX5) (T := TX5) (N := 15) hx hb hts hinX5 hown hK1 hP 0 rfl rfl 13 (by decide) (hts (.fieldLink RX5 38 "KnowledgeModelModel" "truths" "[I") (List.mem_of_getElem? (i := 2) rfl)) (fun _ h9 => h9) rfl dX5_truth_17 ?_
      refine lv_iload_n hx hb dX5_truth_20 rfl (lv_at hl 0 rfl) ?_
      refine xiald (j := (40 * lv) + f) (q0 := 10) (t0 := 0) hx hb hK1 hP rfl rfl (by omega) (by decide) dX5_truth_21 ?_
      refine xtop (y := (semR M0 n kd p1 p2 sb ag mo f)) (by exact ((hti.2 f hf).resolve_left c13).2) ?_
      subst hQ
      have hrel : TR M0 M n nf kd p1 p2 sb ag lv mo M := by first | exact TR_r hti | (simp only [fo_0, c13]; exact TR_w (TR_r hti) hf hval) | (simp only [fo_0, c13]; exact TR_w trivial hf hval) | (simp only [fo_0, c13]; exact TR_w (TR_t trivial trivial) hf hval) | (simp only [fo_0, c13]; exact TR_w (TR_b trivial hf40 (by simpa only [fo_0, c13] using trivial)) hf hval)
      have hfin : (semR M0 n kd p1 p2 sb ag mo f) = semR M0 n kd p1 p2 sb ag mo f := by first | exact hval | rfl
      exact W.iret hx hb hr (fun t ht hW => ⟨⟨_, M, rfl, ⟨hfin, hrel⟩, by rw [← ht] at hP; exact hP⟩, hS.F ht⟩) hS.2.2 dX5_truth_22
  ·
    have hq1 := hL.1 (by omega)
    have hz1 := hE1 (by omega)
    have hB1 := hB (by omega)
    obtain ⟨hG1, hG2⟩ := hG hkd
    refine lv_bipush (v := (nI 40)) hx hb dX5_truth_0 (by decide) ?_
    refine lv_iload_n hx hb dX5_truth_2 rfl (lv_at hl 1 rfl) ?_
    refine ximul hx hb dX5_truth_3 ?_
    refine lv_iload_n hx hb dX5_truth_4 rfl (lv_at hl 2 rfl) ?_
    refine xiadd hx hb dX5_truth_5 ?_
    refine lv_istore_n (lv' := [(3, .int (nI ((40 * lv) + f))), (0, .ref (b 0)), (1, .int (nI lv)), (2, .int (nI f))]) hx hb dX5_truth_6 rfl hl (by decide) rfl (fun ls hl => ?_)
    refine lv_aload_n hx hb dX5_truth_7 rfl (lv_at hl 1 rfl) ?_
    refine va_get (D := D) (ci := 5) (v := .ref (b 9)) (C := RX5) (T := TX5) (N := 15) hx hb hts hinX5 hown hK1 hP 0 rfl rfl 12 (by decide) (hts (.fieldLink RX5 34 "KnowledgeModelModel" "areKnown" "[Z") (List.mem_of_getElem? (i := 1) rfl)) (fun _ h9 => h9) rfl dX5_truth_8 ?_
    refine lv_iload_n hx hb dX5_truth_11 rfl (lv_at hl 0 rfl) ?_
    refine xzald (j := (40 * lv) + f) (q0 := 9) (t0 := 3) hx hb hK1 hP rfl rfl (by omega) (by decide) dX5_truth_12 ?_
    refine lv_if_eq (tgt := 23) hx hb dX5_truth_13 (by decide) (fun c13 => ?_) (fun c13 => ?_)
    ·
      refine lv_aload_n hx hb dX5_truth_23 rfl (lv_at hl 1 rfl) ?_
      refine va_get (D := D) (ci := 5) (v := .ref (b 8)) (C := RX5) (T := TX5) (N := 15) hx hb hts hinX5 hown hK1 hP 0 rfl rfl 11 (by decide) (hts (.fieldLink RX5 31 "KnowledgeModelModel" "lefts" "[I") (List.mem_of_getElem? (i := 3) rfl)) (fun _ h9 => h9) rfl dX5_truth_24 ?_
      refine lv_iload_n hx hb dX5_truth_27 rfl (lv_at hl 2 rfl) ?_
      refine xiald (j := lv) (q0 := 8) (t0 := 0) hx hb hK1 hP rfl rfl (by omega) (by decide) dX5_truth_28 ?_
      refine xtop (y := mo) (by exact hti.1) ?_
      refine lv_istore (lv' := [(4, .int mo), (3, .int (nI ((40 * lv) + f))), (0, .ref (b 0)), (1, .int (nI lv)), (2, .int (nI f))]) hx hb dX5_truth_29 hl (by decide) rfl (fun ls hl => ?_)
      refine lv_aload_n hx hb dX5_truth_31 rfl (lv_at hl 2 rfl) ?_
      refine va_get (D := D) (ci := 5) (v := .ref (b 4)) (C := RX5) (T := TX5) (N := 15) hx hb hts hinX5 hown hK1 hP 0 rfl rfl 7 (by decide) (hts (.fieldLink RX5 19 "KnowledgeModelModel" "firsts" "[I") (List.mem_of_getElem? (i := 4) rfl)) (fun _ h9 => h9) rfl dX5_truth_32 ?_
      refine lv_iload_n hx hb dX5_truth_35 rfl (lv_at hl 4 rfl) ?_
      refine xiald (j := f) (q0 := 4) (t0 := 0) hx hb hK1 hP rfl rfl (by omega) (by decide) dX5_truth_36 ?_
      refine xtop (y := (nI (ag f))) (by exact (hag 4 f (by decide)).trans hG1) ?_
      refine lv_istore (lv' := [(5, .int (nI (ag f))), (4, .int mo), (3, .int (nI ((40 * lv) + f))), (0, .ref (b 0)), (1, .int (nI lv)), (2, .int (nI f))]) hx hb dX5_truth_37 hl (by decide) rfl (fun ls hl => ?_)
      refine lv_aload_n hx hb dX5_truth_39 rfl (lv_at hl 3 rfl) ?_
      refine va_get (D := D) (ci := 5) (v := .ref (b 5)) (C := RX5) (T := TX5) (N := 15) hx hb hts hinX5 hown hK1 hP 0 rfl rfl 8 (by decide) (hts (.fieldLink RX5 22 "KnowledgeModelModel" "seconds" "[I") (List.mem_of_getElem? (i := 5) rfl)) (fun _ h9 => h9) rfl dX5_truth_40 ?_
      refine lv_iload_n hx hb dX5_truth_43 rfl (lv_at hl 5 rfl) ?_
      refine xiald (j := f) (q0 := 5) (t0 := 0) hx hb hK1 hP rfl rfl (by omega) (by decide) dX5_truth_44 ?_
      refine xtop (y := (nI (p1 f))) (by exact (hag 5 f (by decide)).trans hB1) ?_
      refine lv_istore (lv' := [(6, .int (nI (p1 f))), (5, .int (nI (ag f))), (4, .int mo), (3, .int (nI ((40 * lv) + f))), (0, .ref (b 0)), (1, .int (nI lv)), (2, .int (nI f))]) hx hb dX5_truth_45 hl (by decide) rfl (fun ls hl => ?_)
      refine lv_iconst (v := (nI 0)) hx hb dX5_truth_47 (by decide) ?_
      refine lv_istore (lv' := [(7, .int (nI 0)), (6, .int (nI (p1 f))), (5, .int (nI (ag f))), (4, .int mo), (3, .int (nI ((40 * lv) + f))), (0, .ref (b 0)), (1, .int (nI lv)), (2, .int (nI f))]) hx hb dX5_truth_48 hl (by decide) rfl (fun ls hl => ?_)
      refine lv_aload_n hx hb dX5_truth_50 rfl (lv_at hl 5 rfl) ?_
      refine va_get (D := D) (ci := 5) (v := .ref (b 3)) (C := RX5) (T := TX5) (N := 15) hx hb hts hinX5 hown hK1 hP 0 rfl rfl 6 (by decide) (hts (.fieldLink RX5 16 "KnowledgeModelModel" "kinds" "[I") (List.mem_of_getElem? (i := 6) rfl)) (fun _ h9 => h9) rfl dX5_truth_51 ?_
      refine lv_iload_n hx hb dX5_truth_54 rfl (lv_at hl 7 rfl) ?_
      refine xiald (j := f) (q0 := 3) (t0 := 0) hx hb hK1 hP rfl rfl (by omega) (by decide) dX5_truth_55 ?_
      refine xtop (y := (nI 3)) (by exact ((hag 3 f (by decide)).trans hk3).trans (congrArg nI hkd)) ?_
      refine lv_iconst (v := (nI 2)) hx hb dX5_truth_56 (by decide) ?_
      refine lv_icmp_ne (tgt := 80) hx hb dX5_truth_57 (by decide) (fun c57 => ?_) (fun c57 => ?_)
      ·
        replace c57 : ¬ 3 = 2 := k_net c57 (by omega) (by omega)
        refine lv_aload_n hx hb dX5_truth_80 rfl (lv_at hl 5 rfl) ?_
        refine va_get (D := D) (ci := 5) (v := .ref (b 3)) (C := RX5) (T := TX5) (N := 15) hx hb hts hinX5 hown hK1 hP 0 rfl rfl 6 (by decide) (hts (.fieldLink RX5 16 "KnowledgeModelModel" "kinds" "[I") (List.mem_of_getElem? (i := 6) rfl)) (fun _ h9 => h9) rfl dX5_truth_81 ?_
        refine lv_iload_n hx hb dX5_truth_84 rfl (lv_at hl 7 rfl) ?_
        refine xiald (j := f) (q0 := 3) (t0 := 0) hx hb hK1 hP rfl rfl (by omega) (by decide) dX5_truth_85 ?_
        refine xtop (y := (nI 3)) (by exact ((hag 3 f (by decide)).trans hk3).trans (congrArg nI hkd)) ?_
        refine lv_iconst (v := (nI 1)) hx hb dX5_truth_86 (by decide) ?_
        refine lv_icmp_ne (tgt := 107) hx hb dX5_truth_87 (by decide) (fun c87 => ?_) (fun c87 => ?_)
        ·
          replace c87 : ¬ 3 = 1 := k_net c87 (by omega) (by omega)
          refine lv_aload_n hx hb dX5_truth_107 rfl (lv_at hl 5 rfl) ?_
          refine va_get (D := D) (ci := 5) (v := .ref (b 3)) (C := RX5) (T := TX5) (N := 15) hx hb hts hinX5 hown hK1 hP 0 rfl rfl 6 (by decide) (hts (.fieldLink RX5 16 "KnowledgeModelModel" "kinds" "[I") (List.mem_of_getElem? (i := 6) rfl)) (fun _ h9 => h9) rfl dX5_truth_108 ?_
          refine lv_iload_n hx hb dX5_truth_111 rfl (lv_at hl 7 rfl) ?_
          refine xiald (j := f) (q0 := 3) (t0 := 0) hx hb hK1 hP rfl rfl (by omega) (by decide) dX5_truth_112 ?_
          refine xtop (y := (nI 3)) (by exact ((hag 3 f (by decide)).trans hk3).trans (congrArg nI hkd)) ?_
          refine lv_bipush (v := (nI 6)) hx hb dX5_truth_113 (by decide) ?_
          refine lv_icmp_ne (tgt := 158) hx hb dX5_truth_115 (by decide) (fun c115 => ?_) (fun c115 => ?_)
          ·
            replace c115 : ¬ 3 = 6 := k_net c115 (by omega) (by omega)
            refine lv_aload_n hx hb dX5_truth_158 rfl (lv_at hl 5 rfl) ?_
            refine va_get (D := D) (ci := 5) (v := .ref (b 3)) (C := RX5) (T := TX5) (N := 15) hx hb hts hinX5 hown hK1 hP 0 rfl rfl 6 (by decide) (hts (.fieldLink RX5 16 "KnowledgeModelModel" "kinds" "[I") (List.mem_of_getElem? (i := 6) rfl)) (fun _ h9 => h9) rfl dX5_truth_159 ?_
            refine lv_iload_n hx hb dX5_truth_162 rfl (lv_at hl 7 rfl) ?_
            refine xiald (j := f) (q0 := 3) (t0 := 0) hx hb hK1 hP rfl rfl (by omega) (by decide) dX5_truth_163 ?_
            refine xtop (y := (nI 3)) (by exact ((hag 3 f (by decide)).trans hk3).trans (congrArg nI hkd)) ?_
            refine lv_if_ne (tgt := 171) hx hb dX5_truth_164 (by decide) (fun c164 => ?_) (fun c164 => ?_)
            ·
              replace c164 : ¬ 3 = 0 := k0_net c164 (by omega)
              refine lv_aload_n hx hb dX5_truth_171 rfl (lv_at hl 5 rfl) ?_
              refine lv_iload_n hx hb dX5_truth_172 rfl (lv_at hl 6 rfl) ?_
              refine lv_iload hx hb dX5_truth_173 (lv_at hl 1 rfl) ?_
              refine xcallwi (va_runV (As := [.int (nI lv), .int (nI (p1 f))]) (rest := []) ⟨hx, hb, hml, hown, hts⟩ (ih (p1 f) (by omega) M _ lv mo hag hlv (by omega) (by omega) hti) (cwV 2 hts gX5_truth_X5_truth rfl rfl rfl (by decide +kernel) ⟨by dsimp only; omega, by dsimp only; omega⟩) (xpreVs hP hK (ci := 5) 0 rfl rfl) rfl rfl hl.1 rfl (lv_room (Nat.le_of_ble_eq_true rfl)) dX5_truth_175 ⟨Nat.le_of_ble_eq_true rfl, Nat.le_of_ble_eq_true rfl⟩) hS (kAle hS.1) (fun u_36 H locs hu_36 hP _ _ hS => ?_)
              have hP : va_P D vwCl (rc cs b u_36) H := hP
              have hk_37 : u_36 0 1 = nI n := by rw [hu_36.1 0 1 (by decide)]; exact hn
              have hk_38 : u_36 0 3 = nI nf := by rw [hu_36.1 0 3 (by decide)]; exact hfc
              refine lv_istore (lv' := [(8, .int (semR M0 n kd p1 p2 sb ag mo (p1 f))), (7, .int (nI 0)), (6, .int (nI (p1 f))), (5, .int (nI (ag f))), (4, .int mo), (3, .int (nI ((40 * lv) + f))), (0, .ref (b 0)), (1, .int (nI lv)), (2, .int (nI f))]) hx hb dX5_truth_178 hl (by decide) rfl (fun ls hl => ?_)
              refine lv_iconst (v := (nI 0)) hx hb dX5_truth_180 (by decide) ?_
              refine lv_istore (lv' := [(9, .int (nI 0)), (8, .int (semR M0 n kd p1 p2 sb ag mo (p1 f))), (7, .int (nI 0)), (6, .int (nI (p1 f))), (5, .int (nI (ag f))), (4, .int mo), (3, .int (nI ((40 * lv) + f))), (0, .ref (b 0)), (1, .int (nI lv)), (2, .int (nI f))]) hx hb dX5_truth_181 hl (by decide) rfl (fun ls hl => ?_)
              have cut183 : ∀ (f183 : Nat) (j : Nat) (hj : j ≤ n), n + 1 ≤ j + f183 → ∀ (H : Heap) (locs : List Loc), va_P D vwCl (rc cs b u_36) H → va_S (kA b 12 s.heap.size) s.heap H locs → ∀ (ls : Array Slot), lv_has ls 12 [(0, .ref (b 0)), (1, .int (nI lv)), (2, .int (nI f)), (3, .int (nI ((40 * lv) + f))), (4, .int mo), (5, .int (nI (ag f))), (6, .int (nI (p1 f))), (7, .int (fo (fun w r => if bt mo w && decide ((M0 2 (24 * ag f + w) &&& mo &&& (semR M0 n kd p1 p2 sb ag mo (p1 f) ^^^ (-1))) = 0) then r ||| sg w else r) (nI 0) j)), (8, .int (semR M0 n kd p1 p2 sb ag mo (p1 f))), (9, .int (nI j))] → W p l e ({ frames := 106 + f, cells := 0, slots := 0, locals := 3100 + 31 * f } : Room) s m ([.ref (b 0), .int (nI lv), .int (nI f)] : List Value).toArray below meth c H locs 0 0 Q (F0 m 183 ls []) := by
                intro f183
                induction f183 with
                | zero => intro j hj hfu183; exact absurd hfu183 (by omega)
                | succ f183 cut183 =>
                  intro j hj hfu183 H locs hP hS ls hl
                  refine lv_iload hx hb dX5_truth_183 (lv_at hl 9 rfl) ?_
                  refine lv_aload_n hx hb dX5_truth_185 rfl (lv_at hl 0 rfl) ?_
                  refine va_get (D := D) (ci := 5) (v := .int (u_36 0 1)) (C := RX5) (T := TX5) (N := 15) hx hb hts hinX5 hown hK1 hP 0 rfl rfl 1 (by decide) (hts (.fieldLink RX5 48 "KnowledgeModelModel" "worlds" "I") (List.mem_of_getElem? (i := 7) rfl)) (fun _ h9 => h9) rfl dX5_truth_186 ?_
                  refine xtop (y := nI n) (hk_37) ?_
                  refine lv_icmp_ge (tgt := 342) hx hb dX5_truth_189 (by decide) (fun c189 => ?_) (fun c189 => ?_)
                  ·
                    replace c189 : n ≤ j := k_get c189 (by omega) (by omega)
                    have hje : j = n := by omega
                    have hval : (fo (fun w r => if bt mo w && decide ((M0 2 (24 * ag f + w) &&& mo &&& (semR M0 n kd p1 p2 sb ag mo (p1 f) ^^^ (-1))) = 0) then r ||| sg w else r) (nI 0) j) = semR M0 n kd p1 p2 sb ag mo f := by rw [semR_eq hwp hf]; simp only [askR, hkd, if_true, if_false, show (1 : Nat) ≠ 0 by decide, show (2 : Nat) ≠ 0 by decide, show (2 : Nat) ≠ 1 by decide, show (3 : Nat) ≠ 0 by decide, show (3 : Nat) ≠ 1 by decide, show (3 : Nat) ≠ 2 by decide, show (3 : Nat) ≠ 6 by decide, show (4 : Nat) ≠ 0 by decide, show (4 : Nat) ≠ 1 by decide, show (4 : Nat) ≠ 2 by decide, show (4 : Nat) ≠ 3 by decide, show (4 : Nat) ≠ 6 by decide, show (5 : Nat) ≠ 0 by decide, show (5 : Nat) ≠ 1 by decide, show (5 : Nat) ≠ 2 by decide, show (5 : Nat) ≠ 3 by decide, show (5 : Nat) ≠ 4 by decide, show (5 : Nat) ≠ 6 by decide, show (6 : Nat) ≠ 0 by decide, show (6 : Nat) ≠ 1 by decide, show (6 : Nat) ≠ 2 by decide, hje]
                    refine lv_aload_n hx hb dX5_truth_342 rfl (lv_at hl 0 rfl) ?_
                    refine va_get (D := D) (ci := 5) (v := .ref (b 10)) (C := RX5) (T := TX5) (N := 15) hx hb hts hinX5 hown hK1 hP 0 rfl rfl 13 (by decide) (hts (.fieldLink RX5 38 "KnowledgeModelModel" "truths" "[I") (List.mem_of_getElem? (i := 2) rfl)) (fun _ h9 => h9) rfl dX5_truth_343 ?_
                    refine lv_iload_n hx hb dX5_truth_346 rfl (lv_at hl 3 rfl) ?_
                    refine lv_iload hx hb dX5_truth_347 (lv_at hl 7 rfl) ?_
                    refine lv_topi (fun x_39 hx_39 => ?_)
                    refine xiast (j := (40 * lv) + f) (q0 := 10) (t0 := 0) (ws' := rc cs b (wr u_36 10 ((40 * lv) + f) x_39)) hx hb hK1 hP (rD hI) hS rfl rfl (by omega) (by decide) rs_10 dX5_truth_349 (fun H locs hP hS => ?_)
                    obtain ⟨M_40, hM_40⟩ : ∃ z, z = wr u_36 10 ((40 * lv) + f) x_39 := ⟨_, rfl⟩
                    rw [← hM_40] at hP
                    have hk_41 : M_40 0 1 = nI n := by rw [hM_40]; exact (wr_ne (Or.inl (by omega))).trans hk_37
                    have hk_42 : M_40 0 3 = nI nf := by rw [hM_40]; exact (wr_ne (Or.inl (by omega))).trans hk_38
                    refine lv_aload_n hx hb dX5_truth_350 rfl (lv_at hl 0 rfl) ?_
                    refine va_get (D := D) (ci := 5) (v := .ref (b 9)) (C := RX5) (T := TX5) (N := 15) hx hb hts hinX5 hown hK1 hP 0 rfl rfl 12 (by decide) (hts (.fieldLink RX5 34 "KnowledgeModelModel" "areKnown" "[Z") (List.mem_of_getElem? (i := 1) rfl)) (fun _ h9 => h9) rfl dX5_truth_351 ?_
                    refine lv_iload_n hx hb dX5_truth_354 rfl (lv_at hl 3 rfl) ?_
                    refine lv_iconst (v := (nI 1)) hx hb dX5_truth_355 (by decide) ?_
                    refine xzast (j := (40 * lv) + f) (q0 := 9) (t0 := 3) (ws' := rc cs b (wr M_40 9 ((40 * lv) + f) (nI 1))) hx hb hK1 hP (rD hI) hS rfl rfl (by omega) (by decide) (by decide) rs_9 dX5_truth_356 (fun H locs hP hS => ?_)
                    obtain ⟨M_43, hM_43⟩ : ∃ z, z = wr M_40 9 ((40 * lv) + f) (nI 1) := ⟨_, rfl⟩
                    rw [← hM_43] at hP
                    have hk_44 : M_43 0 1 = nI n := by rw [hM_43]; exact (wr_ne (Or.inl (by omega))).trans hk_41
                    have hk_45 : M_43 0 3 = nI nf := by rw [hM_43]; exact (wr_ne (Or.inl (by omega))).trans hk_42
                    refine lv_iload hx hb dX5_truth_357 (lv_at hl 7 rfl) ?_
                    subst hQ
                    have hrel : TR M0 M n nf kd p1 p2 sb ag lv mo M_43 := by first | exact TR_r hti | (simp only [fo_0, c13, c57, c87, c115, c164, c189, hx_39, hM_40, hM_43]; exact TR_w (TR_r hti) hf hval) | (simp only [fo_0, c13, c57, c87, c115, c164, c189, hx_39, hM_40, hM_43]; exact TR_w hu_36 hf hval) | (simp only [fo_0, c13, c57, c87, c115, c164, c189, hx_39, hM_40, hM_43]; exact TR_w (TR_t hu_36 hu_36) hf hval) | (simp only [fo_0, c13, c57, c87, c115, c164, c189, hx_39, hM_40, hM_43]; exact TR_w (TR_b hu_36 hf40 (by simpa only [fo_0, c13, c57, c87, c115, c164, c189, hx_39, hM_40, hM_43] using hu_36)) hf hval)
                    have hfin : (fo (fun w r => if bt mo w && decide ((M0 2 (24 * ag f + w) &&& mo &&& (semR M0 n kd p1 p2 sb ag mo (p1 f) ^^^ (-1))) = 0) then r ||| sg w else r) (nI 0) j) = semR M0 n kd p1 p2 sb ag mo f := by first | exact hval | rfl
                    exact W.iret hx hb hr (fun t ht hW => ⟨⟨_, M_43, rfl, ⟨hfin, hrel⟩, by rw [← ht] at hP; exact hP⟩, hS.F ht⟩) hS.2.2 dX5_truth_359
                  ·
                    replace c189 : j < n := k_gef c189 (by omega) (by omega)
                    refine lv_iload hx hb dX5_truth_192 (lv_at hl 4 rfl) ?_
                    refine lv_iload hx hb dX5_truth_194 (lv_at hl 9 rfl) ?_
                    refine xcalli (va_runS (As := [.int mo, .int (nI j)]) (rest := []) ⟨hx, hb, hml, hown, hts⟩ (c_X5_has l mo j (by omega)) (va_cwS 2 hts gX5_truth_X5_has rfl rfl rfl (by decide +kernel) ⟨by dsimp only; omega, by dsimp only; omega⟩) xpreN rfl rfl hl.1 rfl (lv_room (Nat.le_of_ble_eq_true rfl)) dX5_truth_196 ⟨Nat.le_of_ble_eq_true rfl, Nat.le_of_ble_eq_true rfl⟩) hS hP (fun H locs hP hS => ?_)
                    refine lv_if_ne (tgt := 205) hx hb dX5_truth_199 (by decide) (fun c199 => ?_) (fun c199 => ?_)
                    ·
                      replace c199 := bI_n0 c199
                      refine lv_aload_n hx hb dX5_truth_205 rfl (lv_at hl 0 rfl) ?_
                      refine va_get (D := D) (ci := 5) (v := .ref (b 3)) (C := RX5) (T := TX5) (N := 15) hx hb hts hinX5 hown hK1 hP 0 rfl rfl 6 (by decide) (hts (.fieldLink RX5 16 "KnowledgeModelModel" "kinds" "[I") (List.mem_of_getElem? (i := 6) rfl)) (fun _ h9 => h9) rfl dX5_truth_206 ?_
                      refine lv_iload_n hx hb dX5_truth_209 rfl (lv_at hl 2 rfl) ?_
                      refine xiald (j := f) (q0 := 3) (t0 := 0) hx hb hK1 hP rfl rfl (by omega) (by decide) dX5_truth_210 ?_
                      refine xtop (y := (nI 3)) (by exact (((Ag8_t hag hu_36) 3 f (by decide)).trans hk3).trans (congrArg nI hkd)) ?_
                      refine lv_iconst (v := (nI 3)) hx hb dX5_truth_211 (by decide) ?_
                      refine lv_icmp_ne (tgt := 231) hx hb dX5_truth_212 (by decide) (fun c212 => ?_) (fun c212 => ?_)
                      ·
                        replace c212 : ¬ 3 = 3 := k_net c212 (by omega) (by omega)
                        exfalso; omega
                      ·
                        replace c212 : 3 = 3 := k_nef c212 (by omega) (by omega)
                        refine lv_aload_n hx hb dX5_truth_215 rfl (lv_at hl 0 rfl) ?_
                        refine va_get (D := D) (ci := 5) (v := .ref (b 2)) (C := RX5) (T := TX5) (N := 15) hx hb hts hinX5 hown hK1 hP 0 rfl rfl 4 (by decide) (hts (.fieldLink RX5 13 "KnowledgeModelModel" "seen" "[I") (List.mem_of_getElem? (i := 8) rfl)) (fun _ h9 => h9) rfl dX5_truth_216 ?_
                        refine lv_bipush (v := (nI 24)) hx hb dX5_truth_219 (by decide) ?_
                        refine lv_iload hx hb dX5_truth_221 (lv_at hl 5 rfl) ?_
                        refine ximul hx hb dX5_truth_223 ?_
                        refine lv_iload hx hb dX5_truth_224 (lv_at hl 9 rfl) ?_
                        refine xiadd hx hb dX5_truth_226 ?_
                        refine xiald (j := (24 * (ag f)) + j) (q0 := 2) (t0 := 0) hx hb hK1 hP rfl rfl (by omega) (by decide) dX5_truth_227 ?_
                        refine xtop (y := (M0 2 (24 * ag f + j))) (by exact (Ag8_t hag hu_36) 2 _ (by decide)) ?_
                        refine lv_goto (tgt := 276) hx hb dX5_truth_228 (by decide) ?_
                        refine lv_istore (lv' := [(10, .int (M0 2 (24 * ag f + j))), (0, .ref (b 0)), (1, .int (nI lv)), (2, .int (nI f)), (3, .int (nI ((40 * lv) + f))), (4, .int mo), (5, .int (nI (ag f))), (6, .int (nI (p1 f))), (7, .int (fo (fun w r => if bt mo w && decide ((M0 2 (24 * ag f + w) &&& mo &&& (semR M0 n kd p1 p2 sb ag mo (p1 f) ^^^ (-1))) = 0) then r ||| sg w else r) (nI 0) j)), (8, .int (semR M0 n kd p1 p2 sb ag mo (p1 f))), (9, .int (nI j))]) hx hb dX5_truth_276 hl (by decide) rfl (fun ls hl => ?_)
                        refine lv_aload_n hx hb dX5_truth_278 rfl (lv_at hl 1 rfl) ?_
                        refine va_get (D := D) (ci := 5) (v := .ref (b 3)) (C := RX5) (T := TX5) (N := 15) hx hb hts hinX5 hown hK1 hP 0 rfl rfl 6 (by decide) (hts (.fieldLink RX5 16 "KnowledgeModelModel" "kinds" "[I") (List.mem_of_getElem? (i := 6) rfl)) (fun _ h9 => h9) rfl dX5_truth_279 ?_
                        refine lv_iload_n hx hb dX5_truth_282 rfl (lv_at hl 3 rfl) ?_
                        refine xiald (j := f) (q0 := 3) (t0 := 0) hx hb hK1 hP rfl rfl (by omega) (by decide) dX5_truth_283 ?_
                        refine xtop (y := (nI 3)) (by exact (((Ag8_t hag hu_36) 3 f (by decide)).trans hk3).trans (congrArg nI hkd)) ?_
                        refine lv_if_ne (tgt := 302) hx hb dX5_truth_284 (by decide) (fun c284 => ?_) (fun c284 => ?_)
                        ·
                          replace c284 : ¬ 3 = 0 := k0_net c284 (by omega)
                          refine lv_iload hx hb dX5_truth_302 (lv_at hl 0 rfl) ?_
                          refine lv_iload hx hb dX5_truth_304 (lv_at hl 5 rfl) ?_
                          refine lv_iand hx hb dX5_truth_306 ?_
                          refine lv_iload hx hb dX5_truth_307 (lv_at hl 9 rfl) ?_
                          refine lv_iconst (v := (-1 : Int32)) hx hb dX5_truth_309 (by decide) ?_
                          refine lv_ixor hx hb dX5_truth_310 ?_
                          refine lv_iand hx hb dX5_truth_311 ?_
                          refine lv_if_ne (tgt := 319) hx hb dX5_truth_312 (by decide) (fun c312 => ?_) (fun c312 => ?_)
                          ·
                            refine lv_iconst (v := (nI 0)) hx hb dX5_truth_319 (by decide) ?_
                            refine lv_istore (lv' := [(11, .int (nI 0)), (10, .int (M0 2 (24 * ag f + j))), (0, .ref (b 0)), (1, .int (nI lv)), (2, .int (nI f)), (3, .int (nI ((40 * lv) + f))), (4, .int mo), (5, .int (nI (ag f))), (6, .int (nI (p1 f))), (7, .int (fo (fun w r => if bt mo w && decide ((M0 2 (24 * ag f + w) &&& mo &&& (semR M0 n kd p1 p2 sb ag mo (p1 f) ^^^ (-1))) = 0) then r ||| sg w else r) (nI 0) j)), (8, .int (semR M0 n kd p1 p2 sb ag mo (p1 f))), (9, .int (nI j))]) hx hb dX5_truth_320 hl (by decide) rfl (fun ls hl => ?_)
                            refine lv_iload hx hb dX5_truth_322 (lv_at hl 0 rfl) ?_
                            refine lv_if_eq (tgt := 336) hx hb dX5_truth_324 (by decide) (fun c324 => ?_) (fun c324 => ?_)
                            ·
                              replace c324 : 0 = 0 := k0_eqt c324 (by omega)
                              refine lv_iinc (v := (nI (j + 1))) (lv' := [(9, .int (nI (j + 1))), (11, .int (nI 0)), (10, .int (M0 2 (24 * ag f + j))), (0, .ref (b 0)), (1, .int (nI lv)), (2, .int (nI f)), (3, .int (nI ((40 * lv) + f))), (4, .int mo), (5, .int (nI (ag f))), (6, .int (nI (p1 f))), (7, .int (fo (fun w r => if bt mo w && decide ((M0 2 (24 * ag f + w) &&& mo &&& (semR M0 n kd p1 p2 sb ag mo (p1 f) ^^^ (-1))) = 0) then r ||| sg w else r) (nI 0) j)), (8, .int (semR M0 n kd p1 p2 sb ag mo (p1 f)))]) hx hb dX5_truth_336 hl (k := 11) rfl (nI_add j 1) (by decide) rfl (fun ls hl => ?_)
                              refine lv_goto (tgt := 183) hx hb dX5_truth_339 (by decide) ?_
                              have e_46 : (fo (fun w r => if bt mo w && decide ((M0 2 (24 * ag f + w) &&& mo &&& (semR M0 n kd p1 p2 sb ag mo (p1 f) ^^^ (-1))) = 0) then r ||| sg w else r) (nI 0) j) = (fo (fun w r => if bt mo w && decide ((M0 2 (24 * ag f + w) &&& mo &&& (semR M0 n kd p1 p2 sb ag mo (p1 f) ^^^ (-1))) = 0) then r ||| sg w else r) (nI 0) (j + 1)) := by first | (rw [fo_s, if_neg (by rw [c199]; exact Bool.false_ne_true)]; done) | (rw [fo_s, if_pos (by rw [c199, decide_eq_true c312]; rfl)]; assumption) | (rw [fo_s, if_neg (by rw [c199, decide_eq_false c312]; exact Bool.false_ne_true)]; done)
                              exact cut183 (j + 1) (by omega) (by omega) _ _ hP hS ls (lcons (lcons (lcons (lcons (lcons (lcons (lcons (lcons (lcons (lcons (lzero hl) hl 0 rfl rfl) hl 11 rfl rfl) hl 10 rfl (congrArg Value.int e_46)) hl 9 rfl rfl) hl 8 rfl rfl) hl 7 rfl rfl) hl 6 rfl rfl) hl 5 rfl rfl) hl 4 rfl rfl) hl 3 rfl rfl)
                            ·
                              replace c324 : ¬ 0 = 0 := k0_eqf c324 (by omega)
                              exfalso; omega
                          ·
                            refine lv_iconst (v := (nI 1)) hx hb dX5_truth_315 (by decide) ?_
                            refine lv_goto (tgt := 320) hx hb dX5_truth_316 (by decide) ?_
                            refine lv_istore (lv' := [(11, .int (nI 1)), (10, .int (M0 2 (24 * ag f + j))), (0, .ref (b 0)), (1, .int (nI lv)), (2, .int (nI f)), (3, .int (nI ((40 * lv) + f))), (4, .int mo), (5, .int (nI (ag f))), (6, .int (nI (p1 f))), (7, .int (fo (fun w r => if bt mo w && decide ((M0 2 (24 * ag f + w) &&& mo &&& (semR M0 n kd p1 p2 sb ag mo (p1 f) ^^^ (-1))) = 0) then r ||| sg w else r) (nI 0) j)), (8, .int (semR M0 n kd p1 p2 sb ag mo (p1 f))), (9, .int (nI j))]) hx hb dX5_truth_320 hl (by decide) rfl (fun ls hl => ?_)
                            refine lv_iload hx hb dX5_truth_322 (lv_at hl 0 rfl) ?_
                            refine lv_if_eq (tgt := 336) hx hb dX5_truth_324 (by decide) (fun c324 => ?_) (fun c324 => ?_)
                            ·
                              replace c324 : 1 = 0 := k0_eqt c324 (by omega)
                              exfalso; omega
                            ·
                              replace c324 : ¬ 1 = 0 := k0_eqf c324 (by omega)
                              refine lv_iload hx hb dX5_truth_327 (lv_at hl 9 rfl) ?_
                              refine lv_iconst (v := (nI 1)) hx hb dX5_truth_329 (by decide) ?_
                              refine lv_iload hx hb dX5_truth_330 (lv_at hl 11 rfl) ?_
                              refine lv_ishl hx hb dX5_truth_332 ?_
                              refine lv_ior hx hb dX5_truth_333 ?_
                              refine lv_topi (fun x_47 hx_47 => ?_)
                              refine lv_istore (lv' := [(7, .int x_47), (11, .int (nI 1)), (10, .int (M0 2 (24 * ag f + j))), (0, .ref (b 0)), (1, .int (nI lv)), (2, .int (nI f)), (3, .int (nI ((40 * lv) + f))), (4, .int mo), (5, .int (nI (ag f))), (6, .int (nI (p1 f))), (8, .int (semR M0 n kd p1 p2 sb ag mo (p1 f))), (9, .int (nI j))]) hx hb dX5_truth_334 hl (by decide) rfl (fun ls hl => ?_)
                              refine lv_iinc (v := (nI (j + 1))) (lv' := [(9, .int (nI (j + 1))), (7, .int x_47), (11, .int (nI 1)), (10, .int (M0 2 (24 * ag f + j))), (0, .ref (b 0)), (1, .int (nI lv)), (2, .int (nI f)), (3, .int (nI ((40 * lv) + f))), (4, .int mo), (5, .int (nI (ag f))), (6, .int (nI (p1 f))), (8, .int (semR M0 n kd p1 p2 sb ag mo (p1 f)))]) hx hb dX5_truth_336 hl (k := 11) rfl (nI_add j 1) (by decide) rfl (fun ls hl => ?_)
                              refine lv_goto (tgt := 183) hx hb dX5_truth_339 (by decide) ?_
                              have e_48 : x_47 = (fo (fun w r => if bt mo w && decide ((M0 2 (24 * ag f + w) &&& mo &&& (semR M0 n kd p1 p2 sb ag mo (p1 f) ^^^ (-1))) = 0) then r ||| sg w else r) (nI 0) (j + 1)) := by first | (rw [fo_s, if_neg (by rw [c199]; exact Bool.false_ne_true)]; done) | (rw [fo_s, if_pos (by rw [c199, decide_eq_true c312]; rfl)]; assumption) | (rw [fo_s, if_neg (by rw [c199, decide_eq_false c312]; exact Bool.false_ne_true)]; done)
                              exact cut183 (j + 1) (by omega) (by omega) _ _ hP hS ls (lcons (lcons (lcons (lcons (lcons (lcons (lcons (lcons (lcons (lcons (lzero hl) hl 0 rfl rfl) hl 11 rfl rfl) hl 1 rfl (congrArg Value.int e_48)) hl 10 rfl rfl) hl 9 rfl rfl) hl 8 rfl rfl) hl 7 rfl rfl) hl 6 rfl rfl) hl 5 rfl rfl) hl 4 rfl rfl)
                        ·
                          replace c284 : 3 = 0 := k0_nef c284 (by omega)
                          exfalso; omega
                    ·
                      replace c199 := bI_0 c199
                      refine lv_goto (tgt := 336) hx hb dX5_truth_202 (by decide) ?_
                      refine lv_iinc (v := (nI (j + 1))) (lv' := [(9, .int (nI (j + 1))), (0, .ref (b 0)), (1, .int (nI lv)), (2, .int (nI f)), (3, .int (nI ((40 * lv) + f))), (4, .int mo), (5, .int (nI (ag f))), (6, .int (nI (p1 f))), (7, .int (fo (fun w r => if bt mo w && decide ((M0 2 (24 * ag f + w) &&& mo &&& (semR M0 n kd p1 p2 sb ag mo (p1 f) ^^^ (-1))) = 0) then r ||| sg w else r) (nI 0) j)), (8, .int (semR M0 n kd p1 p2 sb ag mo (p1 f)))]) hx hb dX5_truth_336 hl (k := 9) rfl (nI_add j 1) (by decide) rfl (fun ls hl => ?_)
                      refine lv_goto (tgt := 183) hx hb dX5_truth_339 (by decide) ?_
                      have e_49 : (fo (fun w r => if bt mo w && decide ((M0 2 (24 * ag f + w) &&& mo &&& (semR M0 n kd p1 p2 sb ag mo (p1 f) ^^^ (-1))) = 0) then r ||| sg w else r) (nI 0) j) = (fo (fun w r => if bt mo w && decide ((M0 2 (24 * ag f + w) &&& mo &&& (semR M0 n kd p1 p2 sb ag mo (p1 f) ^^^ (-1))) = 0) then r ||| sg w else r) (nI 0) (j + 1)) := by first | (rw [fo_s, if_neg (by rw [c199]; exact Bool.false_ne_true)]; done) | (rw [fo_s, if_pos (by rw [c199, decide_eq_true c312]; rfl)]; assumption) | (rw [fo_s, if_neg (by rw [c199, decide_eq_false c312]; exact Bool.false_ne_true)]; done)
                      exact cut183 (j + 1) (by omega) (by omega) _ _ hP hS ls (lcons (lcons (lcons (lcons (lcons (lcons (lcons (lcons (lcons (lcons (lzero hl) hl 0 rfl rfl) hl 9 rfl rfl) hl 8 rfl (congrArg Value.int e_49)) hl 7 rfl rfl) hl 6 rfl rfl) hl 5 rfl rfl) hl 4 rfl rfl) hl 3 rfl rfl) hl 2 rfl rfl) hl 1 rfl rfl)
              have e_50 : (nI 0) = (fo (fun w r => if bt mo w && decide ((M0 2 (24 * ag f + w) &&& mo &&& (semR M0 n kd p1 p2 sb ag mo (p1 f) ^^^ (-1))) = 0) then r ||| sg w else r) (nI 0) 0) := by rfl
              exact cut183 (n + 1) 0 (by omega) (by omega) _ _ hP hS ls (lcons (lcons (lcons (lcons (lcons (lcons (lcons (lcons (lcons (lcons (lzero hl) hl 0 rfl rfl) hl 1 rfl rfl) hl 2 rfl (congrArg Value.int e_50)) hl 3 rfl rfl) hl 4 rfl rfl) hl 5 rfl rfl) hl 6 rfl rfl) hl 9 rfl rfl) hl 8 rfl rfl) hl 7 rfl rfl)
            ·
              replace c164 : 3 = 0 := k0_nef c164 (by omega)
              exfalso; omega
          ·
            replace c115 : 3 = 6 := k_nef c115 (by omega) (by omega)
            exfalso; omega
        ·
          replace c87 : 3 = 1 := k_nef c87 (by omega) (by omega)
          exfalso; omega
      ·
        replace c57 : 3 = 2 := k_nef c57 (by omega) (by omega)
        exfalso; omega
    ·
      refine lv_aload_n hx hb dX5_truth_16 rfl (lv_at hl 1 rfl) ?_
      refine va_get (D := D) (ci := 5) (v := .ref (b 10)) (C := RX5) (T := TX5) (N := 15) hx hb hts hinX5 hown hK1 hP 0 rfl rfl 13 (by decide) (hts (.fieldLink RX5 38 "KnowledgeModelModel" "truths" "[I") (List.mem_of_getElem? (i := 2) rfl)) (fun _ h9 => h9) rfl dX5_truth_17 ?_
      refine lv_iload_n hx hb dX5_truth_20 rfl (lv_at hl 0 rfl) ?_
      refine xiald (j := (40 * lv) + f) (q0 := 10) (t0 := 0) hx hb hK1 hP rfl rfl (by omega) (by decide) dX5_truth_21 ?_
      refine xtop (y := (semR M0 n kd p1 p2 sb ag mo f)) (by exact ((hti.2 f hf).resolve_left c13).2) ?_
      subst hQ
      have hrel : TR M0 M n nf kd p1 p2 sb ag lv mo M := by first | exact TR_r hti | (simp only [fo_0, c13]; exact TR_w (TR_r hti) hf hval) | (simp only [fo_0, c13]; exact TR_w trivial hf hval) | (simp only [fo_0, c13]; exact TR_w (TR_t trivial trivial) hf hval) | (simp only [fo_0, c13]; exact TR_w (TR_b trivial hf40 (by simpa only [fo_0, c13] using trivial)) hf hval)
      have hfin : (semR M0 n kd p1 p2 sb ag mo f) = semR M0 n kd p1 p2 sb ag mo f := by first | exact hval | rfl
      exact W.iret hx hb hr (fun t ht hW => ⟨⟨_, M, rfl, ⟨hfin, hrel⟩, by rw [← ht] at hP; exact hP⟩, hS.F ht⟩) hS.2.2 dX5_truth_22
  ·
    have hq1 := hL.1 (by omega)
    have hz1 := hE1 (by omega)
    have hB1 := hB (by omega)
    refine lv_bipush (v := (nI 40)) hx hb dX5_truth_0 (by decide) ?_
    refine lv_iload_n hx hb dX5_truth_2 rfl (lv_at hl 1 rfl) ?_
    refine ximul hx hb dX5_truth_3 ?_
    refine lv_iload_n hx hb dX5_truth_4 rfl (lv_at hl 2 rfl) ?_
    refine xiadd hx hb dX5_truth_5 ?_
    refine lv_istore_n (lv' := [(3, .int (nI ((40 * lv) + f))), (0, .ref (b 0)), (1, .int (nI lv)), (2, .int (nI f))]) hx hb dX5_truth_6 rfl hl (by decide) rfl (fun ls hl => ?_)
    refine lv_aload_n hx hb dX5_truth_7 rfl (lv_at hl 1 rfl) ?_
    refine va_get (D := D) (ci := 5) (v := .ref (b 9)) (C := RX5) (T := TX5) (N := 15) hx hb hts hinX5 hown hK1 hP 0 rfl rfl 12 (by decide) (hts (.fieldLink RX5 34 "KnowledgeModelModel" "areKnown" "[Z") (List.mem_of_getElem? (i := 1) rfl)) (fun _ h9 => h9) rfl dX5_truth_8 ?_
    refine lv_iload_n hx hb dX5_truth_11 rfl (lv_at hl 0 rfl) ?_
    refine xzald (j := (40 * lv) + f) (q0 := 9) (t0 := 3) hx hb hK1 hP rfl rfl (by omega) (by decide) dX5_truth_12 ?_
    refine lv_if_eq (tgt := 23) hx hb dX5_truth_13 (by decide) (fun c13 => ?_) (fun c13 => ?_)
    ·
      refine lv_aload_n hx hb dX5_truth_23 rfl (lv_at hl 1 rfl) ?_
      refine va_get (D := D) (ci := 5) (v := .ref (b 8)) (C := RX5) (T := TX5) (N := 15) hx hb hts hinX5 hown hK1 hP 0 rfl rfl 11 (by decide) (hts (.fieldLink RX5 31 "KnowledgeModelModel" "lefts" "[I") (List.mem_of_getElem? (i := 3) rfl)) (fun _ h9 => h9) rfl dX5_truth_24 ?_
      refine lv_iload_n hx hb dX5_truth_27 rfl (lv_at hl 2 rfl) ?_
      refine xiald (j := lv) (q0 := 8) (t0 := 0) hx hb hK1 hP rfl rfl (by omega) (by decide) dX5_truth_28 ?_
      refine xtop (y := mo) (by exact hti.1) ?_
      refine lv_istore (lv' := [(4, .int mo), (3, .int (nI ((40 * lv) + f))), (0, .ref (b 0)), (1, .int (nI lv)), (2, .int (nI f))]) hx hb dX5_truth_29 hl (by decide) rfl (fun ls hl => ?_)
      refine lv_aload_n hx hb dX5_truth_31 rfl (lv_at hl 2 rfl) ?_
      refine va_get (D := D) (ci := 5) (v := .ref (b 4)) (C := RX5) (T := TX5) (N := 15) hx hb hts hinX5 hown hK1 hP 0 rfl rfl 7 (by decide) (hts (.fieldLink RX5 19 "KnowledgeModelModel" "firsts" "[I") (List.mem_of_getElem? (i := 4) rfl)) (fun _ h9 => h9) rfl dX5_truth_32 ?_
      refine lv_iload_n hx hb dX5_truth_35 rfl (lv_at hl 4 rfl) ?_
      refine xiald (j := f) (q0 := 4) (t0 := 0) hx hb hK1 hP rfl rfl (by omega) (by decide) dX5_truth_36 ?_
      refine xtop (y := (M0 4 f)) (by exact hag 4 f (by decide)) ?_
      refine lv_istore (lv' := [(5, .int (M0 4 f)), (4, .int mo), (3, .int (nI ((40 * lv) + f))), (0, .ref (b 0)), (1, .int (nI lv)), (2, .int (nI f))]) hx hb dX5_truth_37 hl (by decide) rfl (fun ls hl => ?_)
      refine lv_aload_n hx hb dX5_truth_39 rfl (lv_at hl 3 rfl) ?_
      refine va_get (D := D) (ci := 5) (v := .ref (b 5)) (C := RX5) (T := TX5) (N := 15) hx hb hts hinX5 hown hK1 hP 0 rfl rfl 8 (by decide) (hts (.fieldLink RX5 22 "KnowledgeModelModel" "seconds" "[I") (List.mem_of_getElem? (i := 5) rfl)) (fun _ h9 => h9) rfl dX5_truth_40 ?_
      refine lv_iload_n hx hb dX5_truth_43 rfl (lv_at hl 5 rfl) ?_
      refine xiald (j := f) (q0 := 5) (t0 := 0) hx hb hK1 hP rfl rfl (by omega) (by decide) dX5_truth_44 ?_
      refine xtop (y := (nI (p1 f))) (by exact (hag 5 f (by decide)).trans hB1) ?_
      refine lv_istore (lv' := [(6, .int (nI (p1 f))), (5, .int (M0 4 f)), (4, .int mo), (3, .int (nI ((40 * lv) + f))), (0, .ref (b 0)), (1, .int (nI lv)), (2, .int (nI f))]) hx hb dX5_truth_45 hl (by decide) rfl (fun ls hl => ?_)
      refine lv_iconst (v := (nI 0)) hx hb dX5_truth_47 (by decide) ?_
      refine lv_istore (lv' := [(7, .int (nI 0)), (6, .int (nI (p1 f))), (5, .int (M0 4 f)), (4, .int mo), (3, .int (nI ((40 * lv) + f))), (0, .ref (b 0)), (1, .int (nI lv)), (2, .int (nI f))]) hx hb dX5_truth_48 hl (by decide) rfl (fun ls hl => ?_)
      refine lv_aload_n hx hb dX5_truth_50 rfl (lv_at hl 5 rfl) ?_
      refine va_get (D := D) (ci := 5) (v := .ref (b 3)) (C := RX5) (T := TX5) (N := 15) hx hb hts hinX5 hown hK1 hP 0 rfl rfl 6 (by decide) (hts (.fieldLink RX5 16 "KnowledgeModelModel" "kinds" "[I") (List.mem_of_getElem? (i := 6) rfl)) (fun _ h9 => h9) rfl dX5_truth_51 ?_
      refine lv_iload_n hx hb dX5_truth_54 rfl (lv_at hl 7 rfl) ?_
      refine xiald (j := f) (q0 := 3) (t0 := 0) hx hb hK1 hP rfl rfl (by omega) (by decide) dX5_truth_55 ?_
      refine xtop (y := (nI 4)) (by exact ((hag 3 f (by decide)).trans hk3).trans (congrArg nI hkd)) ?_
      refine lv_iconst (v := (nI 2)) hx hb dX5_truth_56 (by decide) ?_
      refine lv_icmp_ne (tgt := 80) hx hb dX5_truth_57 (by decide) (fun c57 => ?_) (fun c57 => ?_)
      ·
        replace c57 : ¬ 4 = 2 := k_net c57 (by omega) (by omega)
        refine lv_aload_n hx hb dX5_truth_80 rfl (lv_at hl 5 rfl) ?_
        refine va_get (D := D) (ci := 5) (v := .ref (b 3)) (C := RX5) (T := TX5) (N := 15) hx hb hts hinX5 hown hK1 hP 0 rfl rfl 6 (by decide) (hts (.fieldLink RX5 16 "KnowledgeModelModel" "kinds" "[I") (List.mem_of_getElem? (i := 6) rfl)) (fun _ h9 => h9) rfl dX5_truth_81 ?_
        refine lv_iload_n hx hb dX5_truth_84 rfl (lv_at hl 7 rfl) ?_
        refine xiald (j := f) (q0 := 3) (t0 := 0) hx hb hK1 hP rfl rfl (by omega) (by decide) dX5_truth_85 ?_
        refine xtop (y := (nI 4)) (by exact ((hag 3 f (by decide)).trans hk3).trans (congrArg nI hkd)) ?_
        refine lv_iconst (v := (nI 1)) hx hb dX5_truth_86 (by decide) ?_
        refine lv_icmp_ne (tgt := 107) hx hb dX5_truth_87 (by decide) (fun c87 => ?_) (fun c87 => ?_)
        ·
          replace c87 : ¬ 4 = 1 := k_net c87 (by omega) (by omega)
          refine lv_aload_n hx hb dX5_truth_107 rfl (lv_at hl 5 rfl) ?_
          refine va_get (D := D) (ci := 5) (v := .ref (b 3)) (C := RX5) (T := TX5) (N := 15) hx hb hts hinX5 hown hK1 hP 0 rfl rfl 6 (by decide) (hts (.fieldLink RX5 16 "KnowledgeModelModel" "kinds" "[I") (List.mem_of_getElem? (i := 6) rfl)) (fun _ h9 => h9) rfl dX5_truth_108 ?_
          refine lv_iload_n hx hb dX5_truth_111 rfl (lv_at hl 7 rfl) ?_
          refine xiald (j := f) (q0 := 3) (t0 := 0) hx hb hK1 hP rfl rfl (by omega) (by decide) dX5_truth_112 ?_
          refine xtop (y := (nI 4)) (by exact ((hag 3 f (by decide)).trans hk3).trans (congrArg nI hkd)) ?_
          refine lv_bipush (v := (nI 6)) hx hb dX5_truth_113 (by decide) ?_
          refine lv_icmp_ne (tgt := 158) hx hb dX5_truth_115 (by decide) (fun c115 => ?_) (fun c115 => ?_)
          ·
            replace c115 : ¬ 4 = 6 := k_net c115 (by omega) (by omega)
            refine lv_aload_n hx hb dX5_truth_158 rfl (lv_at hl 5 rfl) ?_
            refine va_get (D := D) (ci := 5) (v := .ref (b 3)) (C := RX5) (T := TX5) (N := 15) hx hb hts hinX5 hown hK1 hP 0 rfl rfl 6 (by decide) (hts (.fieldLink RX5 16 "KnowledgeModelModel" "kinds" "[I") (List.mem_of_getElem? (i := 6) rfl)) (fun _ h9 => h9) rfl dX5_truth_159 ?_
            refine lv_iload_n hx hb dX5_truth_162 rfl (lv_at hl 7 rfl) ?_
            refine xiald (j := f) (q0 := 3) (t0 := 0) hx hb hK1 hP rfl rfl (by omega) (by decide) dX5_truth_163 ?_
            refine xtop (y := (nI 4)) (by exact ((hag 3 f (by decide)).trans hk3).trans (congrArg nI hkd)) ?_
            refine lv_if_ne (tgt := 171) hx hb dX5_truth_164 (by decide) (fun c164 => ?_) (fun c164 => ?_)
            ·
              replace c164 : ¬ 4 = 0 := k0_net c164 (by omega)
              refine lv_aload_n hx hb dX5_truth_171 rfl (lv_at hl 5 rfl) ?_
              refine lv_iload_n hx hb dX5_truth_172 rfl (lv_at hl 6 rfl) ?_
              refine lv_iload hx hb dX5_truth_173 (lv_at hl 1 rfl) ?_
              refine xcallwi (va_runV (As := [.int (nI lv), .int (nI (p1 f))]) (rest := []) ⟨hx, hb, hml, hown, hts⟩ (ih (p1 f) (by omega) M _ lv mo hag hlv (by omega) (by omega) hti) (cwV 2 hts gX5_truth_X5_truth rfl rfl rfl (by decide +kernel) ⟨by dsimp only; omega, by dsimp only; omega⟩) (xpreVs hP hK (ci := 5) 0 rfl rfl) rfl rfl hl.1 rfl (lv_room (Nat.le_of_ble_eq_true rfl)) dX5_truth_175 ⟨Nat.le_of_ble_eq_true rfl, Nat.le_of_ble_eq_true rfl⟩) hS (kAle hS.1) (fun u_51 H locs hu_51 hP _ _ hS => ?_)
              have hP : va_P D vwCl (rc cs b u_51) H := hP
              have hk_52 : u_51 0 1 = nI n := by rw [hu_51.1 0 1 (by decide)]; exact hn
              have hk_53 : u_51 0 3 = nI nf := by rw [hu_51.1 0 3 (by decide)]; exact hfc
              refine lv_istore (lv' := [(8, .int (semR M0 n kd p1 p2 sb ag mo (p1 f))), (7, .int (nI 0)), (6, .int (nI (p1 f))), (5, .int (M0 4 f)), (4, .int mo), (3, .int (nI ((40 * lv) + f))), (0, .ref (b 0)), (1, .int (nI lv)), (2, .int (nI f))]) hx hb dX5_truth_178 hl (by decide) rfl (fun ls hl => ?_)
              refine lv_iconst (v := (nI 0)) hx hb dX5_truth_180 (by decide) ?_
              refine lv_istore (lv' := [(9, .int (nI 0)), (8, .int (semR M0 n kd p1 p2 sb ag mo (p1 f))), (7, .int (nI 0)), (6, .int (nI (p1 f))), (5, .int (M0 4 f)), (4, .int mo), (3, .int (nI ((40 * lv) + f))), (0, .ref (b 0)), (1, .int (nI lv)), (2, .int (nI f))]) hx hb dX5_truth_181 hl (by decide) rfl (fun ls hl => ?_)
              have cut183 : ∀ (f183 : Nat) (j : Nat) (hj : j ≤ n), n + 1 ≤ j + f183 → ∀ (H : Heap) (locs : List Loc), va_P D vwCl (rc cs b u_51) H → va_S (kA b 12 s.heap.size) s.heap H locs → ∀ (ls : Array Slot), lv_has ls 12 [(0, .ref (b 0)), (1, .int (nI lv)), (2, .int (nI f)), (3, .int (nI ((40 * lv) + f))), (4, .int mo), (5, .int (M0 4 f)), (6, .int (nI (p1 f))), (7, .int (fo (fun w r => if bt mo w && decide ((reachR M0 n (M0 4 f) w mo &&& mo &&& (semR M0 n kd p1 p2 sb ag mo (p1 f) ^^^ (-1))) = 0) then r ||| sg w else r) (nI 0) j)), (8, .int (semR M0 n kd p1 p2 sb ag mo (p1 f))), (9, .int (nI j))] → W p l e ({ frames := 106 + f, cells := 0, slots := 0, locals := 3100 + 31 * f } : Room) s m ([.ref (b 0), .int (nI lv), .int (nI f)] : List Value).toArray below meth c H locs 0 0 Q (F0 m 183 ls []) := by
                intro f183
                induction f183 with
                | zero => intro j hj hfu183; exact absurd hfu183 (by omega)
                | succ f183 cut183 =>
                  intro j hj hfu183 H locs hP hS ls hl
                  refine lv_iload hx hb dX5_truth_183 (lv_at hl 9 rfl) ?_
                  refine lv_aload_n hx hb dX5_truth_185 rfl (lv_at hl 0 rfl) ?_
                  refine va_get (D := D) (ci := 5) (v := .int (u_51 0 1)) (C := RX5) (T := TX5) (N := 15) hx hb hts hinX5 hown hK1 hP 0 rfl rfl 1 (by decide) (hts (.fieldLink RX5 48 "KnowledgeModelModel" "worlds" "I") (List.mem_of_getElem? (i := 7) rfl)) (fun _ h9 => h9) rfl dX5_truth_186 ?_
                  refine xtop (y := nI n) (hk_52) ?_
                  refine lv_icmp_ge (tgt := 342) hx hb dX5_truth_189 (by decide) (fun c189 => ?_) (fun c189 => ?_)
                  ·
                    replace c189 : n ≤ j := k_get c189 (by omega) (by omega)
                    have hje : j = n := by omega
                    have hval : (fo (fun w r => if bt mo w && decide ((reachR M0 n (M0 4 f) w mo &&& mo &&& (semR M0 n kd p1 p2 sb ag mo (p1 f) ^^^ (-1))) = 0) then r ||| sg w else r) (nI 0) j) = semR M0 n kd p1 p2 sb ag mo f := by rw [semR_eq hwp hf]; simp only [askR, hkd, if_true, if_false, show (1 : Nat) ≠ 0 by decide, show (2 : Nat) ≠ 0 by decide, show (2 : Nat) ≠ 1 by decide, show (3 : Nat) ≠ 0 by decide, show (3 : Nat) ≠ 1 by decide, show (3 : Nat) ≠ 2 by decide, show (3 : Nat) ≠ 6 by decide, show (4 : Nat) ≠ 0 by decide, show (4 : Nat) ≠ 1 by decide, show (4 : Nat) ≠ 2 by decide, show (4 : Nat) ≠ 3 by decide, show (4 : Nat) ≠ 6 by decide, show (5 : Nat) ≠ 0 by decide, show (5 : Nat) ≠ 1 by decide, show (5 : Nat) ≠ 2 by decide, show (5 : Nat) ≠ 3 by decide, show (5 : Nat) ≠ 4 by decide, show (5 : Nat) ≠ 6 by decide, show (6 : Nat) ≠ 0 by decide, show (6 : Nat) ≠ 1 by decide, show (6 : Nat) ≠ 2 by decide, hje]
                    refine lv_aload_n hx hb dX5_truth_342 rfl (lv_at hl 0 rfl) ?_
                    refine va_get (D := D) (ci := 5) (v := .ref (b 10)) (C := RX5) (T := TX5) (N := 15) hx hb hts hinX5 hown hK1 hP 0 rfl rfl 13 (by decide) (hts (.fieldLink RX5 38 "KnowledgeModelModel" "truths" "[I") (List.mem_of_getElem? (i := 2) rfl)) (fun _ h9 => h9) rfl dX5_truth_343 ?_
                    refine lv_iload_n hx hb dX5_truth_346 rfl (lv_at hl 3 rfl) ?_
                    refine lv_iload hx hb dX5_truth_347 (lv_at hl 7 rfl) ?_
                    refine lv_topi (fun x_54 hx_54 => ?_)
                    refine xiast (j := (40 * lv) + f) (q0 := 10) (t0 := 0) (ws' := rc cs b (wr u_51 10 ((40 * lv) + f) x_54)) hx hb hK1 hP (rD hI) hS rfl rfl (by omega) (by decide) rs_10 dX5_truth_349 (fun H locs hP hS => ?_)
                    obtain ⟨M_55, hM_55⟩ : ∃ z, z = wr u_51 10 ((40 * lv) + f) x_54 := ⟨_, rfl⟩
                    rw [← hM_55] at hP
                    have hk_56 : M_55 0 1 = nI n := by rw [hM_55]; exact (wr_ne (Or.inl (by omega))).trans hk_52
                    have hk_57 : M_55 0 3 = nI nf := by rw [hM_55]; exact (wr_ne (Or.inl (by omega))).trans hk_53
                    refine lv_aload_n hx hb dX5_truth_350 rfl (lv_at hl 0 rfl) ?_
                    refine va_get (D := D) (ci := 5) (v := .ref (b 9)) (C := RX5) (T := TX5) (N := 15) hx hb hts hinX5 hown hK1 hP 0 rfl rfl 12 (by decide) (hts (.fieldLink RX5 34 "KnowledgeModelModel" "areKnown" "[Z") (List.mem_of_getElem? (i := 1) rfl)) (fun _ h9 => h9) rfl dX5_truth_351 ?_
                    refine lv_iload_n hx hb dX5_truth_354 rfl (lv_at hl 3 rfl) ?_
                    refine lv_iconst (v := (nI 1)) hx hb dX5_truth_355 (by decide) ?_
                    refine xzast (j := (40 * lv) + f) (q0 := 9) (t0 := 3) (ws' := rc cs b (wr M_55 9 ((40 * lv) + f) (nI 1))) hx hb hK1 hP (rD hI) hS rfl rfl (by omega) (by decide) (by decide) rs_9 dX5_truth_356 (fun H locs hP hS => ?_)
                    obtain ⟨M_58, hM_58⟩ : ∃ z, z = wr M_55 9 ((40 * lv) + f) (nI 1) := ⟨_, rfl⟩
                    rw [← hM_58] at hP
                    have hk_59 : M_58 0 1 = nI n := by rw [hM_58]; exact (wr_ne (Or.inl (by omega))).trans hk_56
                    have hk_60 : M_58 0 3 = nI nf := by rw [hM_58]; exact (wr_ne (Or.inl (by omega))).trans hk_57
                    refine lv_iload hx hb dX5_truth_357 (lv_at hl 7 rfl) ?_
                    subst hQ
                    have hrel : TR M0 M n nf kd p1 p2 sb ag lv mo M_58 := by first | exact TR_r hti | (simp only [fo_0, c13, c57, c87, c115, c164, c189, hx_54, hM_55, hM_58]; exact TR_w (TR_r hti) hf hval) | (simp only [fo_0, c13, c57, c87, c115, c164, c189, hx_54, hM_55, hM_58]; exact TR_w hu_51 hf hval) | (simp only [fo_0, c13, c57, c87, c115, c164, c189, hx_54, hM_55, hM_58]; exact TR_w (TR_t hu_51 hu_51) hf hval) | (simp only [fo_0, c13, c57, c87, c115, c164, c189, hx_54, hM_55, hM_58]; exact TR_w (TR_b hu_51 hf40 (by simpa only [fo_0, c13, c57, c87, c115, c164, c189, hx_54, hM_55, hM_58] using hu_51)) hf hval)
                    have hfin : (fo (fun w r => if bt mo w && decide ((reachR M0 n (M0 4 f) w mo &&& mo &&& (semR M0 n kd p1 p2 sb ag mo (p1 f) ^^^ (-1))) = 0) then r ||| sg w else r) (nI 0) j) = semR M0 n kd p1 p2 sb ag mo f := by first | exact hval | rfl
                    exact W.iret hx hb hr (fun t ht hW => ⟨⟨_, M_58, rfl, ⟨hfin, hrel⟩, by rw [← ht] at hP; exact hP⟩, hS.F ht⟩) hS.2.2 dX5_truth_359
                  ·
                    replace c189 : j < n := k_gef c189 (by omega) (by omega)
                    refine lv_iload hx hb dX5_truth_192 (lv_at hl 4 rfl) ?_
                    refine lv_iload hx hb dX5_truth_194 (lv_at hl 9 rfl) ?_
                    refine xcalli (va_runS (As := [.int mo, .int (nI j)]) (rest := []) ⟨hx, hb, hml, hown, hts⟩ (c_X5_has l mo j (by omega)) (va_cwS 2 hts gX5_truth_X5_has rfl rfl rfl (by decide +kernel) ⟨by dsimp only; omega, by dsimp only; omega⟩) xpreN rfl rfl hl.1 rfl (lv_room (Nat.le_of_ble_eq_true rfl)) dX5_truth_196 ⟨Nat.le_of_ble_eq_true rfl, Nat.le_of_ble_eq_true rfl⟩) hS hP (fun H locs hP hS => ?_)
                    refine lv_if_ne (tgt := 205) hx hb dX5_truth_199 (by decide) (fun c199 => ?_) (fun c199 => ?_)
                    ·
                      replace c199 := bI_n0 c199
                      refine lv_aload_n hx hb dX5_truth_205 rfl (lv_at hl 0 rfl) ?_
                      refine va_get (D := D) (ci := 5) (v := .ref (b 3)) (C := RX5) (T := TX5) (N := 15) hx hb hts hinX5 hown hK1 hP 0 rfl rfl 6 (by decide) (hts (.fieldLink RX5 16 "KnowledgeModelModel" "kinds" "[I") (List.mem_of_getElem? (i := 6) rfl)) (fun _ h9 => h9) rfl dX5_truth_206 ?_
                      refine lv_iload_n hx hb dX5_truth_209 rfl (lv_at hl 2 rfl) ?_
                      refine xiald (j := f) (q0 := 3) (t0 := 0) hx hb hK1 hP rfl rfl (by omega) (by decide) dX5_truth_210 ?_
                      refine xtop (y := (nI 4)) (by exact (((Ag8_t hag hu_51) 3 f (by decide)).trans hk3).trans (congrArg nI hkd)) ?_
                      refine lv_iconst (v := (nI 3)) hx hb dX5_truth_211 (by decide) ?_
                      refine lv_icmp_ne (tgt := 231) hx hb dX5_truth_212 (by decide) (fun c212 => ?_) (fun c212 => ?_)
                      ·
                        replace c212 : ¬ 4 = 3 := k_net c212 (by omega) (by omega)
                        refine lv_aload_n hx hb dX5_truth_231 rfl (lv_at hl 0 rfl) ?_
                        refine va_get (D := D) (ci := 5) (v := .ref (b 3)) (C := RX5) (T := TX5) (N := 15) hx hb hts hinX5 hown hK1 hP 0 rfl rfl 6 (by decide) (hts (.fieldLink RX5 16 "KnowledgeModelModel" "kinds" "[I") (List.mem_of_getElem? (i := 6) rfl)) (fun _ h9 => h9) rfl dX5_truth_232 ?_
                        refine lv_iload_n hx hb dX5_truth_235 rfl (lv_at hl 2 rfl) ?_
                        refine xiald (j := f) (q0 := 3) (t0 := 0) hx hb hK1 hP rfl rfl (by omega) (by decide) dX5_truth_236 ?_
                        refine xtop (y := (nI 4)) (by exact (((Ag8_t hag hu_51) 3 f (by decide)).trans hk3).trans (congrArg nI hkd)) ?_
                        refine lv_iconst (v := (nI 4)) hx hb dX5_truth_237 (by decide) ?_
                        refine lv_icmp_ne (tgt := 254) hx hb dX5_truth_238 (by decide) (fun c238 => ?_) (fun c238 => ?_)
                        ·
                          replace c238 : ¬ 4 = 4 := k_net c238 (by omega) (by omega)
                          exfalso; omega
                        ·
                          replace c238 : 4 = 4 := k_nef c238 (by omega) (by omega)
                          refine lv_aload_n hx hb dX5_truth_241 rfl (lv_at hl 0 rfl) ?_
                          refine lv_iload hx hb dX5_truth_242 (lv_at hl 5 rfl) ?_
                          refine lv_iload hx hb dX5_truth_244 (lv_at hl 9 rfl) ?_
                          refine lv_iload hx hb dX5_truth_246 (lv_at hl 4 rfl) ?_
                          refine xcalli (va_runV (As := [.int (M0 4 f), .int (nI j), .int mo]) (rest := []) ⟨hx, hb, hml, hown, hts⟩ (c_X5_reach l D cs b u_51 n (M0 4 f) j mo hk_52 (by omega)) (cwV 3 hts gX5_truth_X5_reach rfl rfl rfl (by decide +kernel) ⟨by dsimp only; omega, by dsimp only; omega⟩) (xpreV hP hK (ci := 5) 0 rfl rfl) rfl rfl hl.1 rfl (lv_room (Nat.le_of_ble_eq_true rfl)) dX5_truth_248 ⟨Nat.le_of_ble_eq_true rfl, Nat.le_of_ble_eq_true rfl⟩) hS hP (fun H locs hP hS => ?_)
                          refine xtop (y := (reachR M0 n (M0 4 f) j mo)) (by exact reachR_c (Ag8_t hag hu_51)) ?_
                          refine lv_goto (tgt := 276) hx hb dX5_truth_251 (by decide) ?_
                          refine lv_istore (lv' := [(10, .int (reachR M0 n (M0 4 f) j mo)), (0, .ref (b 0)), (1, .int (nI lv)), (2, .int (nI f)), (3, .int (nI ((40 * lv) + f))), (4, .int mo), (5, .int (M0 4 f)), (6, .int (nI (p1 f))), (7, .int (fo (fun w r => if bt mo w && decide ((reachR M0 n (M0 4 f) w mo &&& mo &&& (semR M0 n kd p1 p2 sb ag mo (p1 f) ^^^ (-1))) = 0) then r ||| sg w else r) (nI 0) j)), (8, .int (semR M0 n kd p1 p2 sb ag mo (p1 f))), (9, .int (nI j))]) hx hb dX5_truth_276 hl (by decide) rfl (fun ls hl => ?_)
                          refine lv_aload_n hx hb dX5_truth_278 rfl (lv_at hl 1 rfl) ?_
                          refine va_get (D := D) (ci := 5) (v := .ref (b 3)) (C := RX5) (T := TX5) (N := 15) hx hb hts hinX5 hown hK1 hP 0 rfl rfl 6 (by decide) (hts (.fieldLink RX5 16 "KnowledgeModelModel" "kinds" "[I") (List.mem_of_getElem? (i := 6) rfl)) (fun _ h9 => h9) rfl dX5_truth_279 ?_
                          refine lv_iload_n hx hb dX5_truth_282 rfl (lv_at hl 3 rfl) ?_
                          refine xiald (j := f) (q0 := 3) (t0 := 0) hx hb hK1 hP rfl rfl (by omega) (by decide) dX5_truth_283 ?_
                          refine xtop (y := (nI 4)) (by exact (((Ag8_t hag hu_51) 3 f (by decide)).trans hk3).trans (congrArg nI hkd)) ?_
                          refine lv_if_ne (tgt := 302) hx hb dX5_truth_284 (by decide) (fun c284 => ?_) (fun c284 => ?_)
                          ·
                            replace c284 : ¬ 4 = 0 := k0_net c284 (by omega)
                            refine lv_iload hx hb dX5_truth_302 (lv_at hl 0 rfl) ?_
                            refine lv_iload hx hb dX5_truth_304 (lv_at hl 5 rfl) ?_
                            refine lv_iand hx hb dX5_truth_306 ?_
                            refine lv_iload hx hb dX5_truth_307 (lv_at hl 9 rfl) ?_
                            refine lv_iconst (v := (-1 : Int32)) hx hb dX5_truth_309 (by decide) ?_
                            refine lv_ixor hx hb dX5_truth_310 ?_
                            refine lv_iand hx hb dX5_truth_311 ?_
                            refine lv_if_ne (tgt := 319) hx hb dX5_truth_312 (by decide) (fun c312 => ?_) (fun c312 => ?_)
                            ·
                              refine lv_iconst (v := (nI 0)) hx hb dX5_truth_319 (by decide) ?_
                              refine lv_istore (lv' := [(11, .int (nI 0)), (10, .int (reachR M0 n (M0 4 f) j mo)), (0, .ref (b 0)), (1, .int (nI lv)), (2, .int (nI f)), (3, .int (nI ((40 * lv) + f))), (4, .int mo), (5, .int (M0 4 f)), (6, .int (nI (p1 f))), (7, .int (fo (fun w r => if bt mo w && decide ((reachR M0 n (M0 4 f) w mo &&& mo &&& (semR M0 n kd p1 p2 sb ag mo (p1 f) ^^^ (-1))) = 0) then r ||| sg w else r) (nI 0) j)), (8, .int (semR M0 n kd p1 p2 sb ag mo (p1 f))), (9, .int (nI j))]) hx hb dX5_truth_320 hl (by decide) rfl (fun ls hl => ?_)
                              refine lv_iload hx hb dX5_truth_322 (lv_at hl 0 rfl) ?_
                              refine lv_if_eq (tgt := 336) hx hb dX5_truth_324 (by decide) (fun c324 => ?_) (fun c324 => ?_)
                              ·
                                replace c324 : 0 = 0 := k0_eqt c324 (by omega)
                                refine lv_iinc (v := (nI (j + 1))) (lv' := [(9, .int (nI (j + 1))), (11, .int (nI 0)), (10, .int (reachR M0 n (M0 4 f) j mo)), (0, .ref (b 0)), (1, .int (nI lv)), (2, .int (nI f)), (3, .int (nI ((40 * lv) + f))), (4, .int mo), (5, .int (M0 4 f)), (6, .int (nI (p1 f))), (7, .int (fo (fun w r => if bt mo w && decide ((reachR M0 n (M0 4 f) w mo &&& mo &&& (semR M0 n kd p1 p2 sb ag mo (p1 f) ^^^ (-1))) = 0) then r ||| sg w else r) (nI 0) j)), (8, .int (semR M0 n kd p1 p2 sb ag mo (p1 f)))]) hx hb dX5_truth_336 hl (k := 11) rfl (nI_add j 1) (by decide) rfl (fun ls hl => ?_)
                                refine lv_goto (tgt := 183) hx hb dX5_truth_339 (by decide) ?_
                                have e_61 : (fo (fun w r => if bt mo w && decide ((reachR M0 n (M0 4 f) w mo &&& mo &&& (semR M0 n kd p1 p2 sb ag mo (p1 f) ^^^ (-1))) = 0) then r ||| sg w else r) (nI 0) j) = (fo (fun w r => if bt mo w && decide ((reachR M0 n (M0 4 f) w mo &&& mo &&& (semR M0 n kd p1 p2 sb ag mo (p1 f) ^^^ (-1))) = 0) then r ||| sg w else r) (nI 0) (j + 1)) := by first | (rw [fo_s, if_neg (by rw [c199]; exact Bool.false_ne_true)]; done) | (rw [fo_s, if_pos (by rw [c199, decide_eq_true c312]; rfl)]; assumption) | (rw [fo_s, if_neg (by rw [c199, decide_eq_false c312]; exact Bool.false_ne_true)]; done)
                                exact cut183 (j + 1) (by omega) (by omega) _ _ hP hS ls (lcons (lcons (lcons (lcons (lcons (lcons (lcons (lcons (lcons (lcons (lzero hl) hl 0 rfl rfl) hl 11 rfl rfl) hl 10 rfl (congrArg Value.int e_61)) hl 9 rfl rfl) hl 8 rfl rfl) hl 7 rfl rfl) hl 6 rfl rfl) hl 5 rfl rfl) hl 4 rfl rfl) hl 3 rfl rfl)
                              ·
                                replace c324 : ¬ 0 = 0 := k0_eqf c324 (by omega)
                                exfalso; omega
                            ·
                              refine lv_iconst (v := (nI 1)) hx hb dX5_truth_315 (by decide) ?_
                              refine lv_goto (tgt := 320) hx hb dX5_truth_316 (by decide) ?_
                              refine lv_istore (lv' := [(11, .int (nI 1)), (10, .int (reachR M0 n (M0 4 f) j mo)), (0, .ref (b 0)), (1, .int (nI lv)), (2, .int (nI f)), (3, .int (nI ((40 * lv) + f))), (4, .int mo), (5, .int (M0 4 f)), (6, .int (nI (p1 f))), (7, .int (fo (fun w r => if bt mo w && decide ((reachR M0 n (M0 4 f) w mo &&& mo &&& (semR M0 n kd p1 p2 sb ag mo (p1 f) ^^^ (-1))) = 0) then r ||| sg w else r) (nI 0) j)), (8, .int (semR M0 n kd p1 p2 sb ag mo (p1 f))), (9, .int (nI j))]) hx hb dX5_truth_320 hl (by decide) rfl (fun ls hl => ?_)
                              refine lv_iload hx hb dX5_truth_322 (lv_at hl 0 rfl) ?_
                              refine lv_if_eq (tgt := 336) hx hb dX5_truth_324 (by decide) (fun c324 => ?_) (fun c324 => ?_)
                              ·
                                replace c324 : 1 = 0 := k0_eqt c324 (by omega)
                                exfalso; omega
                              ·
                                replace c324 : ¬ 1 = 0 := k0_eqf c324 (by omega)
                                refine lv_iload hx hb dX5_truth_327 (lv_at hl 9 rfl) ?_
                                refine lv_iconst (v := (nI 1)) hx hb dX5_truth_329 (by decide) ?_
                                refine lv_iload hx hb dX5_truth_330 (lv_at hl 11 rfl) ?_
                                refine lv_ishl hx hb dX5_truth_332 ?_
                                refine lv_ior hx hb dX5_truth_333 ?_
                                refine lv_topi (fun x_62 hx_62 => ?_)
                                refine lv_istore (lv' := [(7, .int x_62), (11, .int (nI 1)), (10, .int (reachR M0 n (M0 4 f) j mo)), (0, .ref (b 0)), (1, .int (nI lv)), (2, .int (nI f)), (3, .int (nI ((40 * lv) + f))), (4, .int mo), (5, .int (M0 4 f)), (6, .int (nI (p1 f))), (8, .int (semR M0 n kd p1 p2 sb ag mo (p1 f))), (9, .int (nI j))]) hx hb dX5_truth_334 hl (by decide) rfl (fun ls hl => ?_)
                                refine lv_iinc (v := (nI (j + 1))) (lv' := [(9, .int (nI (j + 1))), (7, .int x_62), (11, .int (nI 1)), (10, .int (reachR M0 n (M0 4 f) j mo)), (0, .ref (b 0)), (1, .int (nI lv)), (2, .int (nI f)), (3, .int (nI ((40 * lv) + f))), (4, .int mo), (5, .int (M0 4 f)), (6, .int (nI (p1 f))), (8, .int (semR M0 n kd p1 p2 sb ag mo (p1 f)))]) hx hb dX5_truth_336 hl (k := 11) rfl (nI_add j 1) (by decide) rfl (fun ls hl => ?_)
                                refine lv_goto (tgt := 183) hx hb dX5_truth_339 (by decide) ?_
                                have e_63 : x_62 = (fo (fun w r => if bt mo w && decide ((reachR M0 n (M0 4 f) w mo &&& mo &&& (semR M0 n kd p1 p2 sb ag mo (p1 f) ^^^ (-1))) = 0) then r ||| sg w else r) (nI 0) (j + 1)) := by first | (rw [fo_s, if_neg (by rw [c199]; exact Bool.false_ne_true)]; done) | (rw [fo_s, if_pos (by rw [c199, decide_eq_true c312]; rfl)]; assumption) | (rw [fo_s, if_neg (by rw [c199, decide_eq_false c312]; exact Bool.false_ne_true)]; done)
                                exact cut183 (j + 1) (by omega) (by omega) _ _ hP hS ls (lcons (lcons (lcons (lcons (lcons (lcons (lcons (lcons (lcons (lcons (lzero hl) hl 0 rfl rfl) hl 11 rfl rfl) hl 1 rfl (congrArg Value.int e_63)) hl 10 rfl rfl) hl 9 rfl rfl) hl 8 rfl rfl) hl 7 rfl rfl) hl 6 rfl rfl) hl 5 rfl rfl) hl 4 rfl rfl)
                          ·
                            replace c284 : 4 = 0 := k0_nef c284 (by omega)
                            exfalso; omega
                      ·
                        replace c212 : 4 = 3 := k_nef c212 (by omega) (by omega)
                        exfalso; omega
                    ·
                      replace c199 := bI_0 c199
                      refine lv_goto (tgt := 336) hx hb dX5_truth_202 (by decide) ?_
                      refine lv_iinc (v := (nI (j + 1))) (lv' := [(9, .int (nI (j + 1))), (0, .ref (b 0)), (1, .int (nI lv)), (2, .int (nI f)), (3, .int (nI ((40 * lv) + f))), (4, .int mo), (5, .int (M0 4 f)), (6, .int (nI (p1 f))), (7, .int (fo (fun w r => if bt mo w && decide ((reachR M0 n (M0 4 f) w mo &&& mo &&& (semR M0 n kd p1 p2 sb ag mo (p1 f) ^^^ (-1))) = 0) then r ||| sg w else r) (nI 0) j)), (8, .int (semR M0 n kd p1 p2 sb ag mo (p1 f)))]) hx hb dX5_truth_336 hl (k := 9) rfl (nI_add j 1) (by decide) rfl (fun ls hl => ?_)
                      refine lv_goto (tgt := 183) hx hb dX5_truth_339 (by decide) ?_
                      have e_64 : (fo (fun w r => if bt mo w && decide ((reachR M0 n (M0 4 f) w mo &&& mo &&& (semR M0 n kd p1 p2 sb ag mo (p1 f) ^^^ (-1))) = 0) then r ||| sg w else r) (nI 0) j) = (fo (fun w r => if bt mo w && decide ((reachR M0 n (M0 4 f) w mo &&& mo &&& (semR M0 n kd p1 p2 sb ag mo (p1 f) ^^^ (-1))) = 0) then r ||| sg w else r) (nI 0) (j + 1)) := by first | (rw [fo_s, if_neg (by rw [c199]; exact Bool.false_ne_true)]; done) | (rw [fo_s, if_pos (by rw [c199, decide_eq_true c312]; rfl)]; assumption) | (rw [fo_s, if_neg (by rw [c199, decide_eq_false c312]; exact Bool.false_ne_true)]; done)
                      exact cut183 (j + 1) (by omega) (by omega) _ _ hP hS ls (lcons (lcons (lcons (lcons (lcons (lcons (lcons (lcons (lcons (lcons (lzero hl) hl 0 rfl rfl) hl 9 rfl rfl) hl 8 rfl (congrArg Value.int e_64)) hl 7 rfl rfl) hl 6 rfl rfl) hl 5 rfl rfl) hl 4 rfl rfl) hl 3 rfl rfl) hl 2 rfl rfl) hl 1 rfl rfl)
              have e_65 : (nI 0) = (fo (fun w r => if bt mo w && decide ((reachR M0 n (M0 4 f) w mo &&& mo &&& (semR M0 n kd p1 p2 sb ag mo (p1 f) ^^^ (-1))) = 0) then r ||| sg w else r) (nI 0) 0) := by rfl
              exact cut183 (n + 1) 0 (by omega) (by omega) _ _ hP hS ls (lcons (lcons (lcons (lcons (lcons (lcons (lcons (lcons (lcons (lcons (lzero hl) hl 0 rfl rfl) hl 1 rfl rfl) hl 2 rfl (congrArg Value.int e_65)) hl 3 rfl rfl) hl 4 rfl rfl) hl 5 rfl rfl) hl 6 rfl rfl) hl 9 rfl rfl) hl 8 rfl rfl) hl 7 rfl rfl)
            ·
              replace c164 : 4 = 0 := k0_nef c164 (by omega)
              exfalso; omega
          ·
            replace c115 : 4 = 6 := k_nef c115 (by omega) (by omega)
            exfalso; omega
        ·
          replace c87 : 4 = 1 := k_nef c87 (by omega) (by omega)
          exfalso; omega
      ·
        replace c57 : 4 = 2 := k_nef c57 (by omega) (by omega)
        exfalso; omega
    ·
      refine lv_aload_n hx hb dX5_truth_16 rfl (lv_at hl 1 rfl) ?_
      refine va_get (D := D) (ci := 5) (v := .ref (b 10)) (C := RX5) (T := TX5) (N := 15) hx hb hts hinX5 hown hK1 hP 0 rfl rfl 13 (by decide) (hts (.fieldLink RX5 38 "KnowledgeModelModel" "truths" "[I") (List.mem_of_getElem? (i := 2) rfl)) (fun _ h9 => h9) rfl dX5_truth_17 ?_
      refine lv_iload_n hx hb dX5_truth_20 rfl (lv_at hl 0 rfl) ?_
      refine xiald (j := (40 * lv) + f) (q0 := 10) (t0 := 0) hx hb hK1 hP rfl rfl (by omega) (by decide) dX5_truth_21 ?_
      refine xtop (y := (semR M0 n kd p1 p2 sb ag mo f)) (by exact ((hti.2 f hf).resolve_left c13).2) ?_
      subst hQ
      have hrel : TR M0 M n nf kd p1 p2 sb ag lv mo M := by first | exact TR_r hti | (simp only [fo_0, c13]; exact TR_w (TR_r hti) hf hval) | (simp only [fo_0, c13]; exact TR_w trivial hf hval) | (simp only [fo_0, c13]; exact TR_w (TR_t trivial trivial) hf hval) | (simp only [fo_0, c13]; exact TR_w (TR_b trivial hf40 (by simpa only [fo_0, c13] using trivial)) hf hval)
      have hfin : (semR M0 n kd p1 p2 sb ag mo f) = semR M0 n kd p1 p2 sb ag mo f := by first | exact hval | rfl
      exact W.iret hx hb hr (fun t ht hW => ⟨⟨_, M, rfl, ⟨hfin, hrel⟩, by rw [← ht] at hP; exact hP⟩, hS.F ht⟩) hS.2.2 dX5_truth_22
  ·
    have hq1 := hL.1 (by omega)
    have hz1 := hE1 (by omega)
    have hB1 := hB (by omega)
    refine lv_bipush (v := (nI 40)) hx hb dX5_truth_0 (by decide) ?_
    refine lv_iload_n hx hb dX5_truth_2 rfl (lv_at hl 1 rfl) ?_
    refine ximul hx hb dX5_truth_3 ?_
    refine lv_iload_n hx hb dX5_truth_4 rfl (lv_at hl 2 rfl) ?_
    refine xiadd hx hb dX5_truth_5 ?_
    refine lv_istore_n (lv' := [(3, .int (nI ((40 * lv) + f))), (0, .ref (b 0)), (1, .int (nI lv)), (2, .int (nI f))]) hx hb dX5_truth_6 rfl hl (by decide) rfl (fun ls hl => ?_)
    refine lv_aload_n hx hb dX5_truth_7 rfl (lv_at hl 1 rfl) ?_
    refine va_get (D := D) (ci := 5) (v := .ref (b 9)) (C := RX5) (T := TX5) (N := 15) hx hb hts hinX5 hown hK1 hP 0 rfl rfl 12 (by decide) (hts (.fieldLink RX5 34 "KnowledgeModelModel" "areKnown" "[Z") (List.mem_of_getElem? (i := 1) rfl)) (fun _ h9 => h9) rfl dX5_truth_8 ?_
    refine lv_iload_n hx hb dX5_truth_11 rfl (lv_at hl 0 rfl) ?_
    refine xzald (j := (40 * lv) + f) (q0 := 9) (t0 := 3) hx hb hK1 hP rfl rfl (by omega) (by decide) dX5_truth_12 ?_
    refine lv_if_eq (tgt := 23) hx hb dX5_truth_13 (by decide) (fun c13 => ?_) (fun c13 => ?_)
    ·
      refine lv_aload_n hx hb dX5_truth_23 rfl (lv_at hl 1 rfl) ?_
      refine va_get (D := D) (ci := 5) (v := .ref (b 8)) (C := RX5) (T := TX5) (N := 15) hx hb hts hinX5 hown hK1 hP 0 rfl rfl 11 (by decide) (hts (.fieldLink RX5 31 "KnowledgeModelModel" "lefts" "[I") (List.mem_of_getElem? (i := 3) rfl)) (fun _ h9 => h9) rfl dX5_truth_24 ?_
      refine lv_iload_n hx hb dX5_truth_27 rfl (lv_at hl 2 rfl) ?_
      refine xiald (j := lv) (q0 := 8) (t0 := 0) hx hb hK1 hP rfl rfl (by omega) (by decide) dX5_truth_28 ?_
      refine xtop (y := mo) (by exact hti.1) ?_
      refine lv_istore (lv' := [(4, .int mo), (3, .int (nI ((40 * lv) + f))), (0, .ref (b 0)), (1, .int (nI lv)), (2, .int (nI f))]) hx hb dX5_truth_29 hl (by decide) rfl (fun ls hl => ?_)
      refine lv_aload_n hx hb dX5_truth_31 rfl (lv_at hl 2 rfl) ?_
      refine va_get (D := D) (ci := 5) (v := .ref (b 4)) (C := RX5) (T := TX5) (N := 15) hx hb hts hinX5 hown hK1 hP 0 rfl rfl 7 (by decide) (hts (.fieldLink RX5 19 "KnowledgeModelModel" "firsts" "[I") (List.mem_of_getElem? (i := 4) rfl)) (fun _ h9 => h9) rfl dX5_truth_32 ?_
      refine lv_iload_n hx hb dX5_truth_35 rfl (lv_at hl 4 rfl) ?_
      refine xiald (j := f) (q0 := 4) (t0 := 0) hx hb hK1 hP rfl rfl (by omega) (by decide) dX5_truth_36 ?_
      refine xtop (y := (M0 4 f)) (by exact hag 4 f (by decide)) ?_
      refine lv_istore (lv' := [(5, .int (M0 4 f)), (4, .int mo), (3, .int (nI ((40 * lv) + f))), (0, .ref (b 0)), (1, .int (nI lv)), (2, .int (nI f))]) hx hb dX5_truth_37 hl (by decide) rfl (fun ls hl => ?_)
      refine lv_aload_n hx hb dX5_truth_39 rfl (lv_at hl 3 rfl) ?_
      refine va_get (D := D) (ci := 5) (v := .ref (b 5)) (C := RX5) (T := TX5) (N := 15) hx hb hts hinX5 hown hK1 hP 0 rfl rfl 8 (by decide) (hts (.fieldLink RX5 22 "KnowledgeModelModel" "seconds" "[I") (List.mem_of_getElem? (i := 5) rfl)) (fun _ h9 => h9) rfl dX5_truth_40 ?_
      refine lv_iload_n hx hb dX5_truth_43 rfl (lv_at hl 5 rfl) ?_
      refine xiald (j := f) (q0 := 5) (t0 := 0) hx hb hK1 hP rfl rfl (by omega) (by decide) dX5_truth_44 ?_
      refine xtop (y := (nI (p1 f))) (by exact (hag 5 f (by decide)).trans hB1) ?_
      refine lv_istore (lv' := [(6, .int (nI (p1 f))), (5, .int (M0 4 f)), (4, .int mo), (3, .int (nI ((40 * lv) + f))), (0, .ref (b 0)), (1, .int (nI lv)), (2, .int (nI f))]) hx hb dX5_truth_45 hl (by decide) rfl (fun ls hl => ?_)
      refine lv_iconst (v := (nI 0)) hx hb dX5_truth_47 (by decide) ?_
      refine lv_istore (lv' := [(7, .int (nI 0)), (6, .int (nI (p1 f))), (5, .int (M0 4 f)), (4, .int mo), (3, .int (nI ((40 * lv) + f))), (0, .ref (b 0)), (1, .int (nI lv)), (2, .int (nI f))]) hx hb dX5_truth_48 hl (by decide) rfl (fun ls hl => ?_)
      refine lv_aload_n hx hb dX5_truth_50 rfl (lv_at hl 5 rfl) ?_
      refine va_get (D := D) (ci := 5) (v := .ref (b 3)) (C := RX5) (T := TX5) (N := 15) hx hb hts hinX5 hown hK1 hP 0 rfl rfl 6 (by decide) (hts (.fieldLink RX5 16 "KnowledgeModelModel" "kinds" "[I") (List.mem_of_getElem? (i := 6) rfl)) (fun _ h9 => h9) rfl dX5_truth_51 ?_
      refine lv_iload_n hx hb dX5_truth_54 rfl (lv_at hl 7 rfl) ?_
      refine xiald (j := f) (q0 := 3) (t0 := 0) hx hb hK1 hP rfl rfl (by omega) (by decide) dX5_truth_55 ?_
      refine xtop (y := (nI 5)) (by exact ((hag 3 f (by decide)).trans hk3).trans (congrArg nI hkd)) ?_
      refine lv_iconst (v := (nI 2)) hx hb dX5_truth_56 (by decide) ?_
      refine lv_icmp_ne (tgt := 80) hx hb dX5_truth_57 (by decide) (fun c57 => ?_) (fun c57 => ?_)
      ·
        replace c57 : ¬ 5 = 2 := k_net c57 (by omega) (by omega)
        refine lv_aload_n hx hb dX5_truth_80 rfl (lv_at hl 5 rfl) ?_
        refine va_get (D := D) (ci := 5) (v := .ref (b 3)) (C := RX5) (T := TX5) (N := 15) hx hb hts hinX5 hown hK1 hP 0 rfl rfl 6 (by decide) (hts (.fieldLink RX5 16 "KnowledgeModelModel" "kinds" "[I") (List.mem_of_getElem? (i := 6) rfl)) (fun _ h9 => h9) rfl dX5_truth_81 ?_
        refine lv_iload_n hx hb dX5_truth_84 rfl (lv_at hl 7 rfl) ?_
        refine xiald (j := f) (q0 := 3) (t0 := 0) hx hb hK1 hP rfl rfl (by omega) (by decide) dX5_truth_85 ?_
        refine xtop (y := (nI 5)) (by exact ((hag 3 f (by decide)).trans hk3).trans (congrArg nI hkd)) ?_
        refine lv_iconst (v := (nI 1)) hx hb dX5_truth_86 (by decide) ?_
        refine lv_icmp_ne (tgt := 107) hx hb dX5_truth_87 (by decide) (fun c87 => ?_) (fun c87 => ?_)
        ·
          replace c87 : ¬ 5 = 1 := k_net c87 (by omega) (by omega)
          refine lv_aload_n hx hb dX5_truth_107 rfl (lv_at hl 5 rfl) ?_
          refine va_get (D := D) (ci := 5) (v := .ref (b 3)) (C := RX5) (T := TX5) (N := 15) hx hb hts hinX5 hown hK1 hP 0 rfl rfl 6 (by decide) (hts (.fieldLink RX5 16 "KnowledgeModelModel" "kinds" "[I") (List.mem_of_getElem? (i := 6) rfl)) (fun _ h9 => h9) rfl dX5_truth_108 ?_
          refine lv_iload_n hx hb dX5_truth_111 rfl (lv_at hl 7 rfl) ?_
          refine xiald (j := f) (q0 := 3) (t0 := 0) hx hb hK1 hP rfl rfl (by omega) (by decide) dX5_truth_112 ?_
          refine xtop (y := (nI 5)) (by exact ((hag 3 f (by decide)).trans hk3).trans (congrArg nI hkd)) ?_
          refine lv_bipush (v := (nI 6)) hx hb dX5_truth_113 (by decide) ?_
          refine lv_icmp_ne (tgt := 158) hx hb dX5_truth_115 (by decide) (fun c115 => ?_) (fun c115 => ?_)
          ·
            replace c115 : ¬ 5 = 6 := k_net c115 (by omega) (by omega)
            refine lv_aload_n hx hb dX5_truth_158 rfl (lv_at hl 5 rfl) ?_
            refine va_get (D := D) (ci := 5) (v := .ref (b 3)) (C := RX5) (T := TX5) (N := 15) hx hb hts hinX5 hown hK1 hP 0 rfl rfl 6 (by decide) (hts (.fieldLink RX5 16 "KnowledgeModelModel" "kinds" "[I") (List.mem_of_getElem? (i := 6) rfl)) (fun _ h9 => h9) rfl dX5_truth_159 ?_
            refine lv_iload_n hx hb dX5_truth_162 rfl (lv_at hl 7 rfl) ?_
            refine xiald (j := f) (q0 := 3) (t0 := 0) hx hb hK1 hP rfl rfl (by omega) (by decide) dX5_truth_163 ?_
            refine xtop (y := (nI 5)) (by exact ((hag 3 f (by decide)).trans hk3).trans (congrArg nI hkd)) ?_
            refine lv_if_ne (tgt := 171) hx hb dX5_truth_164 (by decide) (fun c164 => ?_) (fun c164 => ?_)
            ·
              replace c164 : ¬ 5 = 0 := k0_net c164 (by omega)
              refine lv_aload_n hx hb dX5_truth_171 rfl (lv_at hl 5 rfl) ?_
              refine lv_iload_n hx hb dX5_truth_172 rfl (lv_at hl 6 rfl) ?_
              refine lv_iload hx hb dX5_truth_173 (lv_at hl 1 rfl) ?_
              refine xcallwi (va_runV (As := [.int (nI lv), .int (nI (p1 f))]) (rest := []) ⟨hx, hb, hml, hown, hts⟩ (ih (p1 f) (by omega) M _ lv mo hag hlv (by omega) (by omega) hti) (cwV 2 hts gX5_truth_X5_truth rfl rfl rfl (by decide +kernel) ⟨by dsimp only; omega, by dsimp only; omega⟩) (xpreVs hP hK (ci := 5) 0 rfl rfl) rfl rfl hl.1 rfl (lv_room (Nat.le_of_ble_eq_true rfl)) dX5_truth_175 ⟨Nat.le_of_ble_eq_true rfl, Nat.le_of_ble_eq_true rfl⟩) hS (kAle hS.1) (fun u_66 H locs hu_66 hP _ _ hS => ?_)
              have hP : va_P D vwCl (rc cs b u_66) H := hP
              have hk_67 : u_66 0 1 = nI n := by rw [hu_66.1 0 1 (by decide)]; exact hn
              have hk_68 : u_66 0 3 = nI nf := by rw [hu_66.1 0 3 (by decide)]; exact hfc
              refine lv_istore (lv' := [(8, .int (semR M0 n kd p1 p2 sb ag mo (p1 f))), (7, .int (nI 0)), (6, .int (nI (p1 f))), (5, .int (M0 4 f)), (4, .int mo), (3, .int (nI ((40 * lv) + f))), (0, .ref (b 0)), (1, .int (nI lv)), (2, .int (nI f))]) hx hb dX5_truth_178 hl (by decide) rfl (fun ls hl => ?_)
              refine lv_iconst (v := (nI 0)) hx hb dX5_truth_180 (by decide) ?_
              refine lv_istore (lv' := [(9, .int (nI 0)), (8, .int (semR M0 n kd p1 p2 sb ag mo (p1 f))), (7, .int (nI 0)), (6, .int (nI (p1 f))), (5, .int (M0 4 f)), (4, .int mo), (3, .int (nI ((40 * lv) + f))), (0, .ref (b 0)), (1, .int (nI lv)), (2, .int (nI f))]) hx hb dX5_truth_181 hl (by decide) rfl (fun ls hl => ?_)
              have cut183 : ∀ (f183 : Nat) (j : Nat) (hj : j ≤ n), n + 1 ≤ j + f183 → ∀ (H : Heap) (locs : List Loc), va_P D vwCl (rc cs b u_66) H → va_S (kA b 12 s.heap.size) s.heap H locs → ∀ (ls : Array Slot), lv_has ls 12 [(0, .ref (b 0)), (1, .int (nI lv)), (2, .int (nI f)), (3, .int (nI ((40 * lv) + f))), (4, .int mo), (5, .int (M0 4 f)), (6, .int (nI (p1 f))), (7, .int (fo (fun w r => if bt mo w && decide ((everyR M0 n (M0 4 f) w &&& mo &&& (semR M0 n kd p1 p2 sb ag mo (p1 f) ^^^ (-1))) = 0) then r ||| sg w else r) (nI 0) j)), (8, .int (semR M0 n kd p1 p2 sb ag mo (p1 f))), (9, .int (nI j))] → W p l e ({ frames := 106 + f, cells := 0, slots := 0, locals := 3100 + 31 * f } : Room) s m ([.ref (b 0), .int (nI lv), .int (nI f)] : List Value).toArray below meth c H locs 0 0 Q (F0 m 183 ls []) := by
                intro f183
                induction f183 with
                | zero => intro j hj hfu183; exact absurd hfu183 (by omega)
                | succ f183 cut183 =>
                  intro j hj hfu183 H locs hP hS ls hl
                  refine lv_iload hx hb dX5_truth_183 (lv_at hl 9 rfl) ?_
                  refine lv_aload_n hx hb dX5_truth_185 rfl (lv_at hl 0 rfl) ?_
                  refine va_get (D := D) (ci := 5) (v := .int (u_66 0 1)) (C := RX5) (T := TX5) (N := 15) hx hb hts hinX5 hown hK1 hP 0 rfl rfl 1 (by decide) (hts (.fieldLink RX5 48 "KnowledgeModelModel" "worlds" "I") (List.mem_of_getElem? (i := 7) rfl)) (fun _ h9 => h9) rfl dX5_truth_186 ?_
                  refine xtop (y := nI n) (hk_67) ?_
                  refine lv_icmp_ge (tgt := 342) hx hb dX5_truth_189 (by decide) (fun c189 => ?_) (fun c189 => ?_)
                  ·
                    replace c189 : n ≤ j := k_get c189 (by omega) (by omega)
                    have hje : j = n := by omega
                    have hval : (fo (fun w r => if bt mo w && decide ((everyR M0 n (M0 4 f) w &&& mo &&& (semR M0 n kd p1 p2 sb ag mo (p1 f) ^^^ (-1))) = 0) then r ||| sg w else r) (nI 0) j) = semR M0 n kd p1 p2 sb ag mo f := by rw [semR_eq hwp hf]; simp only [askR, hkd, if_true, if_false, show (1 : Nat) ≠ 0 by decide, show (2 : Nat) ≠ 0 by decide, show (2 : Nat) ≠ 1 by decide, show (3 : Nat) ≠ 0 by decide, show (3 : Nat) ≠ 1 by decide, show (3 : Nat) ≠ 2 by decide, show (3 : Nat) ≠ 6 by decide, show (4 : Nat) ≠ 0 by decide, show (4 : Nat) ≠ 1 by decide, show (4 : Nat) ≠ 2 by decide, show (4 : Nat) ≠ 3 by decide, show (4 : Nat) ≠ 6 by decide, show (5 : Nat) ≠ 0 by decide, show (5 : Nat) ≠ 1 by decide, show (5 : Nat) ≠ 2 by decide, show (5 : Nat) ≠ 3 by decide, show (5 : Nat) ≠ 4 by decide, show (5 : Nat) ≠ 6 by decide, show (6 : Nat) ≠ 0 by decide, show (6 : Nat) ≠ 1 by decide, show (6 : Nat) ≠ 2 by decide, hje]
                    refine lv_aload_n hx hb dX5_truth_342 rfl (lv_at hl 0 rfl) ?_
                    refine va_get (D := D) (ci := 5) (v := .ref (b 10)) (C := RX5) (T := TX5) (N := 15) hx hb hts hinX5 hown hK1 hP 0 rfl rfl 13 (by decide) (hts (.fieldLink RX5 38 "KnowledgeModelModel" "truths" "[I") (List.mem_of_getElem? (i := 2) rfl)) (fun _ h9 => h9) rfl dX5_truth_343 ?_
                    refine lv_iload_n hx hb dX5_truth_346 rfl (lv_at hl 3 rfl) ?_
                    refine lv_iload hx hb dX5_truth_347 (lv_at hl 7 rfl) ?_
                    refine lv_topi (fun x_69 hx_69 => ?_)
                    refine xiast (j := (40 * lv) + f) (q0 := 10) (t0 := 0) (ws' := rc cs b (wr u_66 10 ((40 * lv) + f) x_69)) hx hb hK1 hP (rD hI) hS rfl rfl (by omega) (by decide) rs_10 dX5_truth_349 (fun H locs hP hS => ?_)
                    obtain ⟨M_70, hM_70⟩ : ∃ z, z = wr u_66 10 ((40 * lv) + f) x_69 := ⟨_, rfl⟩
                    rw [← hM_70] at hP
                    have hk_71 : M_70 0 1 = nI n := by rw [hM_70]; exact (wr_ne (Or.inl (by omega))).trans hk_67
                    have hk_72 : M_70 0 3 = nI nf := by rw [hM_70]; exact (wr_ne (Or.inl (by omega))).trans hk_68
                    refine lv_aload_n hx hb dX5_truth_350 rfl (lv_at hl 0 rfl) ?_
                    refine va_get (D := D) (ci := 5) (v := .ref (b 9)) (C := RX5) (T := TX5) (N := 15) hx hb hts hinX5 hown hK1 hP 0 rfl rfl 12 (by decide) (hts (.fieldLink RX5 34 "KnowledgeModelModel" "areKnown" "[Z") (List.mem_of_getElem? (i := 1) rfl)) (fun _ h9 => h9) rfl dX5_truth_351 ?_
                    refine lv_iload_n hx hb dX5_truth_354 rfl (lv_at hl 3 rfl) ?_
                    refine lv_iconst (v := (nI 1)) hx hb dX5_truth_355 (by decide) ?_
                    refine xzast (j := (40 * lv) + f) (q0 := 9) (t0 := 3) (ws' := rc cs b (wr M_70 9 ((40 * lv) + f) (nI 1))) hx hb hK1 hP (rD hI) hS rfl rfl (by omega) (by decide) (by decide) rs_9 dX5_truth_356 (fun H locs hP hS => ?_)
                    obtain ⟨M_73, hM_73⟩ : ∃ z, z = wr M_70 9 ((40 * lv) + f) (nI 1) := ⟨_, rfl⟩
                    rw [← hM_73] at hP
                    have hk_74 : M_73 0 1 = nI n := by rw [hM_73]; exact (wr_ne (Or.inl (by omega))).trans hk_71
                    have hk_75 : M_73 0 3 = nI nf := by rw [hM_73]; exact (wr_ne (Or.inl (by omega))).trans hk_72
                    refine lv_iload hx hb dX5_truth_357 (lv_at hl 7 rfl) ?_
                    subst hQ
                    have hrel : TR M0 M n nf kd p1 p2 sb ag lv mo M_73 := by first | exact TR_r hti | (simp only [fo_0, c13, c57, c87, c115, c164, c189, hx_69, hM_70, hM_73]; exact TR_w (TR_r hti) hf hval) | (simp only [fo_0, c13, c57, c87, c115, c164, c189, hx_69, hM_70, hM_73]; exact TR_w hu_66 hf hval) | (simp only [fo_0, c13, c57, c87, c115, c164, c189, hx_69, hM_70, hM_73]; exact TR_w (TR_t hu_66 hu_66) hf hval) | (simp only [fo_0, c13, c57, c87, c115, c164, c189, hx_69, hM_70, hM_73]; exact TR_w (TR_b hu_66 hf40 (by simpa only [fo_0, c13, c57, c87, c115, c164, c189, hx_69, hM_70, hM_73] using hu_66)) hf hval)
                    have hfin : (fo (fun w r => if bt mo w && decide ((everyR M0 n (M0 4 f) w &&& mo &&& (semR M0 n kd p1 p2 sb ag mo (p1 f) ^^^ (-1))) = 0) then r ||| sg w else r) (nI 0) j) = semR M0 n kd p1 p2 sb ag mo f := by first | exact hval | rfl
                    exact W.iret hx hb hr (fun t ht hW => ⟨⟨_, M_73, rfl, ⟨hfin, hrel⟩, by rw [← ht] at hP; exact hP⟩, hS.F ht⟩) hS.2.2 dX5_truth_359
                  ·
                    replace c189 : j < n := k_gef c189 (by omega) (by omega)
                    refine lv_iload hx hb dX5_truth_192 (lv_at hl 4 rfl) ?_
                    refine lv_iload hx hb dX5_truth_194 (lv_at hl 9 rfl) ?_
                    refine xcalli (va_runS (As := [.int mo, .int (nI j)]) (rest := []) ⟨hx, hb, hml, hown, hts⟩ (c_X5_has l mo j (by omega)) (va_cwS 2 hts gX5_truth_X5_has rfl rfl rfl (by decide +kernel) ⟨by dsimp only; omega, by dsimp only; omega⟩) xpreN rfl rfl hl.1 rfl (lv_room (Nat.le_of_ble_eq_true rfl)) dX5_truth_196 ⟨Nat.le_of_ble_eq_true rfl, Nat.le_of_ble_eq_true rfl⟩) hS hP (fun H locs hP hS => ?_)
                    refine lv_if_ne (tgt := 205) hx hb dX5_truth_199 (by decide) (fun c199 => ?_) (fun c199 => ?_)
                    ·
                      replace c199 := bI_n0 c199
                      refine lv_aload_n hx hb dX5_truth_205 rfl (lv_at hl 0 rfl) ?_
                      refine va_get (D := D) (ci := 5) (v := .ref (b 3)) (C := RX5) (T := TX5) (N := 15) hx hb hts hinX5 hown hK1 hP 0 rfl rfl 6 (by decide) (hts (.fieldLink RX5 16 "KnowledgeModelModel" "kinds" "[I") (List.mem_of_getElem? (i := 6) rfl)) (fun _ h9 => h9) rfl dX5_truth_206 ?_
                      refine lv_iload_n hx hb dX5_truth_209 rfl (lv_at hl 2 rfl) ?_
                      refine xiald (j := f) (q0 := 3) (t0 := 0) hx hb hK1 hP rfl rfl (by omega) (by decide) dX5_truth_210 ?_
                      refine xtop (y := (nI 5)) (by exact (((Ag8_t hag hu_66) 3 f (by decide)).trans hk3).trans (congrArg nI hkd)) ?_
                      refine lv_iconst (v := (nI 3)) hx hb dX5_truth_211 (by decide) ?_
                      refine lv_icmp_ne (tgt := 231) hx hb dX5_truth_212 (by decide) (fun c212 => ?_) (fun c212 => ?_)
                      ·
                        replace c212 : ¬ 5 = 3 := k_net c212 (by omega) (by omega)
                        refine lv_aload_n hx hb dX5_truth_231 rfl (lv_at hl 0 rfl) ?_
                        refine va_get (D := D) (ci := 5) (v := .ref (b 3)) (C := RX5) (T := TX5) (N := 15) hx hb hts hinX5 hown hK1 hP 0 rfl rfl 6 (by decide) (hts (.fieldLink RX5 16 "KnowledgeModelModel" "kinds" "[I") (List.mem_of_getElem? (i := 6) rfl)) (fun _ h9 => h9) rfl dX5_truth_232 ?_
                        refine lv_iload_n hx hb dX5_truth_235 rfl (lv_at hl 2 rfl) ?_
                        refine xiald (j := f) (q0 := 3) (t0 := 0) hx hb hK1 hP rfl rfl (by omega) (by decide) dX5_truth_236 ?_
                        refine xtop (y := (nI 5)) (by exact (((Ag8_t hag hu_66) 3 f (by decide)).trans hk3).trans (congrArg nI hkd)) ?_
                        refine lv_iconst (v := (nI 4)) hx hb dX5_truth_237 (by decide) ?_
                        refine lv_icmp_ne (tgt := 254) hx hb dX5_truth_238 (by decide) (fun c238 => ?_) (fun c238 => ?_)
                        ·
                          replace c238 : ¬ 5 = 4 := k_net c238 (by omega) (by omega)
                          refine lv_aload_n hx hb dX5_truth_254 rfl (lv_at hl 0 rfl) ?_
                          refine va_get (D := D) (ci := 5) (v := .ref (b 3)) (C := RX5) (T := TX5) (N := 15) hx hb hts hinX5 hown hK1 hP 0 rfl rfl 6 (by decide) (hts (.fieldLink RX5 16 "KnowledgeModelModel" "kinds" "[I") (List.mem_of_getElem? (i := 6) rfl)) (fun _ h9 => h9) rfl dX5_truth_255 ?_
                          refine lv_iload_n hx hb dX5_truth_258 rfl (lv_at hl 2 rfl) ?_
                          refine xiald (j := f) (q0 := 3) (t0 := 0) hx hb hK1 hP rfl rfl (by omega) (by decide) dX5_truth_259 ?_
                          refine xtop (y := (nI 5)) (by exact (((Ag8_t hag hu_66) 3 f (by decide)).trans hk3).trans (congrArg nI hkd)) ?_
                          refine lv_iconst (v := (nI 5)) hx hb dX5_truth_260 (by decide) ?_
                          refine lv_icmp_ne (tgt := 275) hx hb dX5_truth_261 (by decide) (fun c261 => ?_) (fun c261 => ?_)
                          ·
                            replace c261 : ¬ 5 = 5 := k_net c261 (by omega) (by omega)
                            exfalso; omega
                          ·
                            replace c261 : 5 = 5 := k_nef c261 (by omega) (by omega)
                            refine lv_aload_n hx hb dX5_truth_264 rfl (lv_at hl 0 rfl) ?_
                            refine lv_iload hx hb dX5_truth_265 (lv_at hl 5 rfl) ?_
                            refine lv_iload hx hb dX5_truth_267 (lv_at hl 9 rfl) ?_
                            refine xcalli (va_runV (As := [.int (M0 4 f), .int (nI j)]) (rest := []) ⟨hx, hb, hml, hown, hts⟩ (c_X5_seenByAll l D cs b u_66 n (M0 4 f) j (by omega) hk_67) (cwV 2 hts gX5_truth_X5_seenByAll rfl rfl rfl (by decide +kernel) ⟨by dsimp only; omega, by dsimp only; omega⟩) (xpreV hP hK (ci := 5) 0 rfl rfl) rfl rfl hl.1 rfl (lv_room (Nat.le_of_ble_eq_true rfl)) dX5_truth_269 ⟨Nat.le_of_ble_eq_true rfl, Nat.le_of_ble_eq_true rfl⟩) hS hP (fun H locs hP hS => ?_)
                            refine xtop (y := (everyR M0 n (M0 4 f) j)) (by exact everyR_c (Ag8_t hag hu_66)) ?_
                            refine lv_goto (tgt := 276) hx hb dX5_truth_272 (by decide) ?_
                            refine lv_istore (lv' := [(10, .int (everyR M0 n (M0 4 f) j)), (0, .ref (b 0)), (1, .int (nI lv)), (2, .int (nI f)), (3, .int (nI ((40 * lv) + f))), (4, .int mo), (5, .int (M0 4 f)), (6, .int (nI (p1 f))), (7, .int (fo (fun w r => if bt mo w && decide ((everyR M0 n (M0 4 f) w &&& mo &&& (semR M0 n kd p1 p2 sb ag mo (p1 f) ^^^ (-1))) = 0) then r ||| sg w else r) (nI 0) j)), (8, .int (semR M0 n kd p1 p2 sb ag mo (p1 f))), (9, .int (nI j))]) hx hb dX5_truth_276 hl (by decide) rfl (fun ls hl => ?_)
                            refine lv_aload_n hx hb dX5_truth_278 rfl (lv_at hl 1 rfl) ?_
                            refine va_get (D := D) (ci := 5) (v := .ref (b 3)) (C := RX5) (T := TX5) (N := 15) hx hb hts hinX5 hown hK1 hP 0 rfl rfl 6 (by decide) (hts (.fieldLink RX5 16 "KnowledgeModelModel" "kinds" "[I") (List.mem_of_getElem? (i := 6) rfl)) (fun _ h9 => h9) rfl dX5_truth_279 ?_
                            refine lv_iload_n hx hb dX5_truth_282 rfl (lv_at hl 3 rfl) ?_
                            refine xiald (j := f) (q0 := 3) (t0 := 0) hx hb hK1 hP rfl rfl (by omega) (by decide) dX5_truth_283 ?_
                            refine xtop (y := (nI 5)) (by exact (((Ag8_t hag hu_66) 3 f (by decide)).trans hk3).trans (congrArg nI hkd)) ?_
                            refine lv_if_ne (tgt := 302) hx hb dX5_truth_284 (by decide) (fun c284 => ?_) (fun c284 => ?_)
                            ·
                              replace c284 : ¬ 5 = 0 := k0_net c284 (by omega)
                              refine lv_iload hx hb dX5_truth_302 (lv_at hl 0 rfl) ?_
                              refine lv_iload hx hb dX5_truth_304 (lv_at hl 5 rfl) ?_
                              refine lv_iand hx hb dX5_truth_306 ?_
                              refine lv_iload hx hb dX5_truth_307 (lv_at hl 9 rfl) ?_
                              refine lv_iconst (v := (-1 : Int32)) hx hb dX5_truth_309 (by decide) ?_
                              refine lv_ixor hx hb dX5_truth_310 ?_
                              refine lv_iand hx hb dX5_truth_311 ?_
                              refine lv_if_ne (tgt := 319) hx hb dX5_truth_312 (by decide) (fun c312 => ?_) (fun c312 => ?_)
                              ·
                                refine lv_iconst (v := (nI 0)) hx hb dX5_truth_319 (by decide) ?_
                                refine lv_istore (lv' := [(11, .int (nI 0)), (10, .int (everyR M0 n (M0 4 f) j)), (0, .ref (b 0)), (1, .int (nI lv)), (2, .int (nI f)), (3, .int (nI ((40 * lv) + f))), (4, .int mo), (5, .int (M0 4 f)), (6, .int (nI (p1 f))), (7, .int (fo (fun w r => if bt mo w && decide ((everyR M0 n (M0 4 f) w &&& mo &&& (semR M0 n kd p1 p2 sb ag mo (p1 f) ^^^ (-1))) = 0) then r ||| sg w else r) (nI 0) j)), (8, .int (semR M0 n kd p1 p2 sb ag mo (p1 f))), (9, .int (nI j))]) hx hb dX5_truth_320 hl (by decide) rfl (fun ls hl => ?_)
                                refine lv_iload hx hb dX5_truth_322 (lv_at hl 0 rfl) ?_
                                refine lv_if_eq (tgt := 336) hx hb dX5_truth_324 (by decide) (fun c324 => ?_) (fun c324 => ?_)
                                ·
                                  replace c324 : 0 = 0 := k0_eqt c324 (by omega)
                                  refine lv_iinc (v := (nI (j + 1))) (lv' := [(9, .int (nI (j + 1))), (11, .int (nI 0)), (10, .int (everyR M0 n (M0 4 f) j)), (0, .ref (b 0)), (1, .int (nI lv)), (2, .int (nI f)), (3, .int (nI ((40 * lv) + f))), (4, .int mo), (5, .int (M0 4 f)), (6, .int (nI (p1 f))), (7, .int (fo (fun w r => if bt mo w && decide ((everyR M0 n (M0 4 f) w &&& mo &&& (semR M0 n kd p1 p2 sb ag mo (p1 f) ^^^ (-1))) = 0) then r ||| sg w else r) (nI 0) j)), (8, .int (semR M0 n kd p1 p2 sb ag mo (p1 f)))]) hx hb dX5_truth_336 hl (k := 11) rfl (nI_add j 1) (by decide) rfl (fun ls hl => ?_)
                                  refine lv_goto (tgt := 183) hx hb dX5_truth_339 (by decide) ?_
                                  have e_76 : (fo (fun w r => if bt mo w && decide ((everyR M0 n (M0 4 f) w &&& mo &&& (semR M0 n kd p1 p2 sb ag mo (p1 f) ^^^ (-1))) = 0) then r ||| sg w else r) (nI 0) j) = (fo (fun w r => if bt mo w && decide ((everyR M0 n (M0 4 f) w &&& mo &&& (semR M0 n kd p1 p2 sb ag mo (p1 f) ^^^ (-1))) = 0) then r ||| sg w else r) (nI 0) (j + 1)) := by first | (rw [fo_s, if_neg (by rw [c199]; exact Bool.false_ne_true)]; done) | (rw [fo_s, if_pos (by rw [c199, decide_eq_true c312]; rfl)]; assumption) | (rw [fo_s, if_neg (by rw [c199, decide_eq_false c312]; exact Bool.false_ne_true)]; done)
                                  exact cut183 (j + 1) (by omega) (by omega) _ _ hP hS ls (lcons (lcons (lcons (lcons (lcons (lcons (lcons (lcons (lcons (lcons (lzero hl) hl 0 rfl rfl) hl 11 rfl rfl) hl 10 rfl (congrArg Value.int e_76)) hl 9 rfl rfl) hl 8 rfl rfl) hl 7 rfl rfl) hl 6 rfl rfl) hl 5 rfl rfl) hl 4 rfl rfl) hl 3 rfl rfl)
                                ·
                                  replace c324 : ¬ 0 = 0 := k0_eqf c324 (by omega)
                                  exfalso; omega
                              ·
                                refine lv_iconst (v := (nI 1)) hx hb dX5_truth_315 (by decide) ?_
                                refine lv_goto (tgt := 320) hx hb dX5_truth_316 (by decide) ?_
                                refine lv_istore (lv' := [(11, .int (nI 1)), (10, .int (everyR M0 n (M0 4 f) j)), (0, .ref (b 0)), (1, .int (nI lv)), (2, .int (nI f)), (3, .int (nI ((40 * lv) + f))), (4, .int mo), (5, .int (M0 4 f)), (6, .int (nI (p1 f))), (7, .int (fo (fun w r => if bt mo w && decide ((everyR M0 n (M0 4 f) w &&& mo &&& (semR M0 n kd p1 p2 sb ag mo (p1 f) ^^^ (-1))) = 0) then r ||| sg w else r) (nI 0) j)), (8, .int (semR M0 n kd p1 p2 sb ag mo (p1 f))), (9, .int (nI j))]) hx hb dX5_truth_320 hl (by decide) rfl (fun ls hl => ?_)
                                refine lv_iload hx hb dX5_truth_322 (lv_at hl 0 rfl) ?_
                                refine lv_if_eq (tgt := 336) hx hb dX5_truth_324 (by decide) (fun c324 => ?_) (fun c324 => ?_)
                                ·
                                  replace c324 : 1 = 0 := k0_eqt c324 (by omega)
                                  exfalso; omega
                                ·
                                  replace c324 : ¬ 1 = 0 := k0_eqf c324 (by omega)
                                  refine lv_iload hx hb dX5_truth_327 (lv_at hl 9 rfl) ?_
                                  refine lv_iconst (v := (nI 1)) hx hb dX5_truth_329 (by decide) ?_
                                  refine lv_iload hx hb dX5_truth_330 (lv_at hl 11 rfl) ?_
                                  refine lv_ishl hx hb dX5_truth_332 ?_
                                  refine lv_ior hx hb dX5_truth_333 ?_
                                  refine lv_topi (fun x_77 hx_77 => ?_)
                                  refine lv_istore (lv' := [(7, .int x_77), (11, .int (nI 1)), (10, .int (everyR M0 n (M0 4 f) j)), (0, .ref (b 0)), (1, .int (nI lv)), (2, .int (nI f)), (3, .int (nI ((40 * lv) + f))), (4, .int mo), (5, .int (M0 4 f)), (6, .int (nI (p1 f))), (8, .int (semR M0 n kd p1 p2 sb ag mo (p1 f))), (9, .int (nI j))]) hx hb dX5_truth_334 hl (by decide) rfl (fun ls hl => ?_)
                                  refine lv_iinc (v := (nI (j + 1))) (lv' := [(9, .int (nI (j + 1))), (7, .int x_77), (11, .int (nI 1)), (10, .int (everyR M0 n (M0 4 f) j)), (0, .ref (b 0)), (1, .int (nI lv)), (2, .int (nI f)), (3, .int (nI ((40 * lv) + f))), (4, .int mo), (5, .int (M0 4 f)), (6, .int (nI (p1 f))), (8, .int (semR M0 n kd p1 p2 sb ag mo (p1 f)))]) hx hb dX5_truth_336 hl (k := 11) rfl (nI_add j 1) (by decide) rfl (fun ls hl => ?_)
                                  refine lv_goto (tgt := 183) hx hb dX5_truth_339 (by decide) ?_
                                  have e_78 : x_77 = (fo (fun w r => if bt mo w && decide ((everyR M0 n (M0 4 f) w &&& mo &&& (semR M0 n kd p1 p2 sb ag mo (p1 f) ^^^ (-1))) = 0) then r ||| sg w else r) (nI 0) (j + 1)) := by first | (rw [fo_s, if_neg (by rw [c199]; exact Bool.false_ne_true)]; done) | (rw [fo_s, if_pos (by rw [c199, decide_eq_true c312]; rfl)]; assumption) | (rw [fo_s, if_neg (by rw [c199, decide_eq_false c312]; exact Bool.false_ne_true)]; done)
                                  exact cut183 (j + 1) (by omega) (by omega) _ _ hP hS ls (lcons (lcons (lcons (lcons (lcons (lcons (lcons (lcons (lcons (lcons (lzero hl) hl 0 rfl rfl) hl 11 rfl rfl) hl 1 rfl (congrArg Value.int e_78)) hl 10 rfl rfl) hl 9 rfl rfl) hl 8 rfl rfl) hl 7 rfl rfl) hl 6 rfl rfl) hl 5 rfl rfl) hl 4 rfl rfl)
                            ·
                              replace c284 : 5 = 0 := k0_nef c284 (by omega)
                              exfalso; omega
                        ·
                          replace c238 : 5 = 4 := k_nef c238 (by omega) (by omega)
                          exfalso; omega
                      ·
                        replace c212 : 5 = 3 := k_nef c212 (by omega) (by omega)
                        exfalso; omega
                    ·
                      replace c199 := bI_0 c199
                      refine lv_goto (tgt := 336) hx hb dX5_truth_202 (by decide) ?_
                      refine lv_iinc (v := (nI (j + 1))) (lv' := [(9, .int (nI (j + 1))), (0, .ref (b 0)), (1, .int (nI lv)), (2, .int (nI f)), (3, .int (nI ((40 * lv) + f))), (4, .int mo), (5, .int (M0 4 f)), (6, .int (nI (p1 f))), (7, .int (fo (fun w r => if bt mo w && decide ((everyR M0 n (M0 4 f) w &&& mo &&& (semR M0 n kd p1 p2 sb ag mo (p1 f) ^^^ (-1))) = 0) then r ||| sg w else r) (nI 0) j)), (8, .int (semR M0 n kd p1 p2 sb ag mo (p1 f)))]) hx hb dX5_truth_336 hl (k := 9) rfl (nI_add j 1) (by decide) rfl (fun ls hl => ?_)
                      refine lv_goto (tgt := 183) hx hb dX5_truth_339 (by decide) ?_
                      have e_79 : (fo (fun w r => if bt mo w && decide ((everyR M0 n (M0 4 f) w &&& mo &&& (semR M0 n kd p1 p2 sb ag mo (p1 f) ^^^ (-1))) = 0) then r ||| sg w else r) (nI 0) j) = (fo (fun w r => if bt mo w && decide ((everyR M0 n (M0 4 f) w &&& mo &&& (semR M0 n kd p1 p2 sb ag mo (p1 f) ^^^ (-1))) = 0) then r ||| sg w else r) (nI 0) (j + 1)) := by first | (rw [fo_s, if_neg (by rw [c199]; exact Bool.false_ne_true)]; done) | (rw [fo_s, if_pos (by rw [c199, decide_eq_true c312]; rfl)]; assumption) | (rw [fo_s, if_neg (by rw [c199, decide_eq_false c312]; exact Bool.false_ne_true)]; done)
                      exact cut183 (j + 1) (by omega) (by omega) _ _ hP hS ls (lcons (lcons (lcons (lcons (lcons (lcons (lcons (lcons (lcons (lcons (lzero hl) hl 0 rfl rfl) hl 9 rfl rfl) hl 8 rfl (congrArg Value.int e_79)) hl 7 rfl rfl) hl 6 rfl rfl) hl 5 rfl rfl) hl 4 rfl rfl) hl 3 rfl rfl) hl 2 rfl rfl) hl 1 rfl rfl)
              have e_80 : (nI 0) = (fo (fun w r => if bt mo w && decide ((everyR M0 n (M0 4 f) w &&& mo &&& (semR M0 n kd p1 p2 sb ag mo (p1 f) ^^^ (-1))) = 0) then r ||| sg w else r) (nI 0) 0) := by rfl
              exact cut183 (n + 1) 0 (by omega) (by omega) _ _ hP hS ls (lcons (lcons (lcons (lcons (lcons (lcons (lcons (lcons (lcons (lcons (lzero hl) hl 0 rfl rfl) hl 1 rfl rfl) hl 2 rfl (congrArg Value.int e_80)) hl 3 rfl rfl) hl 4 rfl rfl) hl 5 rfl rfl) hl 6 rfl rfl) hl 9 rfl rfl) hl 8 rfl rfl) hl 7 rfl rfl)
            ·
              replace c164 : 5 = 0 := k0_nef c164 (by omega)
              exfalso; omega
          ·
            replace c115 : 5 = 6 := k_nef c115 (by omega) (by omega)
            exfalso; omega
        ·
          replace c87 : 5 = 1 := k_nef c87 (by omega) (by omega)
          exfalso; omega
      ·
        replace c57 : 5 = 2 := k_nef c57 (by omega) (by omega)
        exfalso; omega
    ·
      refine lv_aload_n hx hb dX5_truth_16 rfl (lv_at hl 1 rfl) ?_
      refine va_get (D := D) (ci := 5) (v := .ref (b 10)) (C := RX5) (T := TX5) (N := 15) hx hb hts hinX5 hown hK1 hP 0 rfl rfl 13 (by decide) (hts (.fieldLink RX5 38 "KnowledgeModelModel" "truths" "[I") (List.mem_of_getElem? (i := 2) rfl)) (fun _ h9 => h9) rfl dX5_truth_17 ?_
      refine lv_iload_n hx hb dX5_truth_20 rfl (lv_at hl 0 rfl) ?_
      refine xiald (j := (40 * lv) + f) (q0 := 10) (t0 := 0) hx hb hK1 hP rfl rfl (by omega) (by decide) dX5_truth_21 ?_
      refine xtop (y := (semR M0 n kd p1 p2 sb ag mo f)) (by exact ((hti.2 f hf).resolve_left c13).2) ?_
      subst hQ
      have hrel : TR M0 M n nf kd p1 p2 sb ag lv mo M := by first | exact TR_r hti | (simp only [fo_0, c13]; exact TR_w (TR_r hti) hf hval) | (simp only [fo_0, c13]; exact TR_w trivial hf hval) | (simp only [fo_0, c13]; exact TR_w (TR_t trivial trivial) hf hval) | (simp only [fo_0, c13]; exact TR_w (TR_b trivial hf40 (by simpa only [fo_0, c13] using trivial)) hf hval)
      have hfin : (semR M0 n kd p1 p2 sb ag mo f) = semR M0 n kd p1 p2 sb ag mo f := by first | exact hval | rfl
      exact W.iret hx hb hr (fun t ht hW => ⟨⟨_, M, rfl, ⟨hfin, hrel⟩, by rw [← ht] at hP; exact hP⟩, hS.F ht⟩) hS.2.2 dX5_truth_22
  ·
    have hq1 := hL.1 (by omega)
    have hz1 := hE1 (by omega)
    obtain ⟨hC1, hC2⟩ := hC (by omega)
    have hq2 := hL.2 (by omega)
    have hz6 := hE6 hkd
    refine lv_bipush (v := (nI 40)) hx hb dX5_truth_0 (by decide) ?_
    refine lv_iload_n hx hb dX5_truth_2 rfl (lv_at hl 1 rfl) ?_
    refine ximul hx hb dX5_truth_3 ?_
    refine lv_iload_n hx hb dX5_truth_4 rfl (lv_at hl 2 rfl) ?_
    refine xiadd hx hb dX5_truth_5 ?_
    refine lv_istore_n (lv' := [(3, .int (nI ((40 * lv) + f))), (0, .ref (b 0)), (1, .int (nI lv)), (2, .int (nI f))]) hx hb dX5_truth_6 rfl hl (by decide) rfl (fun ls hl => ?_)
    refine lv_aload_n hx hb dX5_truth_7 rfl (lv_at hl 1 rfl) ?_
    refine va_get (D := D) (ci := 5) (v := .ref (b 9)) (C := RX5) (T := TX5) (N := 15) hx hb hts hinX5 hown hK1 hP 0 rfl rfl 12 (by decide) (hts (.fieldLink RX5 34 "KnowledgeModelModel" "areKnown" "[Z") (List.mem_of_getElem? (i := 1) rfl)) (fun _ h9 => h9) rfl dX5_truth_8 ?_
    refine lv_iload_n hx hb dX5_truth_11 rfl (lv_at hl 0 rfl) ?_
    refine xzald (j := (40 * lv) + f) (q0 := 9) (t0 := 3) hx hb hK1 hP rfl rfl (by omega) (by decide) dX5_truth_12 ?_
    refine lv_if_eq (tgt := 23) hx hb dX5_truth_13 (by decide) (fun c13 => ?_) (fun c13 => ?_)
    ·
      refine lv_aload_n hx hb dX5_truth_23 rfl (lv_at hl 1 rfl) ?_
      refine va_get (D := D) (ci := 5) (v := .ref (b 8)) (C := RX5) (T := TX5) (N := 15) hx hb hts hinX5 hown hK1 hP 0 rfl rfl 11 (by decide) (hts (.fieldLink RX5 31 "KnowledgeModelModel" "lefts" "[I") (List.mem_of_getElem? (i := 3) rfl)) (fun _ h9 => h9) rfl dX5_truth_24 ?_
      refine lv_iload_n hx hb dX5_truth_27 rfl (lv_at hl 2 rfl) ?_
      refine xiald (j := lv) (q0 := 8) (t0 := 0) hx hb hK1 hP rfl rfl (by omega) (by decide) dX5_truth_28 ?_
      refine xtop (y := mo) (by exact hti.1) ?_
      refine lv_istore (lv' := [(4, .int mo), (3, .int (nI ((40 * lv) + f))), (0, .ref (b 0)), (1, .int (nI lv)), (2, .int (nI f))]) hx hb dX5_truth_29 hl (by decide) rfl (fun ls hl => ?_)
      refine lv_aload_n hx hb dX5_truth_31 rfl (lv_at hl 2 rfl) ?_
      refine va_get (D := D) (ci := 5) (v := .ref (b 4)) (C := RX5) (T := TX5) (N := 15) hx hb hts hinX5 hown hK1 hP 0 rfl rfl 7 (by decide) (hts (.fieldLink RX5 19 "KnowledgeModelModel" "firsts" "[I") (List.mem_of_getElem? (i := 4) rfl)) (fun _ h9 => h9) rfl dX5_truth_32 ?_
      refine lv_iload_n hx hb dX5_truth_35 rfl (lv_at hl 4 rfl) ?_
      refine xiald (j := f) (q0 := 4) (t0 := 0) hx hb hK1 hP rfl rfl (by omega) (by decide) dX5_truth_36 ?_
      refine xtop (y := (nI (p1 f))) (by exact (hag 4 f (by decide)).trans hC1) ?_
      refine lv_istore (lv' := [(5, .int (nI (p1 f))), (4, .int mo), (3, .int (nI ((40 * lv) + f))), (0, .ref (b 0)), (1, .int (nI lv)), (2, .int (nI f))]) hx hb dX5_truth_37 hl (by decide) rfl (fun ls hl => ?_)
      refine lv_aload_n hx hb dX5_truth_39 rfl (lv_at hl 3 rfl) ?_
      refine va_get (D := D) (ci := 5) (v := .ref (b 5)) (C := RX5) (T := TX5) (N := 15) hx hb hts hinX5 hown hK1 hP 0 rfl rfl 8 (by decide) (hts (.fieldLink RX5 22 "KnowledgeModelModel" "seconds" "[I") (List.mem_of_getElem? (i := 5) rfl)) (fun _ h9 => h9) rfl dX5_truth_40 ?_
      refine lv_iload_n hx hb dX5_truth_43 rfl (lv_at hl 5 rfl) ?_
      refine xiald (j := f) (q0 := 5) (t0 := 0) hx hb hK1 hP rfl rfl (by omega) (by decide) dX5_truth_44 ?_
      refine xtop (y := (nI (p2 f))) (by exact (hag 5 f (by decide)).trans hC2) ?_
      refine lv_istore (lv' := [(6, .int (nI (p2 f))), (5, .int (nI (p1 f))), (4, .int mo), (3, .int (nI ((40 * lv) + f))), (0, .ref (b 0)), (1, .int (nI lv)), (2, .int (nI f))]) hx hb dX5_truth_45 hl (by decide) rfl (fun ls hl => ?_)
      refine lv_iconst (v := (nI 0)) hx hb dX5_truth_47 (by decide) ?_
      refine lv_istore (lv' := [(7, .int (nI 0)), (6, .int (nI (p2 f))), (5, .int (nI (p1 f))), (4, .int mo), (3, .int (nI ((40 * lv) + f))), (0, .ref (b 0)), (1, .int (nI lv)), (2, .int (nI f))]) hx hb dX5_truth_48 hl (by decide) rfl (fun ls hl => ?_)
      refine lv_aload_n hx hb dX5_truth_50 rfl (lv_at hl 5 rfl) ?_
      refine va_get (D := D) (ci := 5) (v := .ref (b 3)) (C := RX5) (T := TX5) (N := 15) hx hb hts hinX5 hown hK1 hP 0 rfl rfl 6 (by decide) (hts (.fieldLink RX5 16 "KnowledgeModelModel" "kinds" "[I") (List.mem_of_getElem? (i := 6) rfl)) (fun _ h9 => h9) rfl dX5_truth_51 ?_
      refine lv_iload_n hx hb dX5_truth_54 rfl (lv_at hl 7 rfl) ?_
      refine xiald (j := f) (q0 := 3) (t0 := 0) hx hb hK1 hP rfl rfl (by omega) (by decide) dX5_truth_55 ?_
      refine xtop (y := (nI 6)) (by exact ((hag 3 f (by decide)).trans hk3).trans (congrArg nI hkd)) ?_
      refine lv_iconst (v := (nI 2)) hx hb dX5_truth_56 (by decide) ?_
      refine lv_icmp_ne (tgt := 80) hx hb dX5_truth_57 (by decide) (fun c57 => ?_) (fun c57 => ?_)
      ·
        replace c57 : ¬ 6 = 2 := k_net c57 (by omega) (by omega)
        refine lv_aload_n hx hb dX5_truth_80 rfl (lv_at hl 5 rfl) ?_
        refine va_get (D := D) (ci := 5) (v := .ref (b 3)) (C := RX5) (T := TX5) (N := 15) hx hb hts hinX5 hown hK1 hP 0 rfl rfl 6 (by decide) (hts (.fieldLink RX5 16 "KnowledgeModelModel" "kinds" "[I") (List.mem_of_getElem? (i := 6) rfl)) (fun _ h9 => h9) rfl dX5_truth_81 ?_
        refine lv_iload_n hx hb dX5_truth_84 rfl (lv_at hl 7 rfl) ?_
        refine xiald (j := f) (q0 := 3) (t0 := 0) hx hb hK1 hP rfl rfl (by omega) (by decide) dX5_truth_85 ?_
        refine xtop (y := (nI 6)) (by exact ((hag 3 f (by decide)).trans hk3).trans (congrArg nI hkd)) ?_
        refine lv_iconst (v := (nI 1)) hx hb dX5_truth_86 (by decide) ?_
        refine lv_icmp_ne (tgt := 107) hx hb dX5_truth_87 (by decide) (fun c87 => ?_) (fun c87 => ?_)
        ·
          replace c87 : ¬ 6 = 1 := k_net c87 (by omega) (by omega)
          refine lv_aload_n hx hb dX5_truth_107 rfl (lv_at hl 5 rfl) ?_
          refine va_get (D := D) (ci := 5) (v := .ref (b 3)) (C := RX5) (T := TX5) (N := 15) hx hb hts hinX5 hown hK1 hP 0 rfl rfl 6 (by decide) (hts (.fieldLink RX5 16 "KnowledgeModelModel" "kinds" "[I") (List.mem_of_getElem? (i := 6) rfl)) (fun _ h9 => h9) rfl dX5_truth_108 ?_
          refine lv_iload_n hx hb dX5_truth_111 rfl (lv_at hl 7 rfl) ?_
          refine xiald (j := f) (q0 := 3) (t0 := 0) hx hb hK1 hP rfl rfl (by omega) (by decide) dX5_truth_112 ?_
          refine xtop (y := (nI 6)) (by exact ((hag 3 f (by decide)).trans hk3).trans (congrArg nI hkd)) ?_
          refine lv_bipush (v := (nI 6)) hx hb dX5_truth_113 (by decide) ?_
          refine lv_icmp_ne (tgt := 158) hx hb dX5_truth_115 (by decide) (fun c115 => ?_) (fun c115 => ?_)
          ·
            replace c115 : ¬ 6 = 6 := k_net c115 (by omega) (by omega)
            exfalso; omega
          ·
            replace c115 : 6 = 6 := k_nef c115 (by omega) (by omega)
            refine lv_aload_n hx hb dX5_truth_118 rfl (lv_at hl 5 rfl) ?_
            refine lv_iload_n hx hb dX5_truth_119 rfl (lv_at hl 6 rfl) ?_
            refine lv_iload hx hb dX5_truth_120 (lv_at hl 2 rfl) ?_
            refine xcallwi (va_runV (As := [.int (nI lv), .int (nI (p1 f))]) (rest := []) ⟨hx, hb, hml, hown, hts⟩ (ih (p1 f) (by omega) M _ lv mo hag hlv (by omega) (by omega) hti) (cwV 2 hts gX5_truth_X5_truth rfl rfl rfl (by decide +kernel) ⟨by dsimp only; omega, by dsimp only; omega⟩) (xpreVs hP hK (ci := 5) 0 rfl rfl) rfl rfl hl.1 rfl (lv_room (Nat.le_of_ble_eq_true rfl)) dX5_truth_122 ⟨Nat.le_of_ble_eq_true rfl, Nat.le_of_ble_eq_true rfl⟩) hS (kAle hS.1) (fun u_81 H locs hu_81 hP _ _ hS => ?_)
            have hP : va_P D vwCl (rc cs b u_81) H := hP
            have hk_82 : u_81 0 1 = nI n := by rw [hu_81.1 0 1 (by decide)]; exact hn
            have hk_83 : u_81 0 3 = nI nf := by rw [hu_81.1 0 3 (by decide)]; exact hfc
            refine lv_istore (lv' := [(8, .int (semR M0 n kd p1 p2 sb ag mo (p1 f))), (7, .int (nI 0)), (6, .int (nI (p2 f))), (5, .int (nI (p1 f))), (4, .int mo), (3, .int (nI ((40 * lv) + f))), (0, .ref (b 0)), (1, .int (nI lv)), (2, .int (nI f))]) hx hb dX5_truth_125 hl (by decide) rfl (fun ls hl => ?_)
            refine lv_aload_n hx hb dX5_truth_127 rfl (lv_at hl 6 rfl) ?_
            refine lv_iload_n hx hb dX5_truth_128 rfl (lv_at hl 7 rfl) ?_
            refine lv_iconst (v := (nI 1)) hx hb dX5_truth_129 (by decide) ?_
            refine xiadd hx hb dX5_truth_130 ?_
            refine lv_iload hx hb dX5_truth_131 (lv_at hl 0 rfl) ?_
            refine xcallwv (va_runV (As := [.int (nI (lv + 1)), .int (semR M0 n kd p1 p2 sb ag mo (p1 f))]) (rest := []) ⟨hx, hb, hml, hown, hts⟩ (c_X5_begin l D cs b u_81 _ hI nf (lv + 1) (semR M0 n kd p1 p2 sb ag mo (p1 f)) (by omega) hk_83 (by omega)) (cwV 2 hts gX5_truth_X5_begin rfl rfl rfl (by decide +kernel) ⟨by dsimp only; omega, by dsimp only; omega⟩) (xpreVs hP hK (ci := 5) 0 rfl rfl) rfl rfl hl.1 rfl (lv_room (Nat.le_of_ble_eq_true rfl)) dX5_truth_133 ⟨Nat.le_of_ble_eq_true rfl, Nat.le_of_ble_eq_true rfl⟩) hS (kAle hS.1) (fun u_84 H locs hu_84 hP _ _ hS => ?_)
            have hP : va_P D vwCl (rc cs b (begC (wr u_81 8 (lv + 1) (semR M0 n kd p1 p2 sb ag mo (p1 f))) (lv + 1) nf)) H := hP
            obtain ⟨M_85, hM_85⟩ : ∃ z, z = begC (wr u_81 8 (lv + 1) (semR M0 n kd p1 p2 sb ag mo (p1 f))) (lv + 1) nf := ⟨_, rfl⟩
            rw [← hM_85] at hP
            have hk_86 : M_85 0 1 = nI n := by rw [hM_85]; exact (begC_o (by decide)).trans ((wr_ne (Or.inl (by decide))).trans hk_82)
            have hk_88 : M_85 0 3 = nI nf := by rw [hM_85]; exact (begC_o (by decide)).trans ((wr_ne (Or.inl (by decide))).trans hk_83)
            refine lv_iload hx hb dX5_truth_136 (lv_at hl 4 rfl) ?_
            refine lv_iload hx hb dX5_truth_138 (lv_at hl 0 rfl) ?_
            refine lv_iconst (v := (-1 : Int32)) hx hb dX5_truth_140 (by decide) ?_
            refine lv_ixor hx hb dX5_truth_141 ?_
            refine lv_iand hx hb dX5_truth_142 ?_
            refine lv_aload_n hx hb dX5_truth_143 rfl (lv_at hl 6 rfl) ?_
            refine lv_iload_n hx hb dX5_truth_144 rfl (lv_at hl 7 rfl) ?_
            refine lv_iconst (v := (nI 1)) hx hb dX5_truth_145 (by decide) ?_
            refine xiadd hx hb dX5_truth_146 ?_
            refine lv_iload hx hb dX5_truth_147 (lv_at hl 2 rfl) ?_
            refine xcallwi (va_runV (As := [.int (nI (lv + 1)), .int (nI (p2 f))]) (rest := [.int (mo &&& ((semR M0 n kd p1 p2 sb ag mo (p1 f)) ^^^ (-1 : Int32)))]) ⟨hx, hb, hml, hown, hts⟩ (c_X5_truth_1 l D cs b hI n nf kd p1 p2 ns sb ag M0 hn0 hn24 hwf hfc0 hf40 (p2 f) M_85 _ (lv + 1) (semR M0 n kd p1 p2 sb ag mo (p1 f)) (by simp only [fo_0, hM_85]; exact fun i y hi => ((begC_o (by omega)).trans (wr_ne (Or.inl (by omega)))).trans (Ag8_t hag hu_81 i y hi)) (by omega) (by omega) (by omega) (by simp only [fo_0, hM_85]; exact TI_b hf40)) (cwV 2 hts gX5_truth_X5_truth rfl rfl rfl (by decide +kernel) ⟨by dsimp only; omega, by dsimp only; omega⟩) (xpreVs hP hK (ci := 5) 0 rfl rfl) rfl rfl hl.1 rfl (lv_room (Nat.le_of_ble_eq_true rfl)) dX5_truth_149 ⟨Nat.le_of_ble_eq_true rfl, Nat.le_of_ble_eq_true rfl⟩) hS (kAle hS.1) (fun u_89 H locs hu_89 hP _ _ hS => ?_)
            have hP : va_P D vwCl (rc cs b u_89) H := hP
            have hk_90 : u_89 0 1 = nI n := by rw [hu_89.1 0 1 (by decide)]; exact hk_86
            have hk_91 : u_89 0 3 = nI nf := by rw [hu_89.1 0 3 (by decide)]; exact hk_88
            refine lv_ior hx hb dX5_truth_152 ?_
            refine lv_istore (lv' := [(7, .int ((mo &&& ((semR M0 n kd p1 p2 sb ag mo (p1 f)) ^^^ (-1 : Int32))) ||| (semR M0 n kd p1 p2 sb ag (semR M0 n kd p1 p2 sb ag mo (p1 f)) (p2 f)))), (8, .int (semR M0 n kd p1 p2 sb ag mo (p1 f))), (6, .int (nI (p2 f))), (5, .int (nI (p1 f))), (4, .int mo), (3, .int (nI ((40 * lv) + f))), (0, .ref (b 0)), (1, .int (nI lv)), (2, .int (nI f))]) hx hb dX5_truth_153 hl (by decide) rfl (fun ls hl => ?_)
            refine lv_goto (tgt := 342) hx hb dX5_truth_155 (by decide) ?_
            have hval : ((mo &&& ((semR M0 n kd p1 p2 sb ag mo (p1 f)) ^^^ (-1 : Int32))) ||| (semR M0 n kd p1 p2 sb ag (semR M0 n kd p1 p2 sb ag mo (p1 f)) (p2 f))) = semR M0 n kd p1 p2 sb ag mo f := by rw [semR_eq hwp hf]; simp only [askR, hkd, if_true, if_false, show (1 : Nat) ≠ 0 by decide, show (2 : Nat) ≠ 0 by decide, show (2 : Nat) ≠ 1 by decide, show (3 : Nat) ≠ 0 by decide, show (3 : Nat) ≠ 1 by decide, show (3 : Nat) ≠ 2 by decide, show (3 : Nat) ≠ 6 by decide, show (4 : Nat) ≠ 0 by decide, show (4 : Nat) ≠ 1 by decide, show (4 : Nat) ≠ 2 by decide, show (4 : Nat) ≠ 3 by decide, show (4 : Nat) ≠ 6 by decide, show (5 : Nat) ≠ 0 by decide, show (5 : Nat) ≠ 1 by decide, show (5 : Nat) ≠ 2 by decide, show (5 : Nat) ≠ 3 by decide, show (5 : Nat) ≠ 4 by decide, show (5 : Nat) ≠ 6 by decide, show (6 : Nat) ≠ 0 by decide, show (6 : Nat) ≠ 1 by decide, show (6 : Nat) ≠ 2 by decide]
            refine lv_aload_n hx hb dX5_truth_342 rfl (lv_at hl 6 rfl) ?_
            refine va_get (D := D) (ci := 5) (v := .ref (b 10)) (C := RX5) (T := TX5) (N := 15) hx hb hts hinX5 hown hK1 hP 0 rfl rfl 13 (by decide) (hts (.fieldLink RX5 38 "KnowledgeModelModel" "truths" "[I") (List.mem_of_getElem? (i := 2) rfl)) (fun _ h9 => h9) rfl dX5_truth_343 ?_
            refine lv_iload_n hx hb dX5_truth_346 rfl (lv_at hl 5 rfl) ?_
            refine lv_iload hx hb dX5_truth_347 (lv_at hl 0 rfl) ?_
            refine lv_topi (fun x_92 hx_92 => ?_)
            refine xiast (j := (40 * lv) + f) (q0 := 10) (t0 := 0) (ws' := rc cs b (wr u_89 10 ((40 * lv) + f) x_92)) hx hb hK1 hP (rD hI) hS rfl rfl (by omega) (by decide) rs_10 dX5_truth_349 (fun H locs hP hS => ?_)
            obtain ⟨M_93, hM_93⟩ : ∃ z, z = wr u_89 10 ((40 * lv) + f) x_92 := ⟨_, rfl⟩
            rw [← hM_93] at hP
            have hk_94 : M_93 0 1 = nI n := by rw [hM_93]; exact (wr_ne (Or.inl (by omega))).trans hk_90
            have hk_95 : M_93 0 3 = nI nf := by rw [hM_93]; exact (wr_ne (Or.inl (by omega))).trans hk_91
            refine lv_aload_n hx hb dX5_truth_350 rfl (lv_at hl 6 rfl) ?_
            refine va_get (D := D) (ci := 5) (v := .ref (b 9)) (C := RX5) (T := TX5) (N := 15) hx hb hts hinX5 hown hK1 hP 0 rfl rfl 12 (by decide) (hts (.fieldLink RX5 34 "KnowledgeModelModel" "areKnown" "[Z") (List.mem_of_getElem? (i := 1) rfl)) (fun _ h9 => h9) rfl dX5_truth_351 ?_
            refine lv_iload_n hx hb dX5_truth_354 rfl (lv_at hl 5 rfl) ?_
            refine lv_iconst (v := (nI 1)) hx hb dX5_truth_355 (by decide) ?_
            refine xzast (j := (40 * lv) + f) (q0 := 9) (t0 := 3) (ws' := rc cs b (wr M_93 9 ((40 * lv) + f) (nI 1))) hx hb hK1 hP (rD hI) hS rfl rfl (by omega) (by decide) (by decide) rs_9 dX5_truth_356 (fun H locs hP hS => ?_)
            obtain ⟨M_96, hM_96⟩ : ∃ z, z = wr M_93 9 ((40 * lv) + f) (nI 1) := ⟨_, rfl⟩
            rw [← hM_96] at hP
            have hk_97 : M_96 0 1 = nI n := by rw [hM_96]; exact (wr_ne (Or.inl (by omega))).trans hk_94
            have hk_98 : M_96 0 3 = nI nf := by rw [hM_96]; exact (wr_ne (Or.inl (by omega))).trans hk_95
            refine lv_iload hx hb dX5_truth_357 (lv_at hl 0 rfl) ?_
            subst hQ
            have hrel : TR M0 M n nf kd p1 p2 sb ag lv mo M_96 := by first | exact TR_r hti | (simp only [fo_0, c13, c57, c87, c115, hM_85, hx_92, hM_93, hM_96]; exact TR_w (TR_r hti) hf hval) | (simp only [fo_0, c13, c57, c87, c115, hM_85, hx_92, hM_93, hM_96]; exact TR_w hu_81 hf hval) | (simp only [fo_0, c13, c57, c87, c115, hM_85, hx_92, hM_93, hM_96]; exact TR_w (TR_t hu_81 hu_89) hf hval) | (simp only [fo_0, c13, c57, c87, c115, hM_85, hx_92, hM_93, hM_96]; exact TR_w (TR_b hu_81 hf40 (by simpa only [fo_0, c13, c57, c87, c115, hM_85, hx_92, hM_93, hM_96] using hu_89)) hf hval)
            have hfin : ((mo &&& ((semR M0 n kd p1 p2 sb ag mo (p1 f)) ^^^ (-1 : Int32))) ||| (semR M0 n kd p1 p2 sb ag (semR M0 n kd p1 p2 sb ag mo (p1 f)) (p2 f))) = semR M0 n kd p1 p2 sb ag mo f := by first | exact hval | rfl
            exact W.iret hx hb hr (fun t ht hW => ⟨⟨_, M_96, rfl, ⟨hfin, hrel⟩, by rw [← ht] at hP; exact hP⟩, hS.F ht⟩) hS.2.2 dX5_truth_359
        ·
          replace c87 : 6 = 1 := k_nef c87 (by omega) (by omega)
          exfalso; omega
      ·
        replace c57 : 6 = 2 := k_nef c57 (by omega) (by omega)
        exfalso; omega
    ·
      refine lv_aload_n hx hb dX5_truth_16 rfl (lv_at hl 1 rfl) ?_
      refine va_get (D := D) (ci := 5) (v := .ref (b 10)) (C := RX5) (T := TX5) (N := 15) hx hb hts hinX5 hown hK1 hP 0 rfl rfl 13 (by decide) (hts (.fieldLink RX5 38 "KnowledgeModelModel" "truths" "[I") (List.mem_of_getElem? (i := 2) rfl)) (fun _ h9 => h9) rfl dX5_truth_17 ?_
      refine lv_iload_n hx hb dX5_truth_20 rfl (lv_at hl 0 rfl) ?_
      refine xiald (j := (40 * lv) + f) (q0 := 10) (t0 := 0) hx hb hK1 hP rfl rfl (by omega) (by decide) dX5_truth_21 ?_
      refine xtop (y := (semR M0 n kd p1 p2 sb ag mo f)) (by exact ((hti.2 f hf).resolve_left c13).2) ?_
      subst hQ
      have hrel : TR M0 M n nf kd p1 p2 sb ag lv mo M := by first | exact TR_r hti | (simp only [fo_0, c13]; exact TR_w (TR_r hti) hf hval) | (simp only [fo_0, c13]; exact TR_w trivial hf hval) | (simp only [fo_0, c13]; exact TR_w (TR_t trivial trivial) hf hval) | (simp only [fo_0, c13]; exact TR_w (TR_b trivial hf40 (by simpa only [fo_0, c13] using trivial)) hf hval)
      have hfin : (semR M0 n kd p1 p2 sb ag mo f) = semR M0 n kd p1 p2 sb ag mo f := by first | exact hval | rfl
      exact W.iret hx hb hr (fun t ht hW => ⟨⟨_, M, rfl, ⟨hfin, hrel⟩, by rw [← ht] at hP; exact hP⟩, hS.F ht⟩) hS.2.2 dX5_truth_22


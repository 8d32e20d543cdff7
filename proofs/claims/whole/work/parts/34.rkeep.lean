theorem vD_same {A : Nat → Prop} {w w' : va_W} (h : va_D A w) (e : w.map Prod.fst = w'.map Prod.fst) : va_D A w' := by
  have key : ∀ (k : Nat) (q : Nat × va_E), w'[k]? = some q → ∃ q0, w[k]? = some q0 ∧ q0.1 = q.1 := by
    intro k q hk
    have h1 : (w'.map Prod.fst)[k]? = some q.1 := by rw [List.getElem?_map, hk]; rfl
    rw [← e, List.getElem?_map] at h1
    cases hw : w[k]? with
    | none => rw [hw] at h1; cases h1
    | some q0 => rw [hw] at h1; exact ⟨q0, rfl, Option.some.inj h1⟩
  refine ⟨fun i j p q hi hj he => ?_, fun k q hk => ?_⟩
  · obtain ⟨p0, a1, a2⟩ := key i p hi
    obtain ⟨q0, b1, b2⟩ := key j q hj
    exact h.1 i j p0 q0 a1 b1 (by rw [a2, b2]; exact he)
  · obtain ⟨q0, a1, a2⟩ := key k q hk
    rw [← a2]; exact h.2 k q0 a1
def rc1 (cs : Nat → ClassId) (b : Nat → Nat) (M : Nat → Nat → Int32) (q : Nat) (f : Nat → Int32) : va_W := rc cs b M ++ [(q, .inl (cs 0, 24, .inl f))]
theorem r1P {D : va_G} {cl : List vw_C} {cs : Nat → ClassId} {b : Nat → Nat} {M : Nat → Nat → Int32} {q : Nat} {f : Nat → Int32} {H : Heap} (h : va_P D cl (rc1 cs b M q f) H) : va_P D cl (rc cs b M) H := fun k x hk => h k x (by
  have hl : k < (rc cs b M).length := (List.getElem?_eq_some_iff.mp hk).1
  show (rc cs b M ++ _)[k]? = some x
  rw [List.getElem?_append_left hl]; exact hk)
section XNew
variable {p : Program} {l : Launch} {e : Env} {R : Room} {s : State} {m : MethodId} {args : Array Value} {below : List Frame} {meth : Method} {c : Code} {H H0 : Heap} {locs : List Loc} {cells slots : Nat} {Q : State → Prop} {pc : Nat} {ls : Array Slot} {rest : List Value} {cc : ByteArray} {D : va_G} {cl : List vw_C} {ws : va_W} {A : Nat → Prop} {cs : Nat → ClassId}
theorem xnewi (hexec : p.tables.exec = Jvm.exec) (hb : c.code = cc) (harr : (Cond.arrayClass .int).before args s = true) (hK : va_K D cl (ty5 cs) s) (hP : va_P D cl ws H) (hD : va_D A ws) (hS : va_S A H0 H locs) (hA : ∀ q, H0.size ≤ q → A q) (hcells : cells + 1 ≤ R.cells) (hslots : slots + 24 ≤ R.slots) (hdg : decode cc pc = .ok (.newarray .int, 2))
    (kk : ∀ (q : Nat) (H1 : Heap), va_P D cl (ws ++ [(q, .inl (cs 0, 24, .inl (fun _ => 0)))]) H1 → va_D A (ws ++ [(q, .inl (cs 0, 24, .inl (fun _ => 0)))]) → va_S A H0 H1 locs → W p l e R s m args below meth c H1 locs (cells + 1) (slots + 24) Q (F0 m (pc + 2) ls (.ref q :: rest))) : W p l e R s m args below meth c H locs cells slots Q (F0 m pc ls (.int (nI 24) :: rest)) := by
  refine va_newa (atype := .int) (ty := .int) (N' := 24) (a0 := (24, .inl (fun _ => 0))) hexec hb harr rfl hK hP hD hS hA (fun cA => rfl) (by decide) (by decide) (by decide) hcells hslots hdg (fun q cA H1 hK2 hP2 hD2 hS2 => ?_)
  have h1 := (hK2.2 5 (cA, .int) rfl).2
  have h2 := (hK2.2 0 (cs 0, .int) rfl).2
  have e : cA = cs 0 := Option.some.inj (h1.symm.trans h2)
  subst e
  exact kk q H1 hP2 hD2 hS2
end XNew
def renR (n : Nat) (set x : Int32) : Int32 := fo (fun v r => if bt (x &&& set) v then r ||| sg (rk set v) else r) (nI 0) n
def KR (M : Nat → Nat → Int32) (set : Int32) (n j : Nat) (u : Nat → Nat → Int32) : Prop :=
  (∀ w, w < j → bt set w = true → u 1 (rk set w) = M 1 w ∧ ∀ i, i < 4 → u 2 (24 * i + rk set w) = renR n set (M 2 (24 * i + w))) ∧ (∀ i x, i ≠ 1 → i ≠ 2 → u i x = M i x) ∧ (∀ x, rk set j ≤ x → u 1 x = M 1 x) ∧ ∀ i x, i < 4 → rk set j ≤ x → x < 24 → u 2 (24 * i + x) = M 2 (24 * i + x)
def KQ (M : Nat → Nat → Int32) (set : Int32) (n j q : Nat) (u : Nat → Nat → Int32) : Prop :=
  (∀ w, w < j → bt set w = true → u 1 (rk set w) = M 1 w ∧ ∀ i, i < 4 → u 2 (24 * i + rk set w) = renR n set (M 2 (24 * i + w))) ∧ (∀ i x, i ≠ 1 → i ≠ 2 → u i x = M i x) ∧ u 1 (rk set j) = M 1 j ∧ (∀ x, rk set j < x → u 1 x = M 1 x) ∧ (∀ i, i < q → u 2 (24 * i + rk set j) = renR n set (M 2 (24 * i + j))) ∧ ∀ i x, i < 4 → (rk set j < x ∨ x = rk set j ∧ q ≤ i) → x < 24 → u 2 (24 * i + x) = M 2 (24 * i + x)
theorem KR_0 {M : Nat → Nat → Int32} {set : Int32} {n : Nat} : KR M set n 0 M := ⟨fun w h => absurd h (by omega), fun _ _ _ _ => rfl, fun _ _ => rfl, fun _ _ _ _ _ => rfl⟩
theorem KR_skip {M u : Nat → Nat → Int32} {set : Int32} {n j : Nat} (h : KR M set n j u) (hb : bt set j = false) : KR M set n (j + 1) u := by
  refine ⟨fun w hw hbw => ?_, h.2.1, fun x hx => h.2.2.1 x (by rw [rk_n hb] at hx; exact hx), fun i x hi hx h24 => h.2.2.2 i x hi (by rw [rk_n hb] at hx; exact hx) h24⟩
  rcases Nat.lt_or_ge w j with q | q
  · exact h.1 w q hbw
  · have : w = j := by omega
    subst this
    rw [hb] at hbw; cases hbw
theorem KQ_0 {M u : Nat → Nat → Int32} {set : Int32} {n j : Nat} (h : KR M set n j u) : KQ M set n j 0 (wr u 1 (rk set j) (M 1 j)) := by
  refine ⟨fun w hw hbw => ?_, fun i x h1 h2 => (wr_ne (Or.inl h1)).trans (h.2.1 i x h1 h2), wr_same, fun x hx => (wr_ne (Or.inr (by omega))).trans (h.2.2.1 x (by omega)), fun i hi => absurd hi (by omega), fun i x hi hx h24 => (wr_ne (Or.inl (by decide))).trans (h.2.2.2 i x hi (by omega) h24)⟩
  have h1 := rk_lt hw hbw
  obtain ⟨a1, a2⟩ := h.1 w hw hbw
  exact ⟨(wr_ne (Or.inr (by omega))).trans a1, fun i hi => (wr_ne (Or.inl (by decide))).trans (a2 i hi)⟩
theorem KQ_s {M u : Nat → Nat → Int32} {set : Int32} {n j q : Nat} (h : KQ M set n j q u) (hq : q < 4) (hj : j < 24) : KQ M set n j (q + 1) (wr u 2 (24 * q + rk set j) (renR n set (M 2 (24 * q + j)))) := by
  obtain ⟨h1, h2, h3, h4, h5, h6⟩ := h
  have hr := rk_le set j
  refine ⟨fun w hw hbw => ?_, fun i x e1 e2 => (wr_ne (Or.inl e2)).trans (h2 i x e1 e2), (wr_ne (Or.inl (by decide))).trans h3, fun x hx => (wr_ne (Or.inl (by decide))).trans (h4 x hx), fun i hi => ?_, fun i x hi hx h24 => ?_⟩
  · have g1 := rk_lt hw hbw
    have g2 := rk_le set w
    obtain ⟨a1, a2⟩ := h1 w hw hbw
    exact ⟨(wr_ne (Or.inl (by decide))).trans a1, fun i hi => (wr_ne (Or.inr (by omega))).trans (a2 i hi)⟩
  · by_cases e : i = q
    · subst e; exact wr_same
    · exact (wr_ne (Or.inr (by omega))).trans (h5 i (by omega))
  · rw [wr_ne (Or.inr (by omega))]
    exact h6 i x hi (by omega) h24
theorem KQ_end {M u : Nat → Nat → Int32} {set : Int32} {n j : Nat} (h : KQ M set n j 4 u) (hb : bt set j = true) : KR M set n (j + 1) u := by
  obtain ⟨h1, h2, h3, h4, h5, h6⟩ := h
  refine ⟨fun w hw hbw => ?_, h2, fun x hx => h4 x (by rw [rk_s hb] at hx; omega), fun i x hi hx h24 => h6 i x hi (by rw [rk_s hb] at hx; omega) h24⟩
  rcases Nat.lt_or_ge w j with q | q
  · exact h1 w q hbw
  · have : w = j := by omega
    subst this
    exact ⟨h3, h5⟩
def KeepRF (M : Nat → Nat → Int32) (n act : Nat) (set : Int32) (u : Nat → Nat → Int32) : Prop := ∃ v, KR M set n n v ∧ u = wr (if n = 0 then v else wr v 0 2 (nI (rk set act))) 0 1 (nI (rk set n))

set_option maxHeartbeats 4000000 in
set_option maxRecDepth 100000 in
theorem c_X5_keep (l : Launch) (D : va_G) (cs : Nat → ClassId) (b : Nat → Nat) (M : Nat → Nat → Int32) (sz : Nat) (hI : kI b 12)  (n : Nat) (act : Nat) (set : Int32) (hn : M 0 1 = nI n) (hn24 : n ≤ 24) (hact : M 0 2 = nI act) (ha24 : 0 < n → act < n) : Met l yX5_keep wsX5_keep ({ frames := 1, cells := 1, slots := 24, locals := 21 } : Room) (va_Pc [.ref (b 0), .int set] (XBs D cs (rc cs b M) sz)) (va_Qi (fun r (u : Nat → Nat → Int32) => r = (nI n - nI (rk set n)) ∧ KeepRF M n act set u) (fun (u : Nat → Nat → Int32) t => va_P D vwCl (rc cs b u) t.heap) (kA b 12 sz)) 1 24 (kA b 12 sz) := by
  refine Met.ofW (cc := cX5_keep) (maxL := 8) (ret := (some .int)) (by decide) rfl ?_
  intro p e s m args below meth c s₁ B hml hv
  obtain ⟨rfl, hsz, hP, hK⟩ := hv
  have hx := B.exec
  have hb := B.bytes
  have hr := B.returns
  have hts := atoms_spec (ws := wsX5_keep) B.pre
  have hown : s.vm.findClass RX5 = some m.cls := findClass_of_methodNamed B.named
  have hlocks := B.notSynchronized
  have hK1 := hK.1
  have hinX5 : ∀ w ∈ wsX50, w ∈ wsX5_keep := fun w h => List.mem_cons_of_mem _ (List.mem_append_right _ h)
  subst hsz
  have hS : va_S (kA b 12 s.heap.size) s.heap s.heap [] := va_S.rf
  have hl := lv_entry ([.ref (b 0), .int set]) (n := 8) (Nat.le_of_ble_eq_true rfl)
  rw [lg_entry_eq]
  generalize (lg_sl ([.ref (b 0), .int set]) ++ List.replicate (8 - (lg_sl ([.ref (b 0), .int set])).length) Slot.unset).toArray = ls at hl ⊢
  have hl : lv_has ls 8 [(0, .ref (b 0)), (1, .int set)] := hl
  refine W_Q (fun Q hQ => ?_)
  show W p l e ({ frames := 1, cells := 1, slots := 24, locals := 21 } : Room) s m ([.ref (b 0), .int set] : List Value).toArray below meth c s.heap [] 0 0 Q (F0 m 0 ls [])
  refine lv_bipush (v := (nI 24)) hx hb dX5_keep_0 (by decide) ?_
  refine xnewi hx hb (hts (.arrayClass .int) (List.mem_of_getElem? (i := 1) rfl)) hK1 hP (rD hI) hS kAn (Nat.le_of_ble_eq_true rfl) (Nat.le_of_ble_eq_true rfl) dX5_keep_2 (fun q2 H hP hD1 hS => ?_)
  have hP : va_P D vwCl (rc1 cs b M q2 (fun _ => 0)) H := hP
  have hD1 : va_D (kA b 12 s.heap.size) (rc1 cs b M q2 (fun _ => 0)) := hD1
  refine W.widen (k := 1) (n := 24) (by decide) (by decide) ?_
  refine lv_astore_n (lv' := [(2, .ref q2), (0, .ref (b 0)), (1, .int set)]) hx hb dX5_keep_4 rfl hl (by decide) rfl (fun ls hl => ?_)
  refine lv_iconst (v := (nI 0)) hx hb dX5_keep_5 (by decide) ?_
  refine lv_istore_n (lv' := [(3, .int (nI 0)), (2, .ref q2), (0, .ref (b 0)), (1, .int set)]) hx hb dX5_keep_6 rfl hl (by decide) rfl (fun ls hl => ?_)
  refine lv_iconst (v := (nI 0)) hx hb dX5_keep_7 (by decide) ?_
  refine lv_istore (lv' := [(4, .int (nI 0)), (3, .int (nI 0)), (2, .ref q2), (0, .ref (b 0)), (1, .int set)]) hx hb dX5_keep_8 hl (by decide) rfl (fun ls hl => ?_)
  have cut10 : ∀ (f10 : Nat) (j : Nat) (Tf : Nat → Int32) (hj : j ≤ n) (hT : ∀ x, x < j → Tf x = nI (rk set x)), n + 1 ≤ j + f10 → ∀ (H : Heap) (locs : List Loc), va_P D vwCl (rc1 cs b M q2 Tf) H → va_S (kA b 12 s.heap.size) s.heap H locs → ∀ (ls : Array Slot), lv_has ls 8 [(0, .ref (b 0)), (1, .int set), (2, .ref q2), (3, .int (nI (rk set j))), (4, .int (nI j))] → W p l e ({ frames := 1, cells := 1, slots := 24, locals := 21 } : Room) s m ([.ref (b 0), .int set] : List Value).toArray below meth c H locs 1 24 Q (F0 m 10 ls []) := by
    intro f10
    induction f10 with
    | zero => intro j Tf hj hT hfu10; exact absurd hfu10 (by omega)
    | succ f10 cut10 =>
      intro j Tf hj hT hfu10 H locs hP hS ls hl
      have hrk := rk_le set j
      refine lv_iload hx hb dX5_keep_10 (lv_at hl 4 rfl) ?_
      refine lv_aload_n hx hb dX5_keep_12 rfl (lv_at hl 0 rfl) ?_
      refine va_get (D := D) (ci := 5) (v := .int (M 0 1)) (C := RX5) (T := TX5) (N := 15) hx hb hts hinX5 hown hK1 hP 0 rfl rfl 1 (by decide) (hts (.fieldLink RX5 48 "KnowledgeModelModel" "worlds" "I") (List.mem_of_getElem? (i := 2) rfl)) (fun _ h9 => h9) rfl dX5_keep_13 ?_
      refine xtop (y := nI n) (hn) ?_
      refine lv_icmp_ge (tgt := 47) hx hb dX5_keep_16 (by decide) (fun c16 => ?_) (fun c16 => ?_)
      ·
        replace c16 : n ≤ j := k_get c16 (by omega) (by omega)
        refine lv_iconst (v := (nI 0)) hx hb dX5_keep_47 (by decide) ?_
        refine lv_istore (lv' := [(4, .int (nI 0)), (0, .ref (b 0)), (1, .int set), (2, .ref q2), (3, .int (nI (rk set j)))]) hx hb dX5_keep_48 hl (by decide) rfl (fun ls hl => ?_)
        have cut50 : ∀ (f50 : Nat) (j : Nat) (Mj : Nat → Nat → Int32) (hj : j ≤ n) (hKR : KR M set n j Mj), n + 1 ≤ j + f50 → ∀ (H : Heap) (locs : List Loc), va_P D vwCl (rc1 cs b Mj q2 Tf) H → va_S (kA b 12 s.heap.size) s.heap H locs → ∀ (ls : Array Slot), lv_has ls 8 [(0, .ref (b 0)), (1, .int set), (2, .ref q2), (3, .int (nI (rk set n))), (4, .int (nI j))] → W p l e ({ frames := 1, cells := 1, slots := 24, locals := 21 } : Room) s m ([.ref (b 0), .int set] : List Value).toArray below meth c H locs 1 24 Q (F0 m 50 ls []) := by
          intro f50
          induction f50 with
          | zero => intro j Mj hj hKR hfu50; exact absurd hfu50 (by omega)
          | succ f50 cut50 =>
            intro j Mj hj hKR hfu50 H locs hP hS ls hl
            have hrk := rk_le set j
            have hrn := rk_le set n
            refine lv_iload hx hb dX5_keep_50 (lv_at hl 4 rfl) ?_
            refine lv_aload_n hx hb dX5_keep_52 rfl (lv_at hl 0 rfl) ?_
            refine va_get (D := D) (ci := 5) (v := .int (Mj 0 1)) (C := RX5) (T := TX5) (N := 15) hx hb hts hinX5 hown hK1 hP 0 rfl rfl 1 (by decide) (hts (.fieldLink RX5 48 "KnowledgeModelModel" "worlds" "I") (List.mem_of_getElem? (i := 2) rfl)) (fun _ h9 => h9) rfl dX5_keep_53 ?_
            refine xtop (y := nI n) (((hKR.2.1 0 1 (by decide) (by decide)).trans hn)) ?_
            refine lv_icmp_ge (tgt := 180) hx hb dX5_keep_56 (by decide) (fun c56 => ?_) (fun c56 => ?_)
            ·
              replace c56 : n ≤ j := k_get c56 (by omega) (by omega)
              refine lv_aload_n hx hb dX5_keep_180 rfl (lv_at hl 0 rfl) ?_
              refine va_get (D := D) (ci := 5) (v := .int (Mj 0 1)) (C := RX5) (T := TX5) (N := 15) hx hb hts hinX5 hown hK1 hP 0 rfl rfl 1 (by decide) (hts (.fieldLink RX5 48 "KnowledgeModelModel" "worlds" "I") (List.mem_of_getElem? (i := 2) rfl)) (fun _ h9 => h9) rfl dX5_keep_181 ?_
              refine xtop (y := nI n) (((hKR.2.1 0 1 (by decide) (by decide)).trans hn)) ?_
              refine lv_iload_n hx hb dX5_keep_184 rfl (lv_at hl 3 rfl) ?_
              refine lv_isub hx hb dX5_keep_185 ?_
              refine lv_istore (lv' := [(4, .int ((nI n) - (nI (rk set n)))), (0, .ref (b 0)), (1, .int set), (2, .ref q2), (3, .int (nI (rk set n)))]) hx hb dX5_keep_186 hl (by decide) rfl (fun ls hl => ?_)
              refine lv_aload_n hx hb dX5_keep_188 rfl (lv_at hl 1 rfl) ?_
              refine va_get (D := D) (ci := 5) (v := .int (Mj 0 1)) (C := RX5) (T := TX5) (N := 15) hx hb hts hinX5 hown hK1 hP 0 rfl rfl 1 (by decide) (hts (.fieldLink RX5 48 "KnowledgeModelModel" "worlds" "I") (List.mem_of_getElem? (i := 2) rfl)) (fun _ h9 => h9) rfl dX5_keep_189 ?_
              refine xtop (y := nI n) (((hKR.2.1 0 1 (by decide) (by decide)).trans hn)) ?_
              refine lv_if_le (tgt := 205) hx hb dX5_keep_192 (by decide) (fun c192 => ?_) (fun c192 => ?_)
              ·
                replace c192 : n ≤ 0 := k0_let c192 (by omega)
                refine lv_aload_n hx hb dX5_keep_205 rfl (lv_at hl 1 rfl) ?_
                refine lv_iload_n hx hb dX5_keep_206 rfl (lv_at hl 4 rfl) ?_
                refine xput (D := D) (ci := 5) (v := .int (nI (rk set n))) (ty := .int) (C := RX5) (T := TX5) (N := 15) (ws' := rc1 cs b (wr Mj 0 1 (nI (rk set n))) q2 Tf) hx hb hts hinX5 tyX5 tyX5_ok nmX5 hown hK1 hP (vD_same hD1 rfl) hS 0 rfl rfl 1 (by decide) (hts (.fieldLink RX5 48 "KnowledgeModelModel" "worlds" "I") (List.mem_of_getElem? (i := 2) rfl)) (fun _ h9 => h9) rfl (by decide +kernel) rfl rfl (Nat.le_of_ble_eq_true rfl) rfl dX5_keep_207 (fun H locs hP hS => ?_)
                obtain ⟨M_1, hM_1⟩ : ∃ z, z = wr Mj 0 1 (nI (rk set n)) := ⟨_, rfl⟩
                rw [← hM_1] at hP
                have hk_2 : M_1 0 2 = nI act := by rw [hM_1]; exact (wr_ne (Or.inr (by decide))).trans ((hKR.2.1 0 2 (by decide) (by decide)).trans hact)
                have hk_3 : M_1 0 1 = nI (rk set n) := by rw [hM_1]; exact wr_same
                refine lv_iload hx hb dX5_keep_210 (lv_at hl 0 rfl) ?_
                subst hQ
                have hP := r1P hP
                have hrel : KeepRF M n act set M_1 := by (have hje : j = n := by omega); subst hje; exact ⟨Mj, hKR, by first | (rw [if_pos (by omega)]; simp only [fo_0, c56, c192, hM_1]) | (rw [if_neg (by omega)]; simp only [fo_0, c56, c192, hM_1])⟩
                have hfin : ((nI n) - (nI (rk set n))) = (nI n - nI (rk set n)) := by rfl
                exact W.iret hx hb hr (fun t ht hW => ⟨⟨_, M_1, rfl, ⟨hfin, hrel⟩, by rw [← ht] at hP; exact hP⟩, hS.F ht⟩) hS.2.2 dX5_keep_212
              ·
                replace c192 : 0 < n := k0_lef c192 (by omega)
                refine lv_aload_n hx hb dX5_keep_195 rfl (lv_at hl 1 rfl) ?_
                refine lv_aload_n hx hb dX5_keep_196 rfl (lv_at hl 3 rfl) ?_
                refine lv_aload_n hx hb dX5_keep_197 rfl (lv_at hl 1 rfl) ?_
                refine va_get (D := D) (ci := 5) (v := .int (Mj 0 2)) (C := RX5) (T := TX5) (N := 15) hx hb hts hinX5 hown hK1 hP 0 rfl rfl 2 (by decide) (hts (.fieldLink RX5 62 "KnowledgeModelModel" "actual" "I") (List.mem_of_getElem? (i := 5) rfl)) (fun _ h9 => h9) rfl dX5_keep_198 ?_
                refine xtop (y := nI act) (((hKR.2.1 0 2 (by decide) (by decide)).trans hact)) ?_
                refine xiald (j := act) (q0 := 12) (t0 := 0) hx hb hK1 hP rfl rfl (by omega) (by decide) dX5_keep_201 ?_
                refine xtop (y := (nI (rk set act))) (by exact hT act (by omega)) ?_
                refine xput (D := D) (ci := 5) (v := .int (nI (rk set act))) (ty := .int) (C := RX5) (T := TX5) (N := 15) (ws' := rc1 cs b (wr Mj 0 2 (nI (rk set act))) q2 Tf) hx hb hts hinX5 tyX5 tyX5_ok nmX5 hown hK1 hP (vD_same hD1 rfl) hS 0 rfl rfl 2 (by decide) (hts (.fieldLink RX5 62 "KnowledgeModelModel" "actual" "I") (List.mem_of_getElem? (i := 5) rfl)) (fun _ h9 => h9) rfl (by decide +kernel) rfl rfl (Nat.le_of_ble_eq_true rfl) rfl dX5_keep_202 (fun H locs hP hS => ?_)
                obtain ⟨M_4, hM_4⟩ : ∃ z, z = wr Mj 0 2 (nI (rk set act)) := ⟨_, rfl⟩
                rw [← hM_4] at hP
                have hk_5 : M_4 0 1 = nI n := by rw [hM_4]; exact (wr_ne (Or.inr (by decide))).trans ((hKR.2.1 0 1 (by decide) (by decide)).trans hn)
                have hk_6 : M_4 0 2 = nI (rk set act) := by rw [hM_4]; exact wr_same
                refine lv_aload_n hx hb dX5_keep_205 rfl (lv_at hl 1 rfl) ?_
                refine lv_iload_n hx hb dX5_keep_206 rfl (lv_at hl 4 rfl) ?_
                refine xput (D := D) (ci := 5) (v := .int (nI (rk set n))) (ty := .int) (C := RX5) (T := TX5) (N := 15) (ws' := rc1 cs b (wr M_4 0 1 (nI (rk set n))) q2 Tf) hx hb hts hinX5 tyX5 tyX5_ok nmX5 hown hK1 hP (vD_same hD1 rfl) hS 0 rfl rfl 1 (by decide) (hts (.fieldLink RX5 48 "KnowledgeModelModel" "worlds" "I") (List.mem_of_getElem? (i := 2) rfl)) (fun _ h9 => h9) rfl (by decide +kernel) rfl rfl (Nat.le_of_ble_eq_true rfl) rfl dX5_keep_207 (fun H locs hP hS => ?_)
                obtain ⟨M_7, hM_7⟩ : ∃ z, z = wr M_4 0 1 (nI (rk set n)) := ⟨_, rfl⟩
                rw [← hM_7] at hP
                have hk_8 : M_7 0 2 = nI (rk set act) := by rw [hM_7]; exact (wr_ne (Or.inr (by decide))).trans hk_6
                have hk_9 : M_7 0 1 = nI (rk set n) := by rw [hM_7]; exact wr_same
                refine lv_iload hx hb dX5_keep_210 (lv_at hl 0 rfl) ?_
                subst hQ
                have hP := r1P hP
                have hrel : KeepRF M n act set M_7 := by (have hje : j = n := by omega); subst hje; exact ⟨Mj, hKR, by first | (rw [if_pos (by omega)]; simp only [fo_0, c56, c192, hM_4, hM_7]) | (rw [if_neg (by omega)]; simp only [fo_0, c56, c192, hM_4, hM_7])⟩
                have hfin : ((nI n) - (nI (rk set n))) = (nI n - nI (rk set n)) := by rfl
                exact W.iret hx hb hr (fun t ht hW => ⟨⟨_, M_7, rfl, ⟨hfin, hrel⟩, by rw [← ht] at hP; exact hP⟩, hS.F ht⟩) hS.2.2 dX5_keep_212
            ·
              replace c56 : j < n := k_gef c56 (by omega) (by omega)
              refine lv_iload_n hx hb dX5_keep_59 rfl (lv_at hl 1 rfl) ?_
              refine lv_iload hx hb dX5_keep_60 (lv_at hl 4 rfl) ?_
              refine xcalli (va_runS (As := [.int set, .int (nI j)]) (rest := []) ⟨hx, hb, hml, hown, hts⟩ (c_X5_has l set j (by omega)) (va_cwS 2 hts gX5_keep_X5_has rfl rfl rfl (by decide +kernel) ⟨Nat.le_of_ble_eq_true rfl, Nat.le_of_ble_eq_true rfl⟩) xpreN rfl rfl hl.1 rfl (lv_room (Nat.le_of_ble_eq_true rfl)) dX5_keep_62 ⟨Nat.le_of_ble_eq_true rfl, Nat.le_of_ble_eq_true rfl⟩) hS hP (fun H locs hP hS => ?_)
              refine lv_if_ne (tgt := 71) hx hb dX5_keep_65 (by decide) (fun c65 => ?_) (fun c65 => ?_)
              ·
                replace c65 := bI_n0 c65
                refine lv_aload_n hx hb dX5_keep_71 rfl (lv_at hl 0 rfl) ?_
                refine va_get (D := D) (ci := 5) (v := .ref (b 1)) (C := RX5) (T := TX5) (N := 15) hx hb hts hinX5 hown hK1 hP 0 rfl rfl 3 (by decide) (hts (.fieldLink RX5 9 "KnowledgeModelModel" "atoms" "[I") (List.mem_of_getElem? (i := 3) rfl)) (fun _ h9 => h9) rfl dX5_keep_72 ?_
                refine lv_aload_n hx hb dX5_keep_75 rfl (lv_at hl 2 rfl) ?_
                refine lv_iload hx hb dX5_keep_76 (lv_at hl 4 rfl) ?_
                refine xiald (j := j) (q0 := 12) (t0 := 0) hx hb hK1 hP rfl rfl (by omega) (by decide) dX5_keep_78 ?_
                refine xtop (y := (nI (rk set j))) (by exact hT j (by omega)) ?_
                refine lv_aload_n hx hb dX5_keep_79 rfl (lv_at hl 0 rfl) ?_
                refine va_get (D := D) (ci := 5) (v := .ref (b 1)) (C := RX5) (T := TX5) (N := 15) hx hb hts hinX5 hown hK1 hP 0 rfl rfl 3 (by decide) (hts (.fieldLink RX5 9 "KnowledgeModelModel" "atoms" "[I") (List.mem_of_getElem? (i := 3) rfl)) (fun _ h9 => h9) rfl dX5_keep_80 ?_
                refine lv_iload hx hb dX5_keep_83 (lv_at hl 4 rfl) ?_
                refine xiald (j := j) (q0 := 1) (t0 := 0) hx hb hK1 hP rfl rfl (by omega) (by decide) dX5_keep_85 ?_
                refine xtop (y := (M 1 j)) (by exact hKR.2.2.1 j (by omega)) ?_
                refine lv_topi (fun x_10 hx_10 => ?_)
                refine xiast (j := rk set j) (q0 := 1) (t0 := 0) (ws' := rc1 cs b (wr Mj 1 (rk set j) x_10) q2 Tf) hx hb hK1 hP (vD_same hD1 rfl) hS rfl rfl (by omega) (by decide) rfl dX5_keep_86 (fun H locs hP hS => ?_)
                obtain ⟨M_11, hM_11⟩ : ∃ z, z = wr Mj 1 (rk set j) x_10 := ⟨_, rfl⟩
                rw [← hM_11] at hP
                have hk_12 : M_11 0 1 = nI n := by rw [hM_11]; exact (wr_ne (Or.inl (by omega))).trans ((hKR.2.1 0 1 (by decide) (by decide)).trans hn)
                have hk_13 : M_11 0 2 = nI act := by rw [hM_11]; exact (wr_ne (Or.inl (by omega))).trans ((hKR.2.1 0 2 (by decide) (by decide)).trans hact)
                refine lv_iconst (v := (nI 0)) hx hb dX5_keep_87 (by decide) ?_
                refine lv_istore (lv' := [(5, .int (nI 0)), (0, .ref (b 0)), (1, .int set), (2, .ref q2), (3, .int (nI (rk set n))), (4, .int (nI j))]) hx hb dX5_keep_88 hl (by decide) rfl (fun ls hl => ?_)
                have cut90 : ∀ (f90 : Nat) (q : Nat) (Mq : Nat → Nat → Int32) (hq : q ≤ 4) (hKQ : KQ M set n j q Mq), 4 + 1 ≤ q + f90 → ∀ (H : Heap) (locs : List Loc), va_P D vwCl (rc1 cs b Mq q2 Tf) H → va_S (kA b 12 s.heap.size) s.heap H locs → ∀ (ls : Array Slot), lv_has ls 8 [(0, .ref (b 0)), (1, .int set), (2, .ref q2), (3, .int (nI (rk set n))), (4, .int (nI j)), (5, .int (nI q))] → W p l e ({ frames := 1, cells := 1, slots := 24, locals := 21 } : Room) s m ([.ref (b 0), .int set] : List Value).toArray below meth c H locs 1 24 Q (F0 m 90 ls []) := by
                  intro f90
                  induction f90 with
                  | zero => intro q Mq hq hKQ hfu90; exact absurd hfu90 (by omega)
                  | succ f90 cut90 =>
                    intro q Mq hq hKQ hfu90 H locs hP hS ls hl
                    refine lv_iload hx hb dX5_keep_90 (lv_at hl 5 rfl) ?_
                    refine lv_iconst (v := (nI 4)) hx hb dX5_keep_92 (by decide) ?_
                    refine lv_icmp_ge (tgt := 174) hx hb dX5_keep_93 (by decide) (fun c93 => ?_) (fun c93 => ?_)
                    ·
                      replace c93 : 4 ≤ q := k_get c93 (by omega) (by omega)
                      refine lv_iinc (v := (nI (j + 1))) (lv' := [(4, .int (nI (j + 1))), (0, .ref (b 0)), (1, .int set), (2, .ref q2), (3, .int (nI (rk set n))), (5, .int (nI q))]) hx hb dX5_keep_174 hl (k := 4) rfl (nI_add j 1) (by decide) rfl (fun ls hl => ?_)
                      refine lv_goto (tgt := 50) hx hb dX5_keep_177 (by decide) ?_
                      exact cut50 (j + 1) Mq (by omega) (by first | exact KR_skip hKR c65 | ((have hqe : q = 4 := by omega); subst hqe; exact KQ_end hKQ c65)) (by omega) _ _ hP hS ls (lcons (lcons (lcons (lcons (lcons (lzero hl) hl 0 rfl rfl) hl 4 rfl rfl) hl 3 rfl rfl) hl 2 rfl rfl) hl 1 rfl rfl)
                    ·
                      replace c93 : q < 4 := k_gef c93 (by omega) (by omega)
                      refine lv_iconst (v := (nI 0)) hx hb dX5_keep_96 (by decide) ?_
                      refine lv_istore (lv' := [(6, .int (nI 0)), (0, .ref (b 0)), (1, .int set), (2, .ref q2), (3, .int (nI (rk set n))), (4, .int (nI j)), (5, .int (nI q))]) hx hb dX5_keep_97 hl (by decide) rfl (fun ls hl => ?_)
                      refine lv_iconst (v := (nI 0)) hx hb dX5_keep_99 (by decide) ?_
                      refine lv_istore (lv' := [(7, .int (nI 0)), (6, .int (nI 0)), (0, .ref (b 0)), (1, .int set), (2, .ref q2), (3, .int (nI (rk set n))), (4, .int (nI j)), (5, .int (nI q))]) hx hb dX5_keep_100 hl (by decide) rfl (fun ls hl => ?_)
                      have cut102 : ∀ (f102 : Nat) (t : Nat) (ht : t ≤ n), n + 1 ≤ t + f102 → ∀ (H : Heap) (locs : List Loc), va_P D vwCl (rc1 cs b Mq q2 Tf) H → va_S (kA b 12 s.heap.size) s.heap H locs → ∀ (ls : Array Slot), lv_has ls 8 [(0, .ref (b 0)), (1, .int set), (2, .ref q2), (3, .int (nI (rk set n))), (4, .int (nI j)), (5, .int (nI q)), (6, .int (fo (fun v r => if bt (M 2 (24 * q + j) &&& set) v then r ||| sg (rk set v) else r) (nI 0) t)), (7, .int (nI t))] → W p l e ({ frames := 1, cells := 1, slots := 24, locals := 21 } : Room) s m ([.ref (b 0), .int set] : List Value).toArray below meth c H locs 1 24 Q (F0 m 102 ls []) := by
                        intro f102
                        induction f102 with
                        | zero => intro t ht hfu102; exact absurd hfu102 (by omega)
                        | succ f102 cut102 =>
                          intro t ht hfu102 H locs hP hS ls hl
                          refine lv_iload hx hb dX5_keep_102 (lv_at hl 7 rfl) ?_
                          refine lv_aload_n hx hb dX5_keep_104 rfl (lv_at hl 0 rfl) ?_
                          refine va_get (D := D) (ci := 5) (v := .int (Mq 0 1)) (C := RX5) (T := TX5) (N := 15) hx hb hts hinX5 hown hK1 hP 0 rfl rfl 1 (by decide) (hts (.fieldLink RX5 48 "KnowledgeModelModel" "worlds" "I") (List.mem_of_getElem? (i := 2) rfl)) (fun _ h9 => h9) rfl dX5_keep_105 ?_
                          refine xtop (y := nI n) (((hKQ.2.1 0 1 (by decide) (by decide)).trans hn)) ?_
                          refine lv_icmp_ge (tgt := 151) hx hb dX5_keep_108 (by decide) (fun c108 => ?_) (fun c108 => ?_)
                          ·
                            replace c108 : n ≤ t := k_get c108 (by omega) (by omega)
                            refine lv_aload_n hx hb dX5_keep_151 rfl (lv_at hl 0 rfl) ?_
                            refine va_get (D := D) (ci := 5) (v := .ref (b 2)) (C := RX5) (T := TX5) (N := 15) hx hb hts hinX5 hown hK1 hP 0 rfl rfl 4 (by decide) (hts (.fieldLink RX5 13 "KnowledgeModelModel" "seen" "[I") (List.mem_of_getElem? (i := 4) rfl)) (fun _ h9 => h9) rfl dX5_keep_152 ?_
                            refine lv_bipush (v := (nI 24)) hx hb dX5_keep_155 (by decide) ?_
                            refine lv_iload hx hb dX5_keep_157 (lv_at hl 5 rfl) ?_
                            refine ximul hx hb dX5_keep_159 ?_
                            refine lv_aload_n hx hb dX5_keep_160 rfl (lv_at hl 2 rfl) ?_
                            refine lv_iload hx hb dX5_keep_161 (lv_at hl 4 rfl) ?_
                            refine xiald (j := j) (q0 := 12) (t0 := 0) hx hb hK1 hP rfl rfl (by omega) (by decide) dX5_keep_163 ?_
                            refine xtop (y := (nI (rk set j))) (by exact hT j (by omega)) ?_
                            refine xiadd hx hb dX5_keep_164 ?_
                            refine lv_iload hx hb dX5_keep_165 (lv_at hl 6 rfl) ?_
                            refine lv_topi (fun x_14 hx_14 => ?_)
                            refine xiast (j := (24 * q) + (rk set j)) (q0 := 2) (t0 := 0) (ws' := rc1 cs b (wr Mq 2 ((24 * q) + (rk set j)) x_14) q2 Tf) hx hb hK1 hP (vD_same hD1 rfl) hS rfl rfl (by omega) (by decide) rfl dX5_keep_167 (fun H locs hP hS => ?_)
                            obtain ⟨M_15, hM_15⟩ : ∃ z, z = wr Mq 2 ((24 * q) + (rk set j)) x_14 := ⟨_, rfl⟩
                            rw [← hM_15] at hP
                            have hk_16 : M_15 0 1 = nI n := by rw [hM_15]; exact (wr_ne (Or.inl (by omega))).trans ((hKQ.2.1 0 1 (by decide) (by decide)).trans hn)
                            have hk_17 : M_15 0 2 = nI act := by rw [hM_15]; exact (wr_ne (Or.inl (by omega))).trans ((hKQ.2.1 0 2 (by decide) (by decide)).trans hact)
                            refine lv_iinc (v := (nI (q + 1))) (lv' := [(5, .int (nI (q + 1))), (0, .ref (b 0)), (1, .int set), (2, .ref q2), (3, .int (nI (rk set n))), (4, .int (nI j)), (6, .int (fo (fun v r => if bt (M 2 (24 * q + j) &&& set) v then r ||| sg (rk set v) else r) (nI 0) t)), (7, .int (nI t))]) hx hb dX5_keep_168 hl (k := 5) rfl (nI_add q 1) (by decide) rfl (fun ls hl => ?_)
                            refine lv_goto (tgt := 90) hx hb dX5_keep_171 (by decide) ?_
                            exact cut90 (q + 1) M_15 (by omega) (by (have hve : t = n := by omega); subst hve; simp only [fo_0, c93, c108, hx_14, hM_15]; exact KQ_s hKQ c93 (by omega)) (by omega) _ _ hP hS ls (lcons (lcons (lcons (lcons (lcons (lcons (lzero hl) hl 0 rfl rfl) hl 5 rfl rfl) hl 4 rfl rfl) hl 3 rfl rfl) hl 2 rfl rfl) hl 1 rfl rfl)
                          ·
                            replace c108 : t < n := k_gef c108 (by omega) (by omega)
                            refine lv_aload_n hx hb dX5_keep_111 rfl (lv_at hl 0 rfl) ?_
                            refine va_get (D := D) (ci := 5) (v := .ref (b 2)) (C := RX5) (T := TX5) (N := 15) hx hb hts hinX5 hown hK1 hP 0 rfl rfl 4 (by decide) (hts (.fieldLink RX5 13 "KnowledgeModelModel" "seen" "[I") (List.mem_of_getElem? (i := 4) rfl)) (fun _ h9 => h9) rfl dX5_keep_112 ?_
                            refine lv_bipush (v := (nI 24)) hx hb dX5_keep_115 (by decide) ?_
                            refine lv_iload hx hb dX5_keep_117 (lv_at hl 5 rfl) ?_
                            refine ximul hx hb dX5_keep_119 ?_
                            refine lv_iload hx hb dX5_keep_120 (lv_at hl 4 rfl) ?_
                            refine xiadd hx hb dX5_keep_122 ?_
                            refine xiald (j := (24 * q) + j) (q0 := 2) (t0 := 0) hx hb hK1 hP rfl rfl (by omega) (by decide) dX5_keep_123 ?_
                            refine xtop (y := (M 2 (24 * q + j))) (by exact hKQ.2.2.2.2.2 q j (by omega) (by omega) (by omega)) ?_
                            refine lv_iload_n hx hb dX5_keep_124 rfl (lv_at hl 1 rfl) ?_
                            refine lv_iand hx hb dX5_keep_125 ?_
                            refine lv_iload hx hb dX5_keep_126 (lv_at hl 7 rfl) ?_
                            refine xcalli (va_runS (As := [.int ((M 2 (24 * q + j)) &&& set), .int (nI t)]) (rest := []) ⟨hx, hb, hml, hown, hts⟩ (c_X5_has l ((M 2 (24 * q + j)) &&& set) t (by omega)) (va_cwS 2 hts gX5_keep_X5_has rfl rfl rfl (by decide +kernel) ⟨Nat.le_of_ble_eq_true rfl, Nat.le_of_ble_eq_true rfl⟩) xpreN rfl rfl hl.1 rfl (lv_room (Nat.le_of_ble_eq_true rfl)) dX5_keep_128 ⟨Nat.le_of_ble_eq_true rfl, Nat.le_of_ble_eq_true rfl⟩) hS hP (fun H locs hP hS => ?_)
                            refine lv_if_eq (tgt := 145) hx hb dX5_keep_131 (by decide) (fun c131 => ?_) (fun c131 => ?_)
                            ·
                              replace c131 := bI_0 c131
                              refine lv_iinc (v := (nI (t + 1))) (lv' := [(7, .int (nI (t + 1))), (0, .ref (b 0)), (1, .int set), (2, .ref q2), (3, .int (nI (rk set n))), (4, .int (nI j)), (5, .int (nI q)), (6, .int (fo (fun v r => if bt (M 2 (24 * q + j) &&& set) v then r ||| sg (rk set v) else r) (nI 0) t))]) hx hb dX5_keep_145 hl (k := 7) rfl (nI_add t 1) (by decide) rfl (fun ls hl => ?_)
                              refine lv_goto (tgt := 102) hx hb dX5_keep_148 (by decide) ?_
                              have e_18 : (fo (fun v r => if bt (M 2 (24 * q + j) &&& set) v then r ||| sg (rk set v) else r) (nI 0) t) = (fo (fun v r => if bt (M 2 (24 * q + j) &&& set) v then r ||| sg (rk set v) else r) (nI 0) (t + 1)) := by first | (rw [fo_s, if_neg (by rw [c131]; exact Bool.false_ne_true)]; done) | (rw [fo_s, if_pos c131]; assumption)
                              exact cut102 (t + 1) (by omega) (by omega) _ _ hP hS ls (lcons (lcons (lcons (lcons (lcons (lcons (lcons (lcons (lzero hl) hl 0 rfl rfl) hl 7 rfl (congrArg Value.int e_18)) hl 6 rfl rfl) hl 5 rfl rfl) hl 4 rfl rfl) hl 3 rfl rfl) hl 2 rfl rfl) hl 1 rfl rfl)
                            ·
                              replace c131 := bI_n0 c131
                              refine lv_iload hx hb dX5_keep_134 (lv_at hl 6 rfl) ?_
                              refine lv_iconst (v := (nI 1)) hx hb dX5_keep_136 (by decide) ?_
                              refine lv_aload_n hx hb dX5_keep_137 rfl (lv_at hl 2 rfl) ?_
                              refine lv_iload hx hb dX5_keep_138 (lv_at hl 7 rfl) ?_
                              refine xiald (j := t) (q0 := 12) (t0 := 0) hx hb hK1 hP rfl rfl (by omega) (by decide) dX5_keep_140 ?_
                              refine xtop (y := (nI (rk set t))) (by exact hT t (by omega)) ?_
                              refine lv_ishl hx hb dX5_keep_141 ?_
                              refine lv_ior hx hb dX5_keep_142 ?_
                              refine lv_topi (fun x_19 hx_19 => ?_)
                              refine lv_istore (lv' := [(6, .int x_19), (0, .ref (b 0)), (1, .int set), (2, .ref q2), (3, .int (nI (rk set n))), (4, .int (nI j)), (5, .int (nI q)), (7, .int (nI t))]) hx hb dX5_keep_143 hl (by decide) rfl (fun ls hl => ?_)
                              refine lv_iinc (v := (nI (t + 1))) (lv' := [(7, .int (nI (t + 1))), (6, .int x_19), (0, .ref (b 0)), (1, .int set), (2, .ref q2), (3, .int (nI (rk set n))), (4, .int (nI j)), (5, .int (nI q))]) hx hb dX5_keep_145 hl (k := 7) rfl (nI_add t 1) (by decide) rfl (fun ls hl => ?_)
                              refine lv_goto (tgt := 102) hx hb dX5_keep_148 (by decide) ?_
                              have e_20 : x_19 = (fo (fun v r => if bt (M 2 (24 * q + j) &&& set) v then r ||| sg (rk set v) else r) (nI 0) (t + 1)) := by first | (rw [fo_s, if_neg (by rw [c131]; exact Bool.false_ne_true)]; done) | (rw [fo_s, if_pos c131]; assumption)
                              exact cut102 (t + 1) (by omega) (by omega) _ _ hP hS ls (lcons (lcons (lcons (lcons (lcons (lcons (lcons (lcons (lzero hl) hl 0 rfl rfl) hl 1 rfl (congrArg Value.int e_20)) hl 7 rfl rfl) hl 6 rfl rfl) hl 5 rfl rfl) hl 4 rfl rfl) hl 3 rfl rfl) hl 2 rfl rfl)
                      have e_21 : (nI 0) = (fo (fun v r => if bt (M 2 (24 * q + j) &&& set) v then r ||| sg (rk set v) else r) (nI 0) 0) := by rfl
                      exact cut102 (n + 1) 0 (by omega) (by omega) _ _ hP hS ls (lcons (lcons (lcons (lcons (lcons (lcons (lcons (lcons (lzero hl) hl 0 rfl rfl) hl 1 rfl (congrArg Value.int e_21)) hl 7 rfl rfl) hl 6 rfl rfl) hl 5 rfl rfl) hl 4 rfl rfl) hl 3 rfl rfl) hl 2 rfl rfl)
                exact cut90 (4 + 1) 0 M_11 (by omega) (by simp only [fo_0, c56, c65, hx_10, hM_11]; exact KQ_0 hKR) (by omega) _ _ hP hS ls (lcons (lcons (lcons (lcons (lcons (lcons (lzero hl) hl 0 rfl rfl) hl 5 rfl rfl) hl 4 rfl rfl) hl 3 rfl rfl) hl 2 rfl rfl) hl 1 rfl rfl)
              ·
                replace c65 := bI_0 c65
                refine lv_goto (tgt := 174) hx hb dX5_keep_68 (by decide) ?_
                refine lv_iinc (v := (nI (j + 1))) (lv' := [(4, .int (nI (j + 1))), (0, .ref (b 0)), (1, .int set), (2, .ref q2), (3, .int (nI (rk set n)))]) hx hb dX5_keep_174 hl (k := 4) rfl (nI_add j 1) (by decide) rfl (fun ls hl => ?_)
                refine lv_goto (tgt := 50) hx hb dX5_keep_177 (by decide) ?_
                exact cut50 (j + 1) Mj (by omega) (by first | exact KR_skip hKR c65 | ((have hqe : q = 4 := by omega); subst hqe; exact KQ_end hKQ c65)) (by omega) _ _ hP hS ls (lcons (lcons (lcons (lcons (lcons (lzero hl) hl 0 rfl rfl) hl 4 rfl rfl) hl 3 rfl rfl) hl 2 rfl rfl) hl 1 rfl rfl)
        have e_22 : (nI (rk set j)) = (nI (rk set n)) := by rw [show j = n by omega]
        exact cut50 (n + 1) 0 M (by omega) (by exact KR_0) (by omega) _ _ hP hS ls (lcons (lcons (lcons (lcons (lcons (lzero hl) hl 0 rfl rfl) hl 4 rfl (congrArg Value.int e_22)) hl 3 rfl rfl) hl 2 rfl rfl) hl 1 rfl rfl)
      ·
        replace c16 : j < n := k_gef c16 (by omega) (by omega)
        refine lv_aload_n hx hb dX5_keep_19 rfl (lv_at hl 2 rfl) ?_
        refine lv_iload hx hb dX5_keep_20 (lv_at hl 4 rfl) ?_
        refine lv_iload_n hx hb dX5_keep_22 rfl (lv_at hl 3 rfl) ?_
        refine xiast (j := j) (q0 := 12) (t0 := 0) (ws' := rc1 cs b M q2 (upd Tf j (nI (rk set j)))) hx hb hK1 hP (vD_same hD1 rfl) hS rfl rfl (by omega) (by decide) rfl dX5_keep_23 (fun H locs hP hS => ?_)
        obtain ⟨T_23, hT_23⟩ : ∃ z, z = upd Tf j (nI (rk set j)) := ⟨_, rfl⟩
        rw [← hT_23] at hP
        refine lv_iload_n hx hb dX5_keep_24 rfl (lv_at hl 3 rfl) ?_
        refine lv_iload_n hx hb dX5_keep_25 rfl (lv_at hl 1 rfl) ?_
        refine lv_iload hx hb dX5_keep_26 (lv_at hl 4 rfl) ?_
        refine xcalli (va_runS (As := [.int set, .int (nI j)]) (rest := [.int (nI (rk set j))]) ⟨hx, hb, hml, hown, hts⟩ (c_X5_has l set j (by omega)) (va_cwS 2 hts gX5_keep_X5_has rfl rfl rfl (by decide +kernel) ⟨Nat.le_of_ble_eq_true rfl, Nat.le_of_ble_eq_true rfl⟩) xpreN rfl rfl hl.1 rfl (lv_room (Nat.le_of_ble_eq_true rfl)) dX5_keep_28 ⟨Nat.le_of_ble_eq_true rfl, Nat.le_of_ble_eq_true rfl⟩) hS hP (fun H locs hP hS => ?_)
        refine lv_if_eq (tgt := 38) hx hb dX5_keep_31 (by decide) (fun c31 => ?_) (fun c31 => ?_)
        ·
          replace c31 := bI_0 c31
          refine lv_iconst (v := (nI 0)) hx hb dX5_keep_38 (by decide) ?_
          refine xiadd hx hb dX5_keep_39 ?_
          refine lv_istore_n (lv' := [(3, .int (nI ((rk set j) + 0))), (0, .ref (b 0)), (1, .int set), (2, .ref q2), (4, .int (nI j))]) hx hb dX5_keep_40 rfl hl (by decide) rfl (fun ls hl => ?_)
          refine lv_iinc (v := (nI (j + 1))) (lv' := [(4, .int (nI (j + 1))), (3, .int (nI ((rk set j) + 0))), (0, .ref (b 0)), (1, .int set), (2, .ref q2)]) hx hb dX5_keep_41 hl (k := 4) rfl (nI_add j 1) (by decide) rfl (fun ls hl => ?_)
          refine lv_goto (tgt := 10) hx hb dX5_keep_44 (by decide) ?_
          have e_24 : (nI ((rk set j) + 0)) = (nI (rk set (j + 1))) := by first | (rw [rk_n c31]; rfl) | rw [rk_s c31]
          exact cut10 (j + 1) T_23 (by omega) (by intro x hx; simp only [upd, c16, hT_23, c31]; by_cases e : x = j; (rw [if_pos e, e]); (rw [if_neg e]; exact hT x (by omega))) (by omega) _ _ hP hS ls (lcons (lcons (lcons (lcons (lcons (lzero hl) hl 0 rfl rfl) hl 1 rfl (congrArg Value.int e_24)) hl 4 rfl rfl) hl 3 rfl rfl) hl 2 rfl rfl)
        ·
          replace c31 := bI_n0 c31
          refine lv_iconst (v := (nI 1)) hx hb dX5_keep_34 (by decide) ?_
          refine lv_goto (tgt := 39) hx hb dX5_keep_35 (by decide) ?_
          refine xiadd hx hb dX5_keep_39 ?_
          refine lv_istore_n (lv' := [(3, .int (nI ((rk set j) + 1))), (0, .ref (b 0)), (1, .int set), (2, .ref q2), (4, .int (nI j))]) hx hb dX5_keep_40 rfl hl (by decide) rfl (fun ls hl => ?_)
          refine lv_iinc (v := (nI (j + 1))) (lv' := [(4, .int (nI (j + 1))), (3, .int (nI ((rk set j) + 1))), (0, .ref (b 0)), (1, .int set), (2, .ref q2)]) hx hb dX5_keep_41 hl (k := 4) rfl (nI_add j 1) (by decide) rfl (fun ls hl => ?_)
          refine lv_goto (tgt := 10) hx hb dX5_keep_44 (by decide) ?_
          have e_25 : (nI ((rk set j) + 1)) = (nI (rk set (j + 1))) := by first | (rw [rk_n c31]; rfl) | rw [rk_s c31]
          exact cut10 (j + 1) T_23 (by omega) (by intro x hx; simp only [upd, c16, hT_23, c31]; by_cases e : x = j; (rw [if_pos e, e]); (rw [if_neg e]; exact hT x (by omega))) (by omega) _ _ hP hS ls (lcons (lcons (lcons (lcons (lcons (lzero hl) hl 0 rfl rfl) hl 1 rfl (congrArg Value.int e_25)) hl 4 rfl rfl) hl 3 rfl rfl) hl 2 rfl rfl)
  have e_26 : (nI 0) = (nI (rk set 0)) := by rfl
  exact cut10 (n + 1) 0 (fun _ => 0) (by omega) (by intro x hx; omega) (by omega) _ _ hP hS ls (lcons (lcons (lcons (lcons (lcons (lzero hl) hl 0 rfl rfl) hl 1 rfl (congrArg Value.int e_26)) hl 2 rfl rfl) hl 4 rfl rfl) hl 3 rfl rfl)


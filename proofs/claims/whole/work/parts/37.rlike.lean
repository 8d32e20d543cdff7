theorem fst_spec (p : Nat → Bool) : ∀ n, (fstB p n < n → p (fstB p n) = true) ∧ ∀ v, v < fstB p n → p v = false
  | 0 => ⟨fun h => absurd h (Nat.not_lt_zero _), fun v h => absurd h (Nat.not_lt_zero v)⟩
  | n + 1 => by
    obtain ⟨h1, h2⟩ := fst_spec p n
    have hle := fst_le p n
    show ((if fstB p n < n then fstB p n else if p n then n else n + 1) < n + 1 → p (if fstB p n < n then fstB p n else if p n then n else n + 1) = true) ∧ ∀ v, v < (if fstB p n < n then fstB p n else if p n then n else n + 1) → p v = false
    by_cases c : fstB p n < n
    · rw [if_pos c]; exact ⟨fun _ => h1 c, h2⟩
    · have e : fstB p n = n := by omega
      rw [e] at h2
      rw [if_neg c]
      cases hp : p n with
      | true => exact ⟨fun _ => hp, h2⟩
      | false =>
        refine ⟨fun h => absurd h (Nat.lt_irrefl _), fun v hv => ?_⟩
        have hv2 : v < n + 1 := hv
        rcases Nat.lt_or_ge v n with q | q
        · exact h2 v q
        · rw [show v = n by omega]; exact hp
def sameP (M : Nat → Nat → Int32) (n : Nat) (lk : Nat → Nat) (v w : Nat) : Bool := decide (lk v = lk w) && decide (M 1 v = M 1 w) && allB (fun i => decide (clsIn n lk (M 2 (24 * i + v)) = clsIn n lk (M 2 (24 * i + w)))) 4
theorem sameP_iff {M : Nat → Nat → Int32} {n : Nat} {lk : Nat → Nat} {v w : Nat} : sameP M n lk v w = true ↔ lk v = lk w ∧ M 1 v = M 1 w ∧ ∀ i, i < 4 → clsIn n lk (M 2 (24 * i + v)) = clsIn n lk (M 2 (24 * i + w)) := by
  unfold sameP
  rw [Bool.and_eq_true, Bool.and_eq_true, decide_eq_true_eq, decide_eq_true_eq, allB_iff]
  constructor
  · rintro ⟨⟨h1, h2⟩, h3⟩; exact ⟨h1, h2, fun i hi => of_decide_eq_true (h3 i hi)⟩
  · rintro ⟨h1, h2, h3⟩; exact ⟨⟨h1, h2⟩, fun i hi => decide_eq_true (h3 i hi)⟩
theorem sameP_t {M : Nat → Nat → Int32} {n : Nat} {lk : Nat → Nat} {u v w : Nat} (h : sameP M n lk u v = true) (h2 : sameP M n lk v w = true) : sameP M n lk u w = true := by
  rw [sameP_iff] at h h2 ⊢
  exact ⟨h.1.trans h2.1, h.2.1.trans h2.2.1, fun i hi => (h.2.2 i hi).trans (h2.2.2 i hi)⟩
theorem sameP_s {M : Nat → Nat → Int32} {n : Nat} {lk : Nat → Nat} {v w : Nat} (h : sameP M n lk v w = true) : sameP M n lk w v = true := by
  rw [sameP_iff] at h ⊢
  exact ⟨h.1.symm, h.2.1.symm, fun i hi => (h.2.2 i hi).symm⟩
theorem sameP_r {M : Nat → Nat → Int32} {n : Nat} {lk : Nat → Nat} {w : Nat} : sameP M n lk w w = true := sameP_iff.mpr ⟨rfl, rfl, fun _ _ => rfl⟩
/-- the smallest world that is the same as w -/
def cf (M : Nat → Nat → Int32) (n : Nat) (lk : Nat → Nat) (w : Nat) : Nat := fstB (fun v => sameP M n lk v w) w
theorem cf_le (M : Nat → Nat → Int32) (n : Nat) (lk : Nat → Nat) (w : Nat) : cf M n lk w ≤ w := fst_le _ _
theorem cf_same (M : Nat → Nat → Int32) (n : Nat) (lk : Nat → Nat) (w : Nat) : sameP M n lk (cf M n lk w) w = true := by
  rcases Nat.lt_or_ge (cf M n lk w) w with h | h
  · exact (fst_spec (fun v => sameP M n lk v w) w).1 h
  · rw [show cf M n lk w = w from Nat.le_antisymm (cf_le M n lk w) h]; exact sameP_r
theorem cf_min {M : Nat → Nat → Int32} {n : Nat} {lk : Nat → Nat} {v w : Nat} (h : sameP M n lk v w = true) : cf M n lk w ≤ v := by
  rcases Nat.lt_or_ge v (cf M n lk w) with q | q
  · have h2 : sameP M n lk v w = false := (fst_spec (fun v => sameP M n lk v w) w).2 v q
    rw [h] at h2; cases h2
  · exact q
theorem cf_cf (M : Nat → Nat → Int32) (n : Nat) (lk : Nat → Nat) (w : Nat) : cf M n lk (cf M n lk w) = cf M n lk w :=
  Nat.le_antisymm (cf_le _ _ _ _) (cf_min (sameP_t (cf_same M n lk (cf M n lk w)) (cf_same M n lk w)))
theorem cf_eq {M : Nat → Nat → Int32} {n : Nat} {lk : Nat → Nat} {v w : Nat} : cf M n lk v = cf M n lk w ↔ sameP M n lk v w = true := by
  constructor
  · intro h
    have h1 := sameP_s (cf_same M n lk v)
    rw [h] at h1
    exact sameP_t h1 (cf_same M n lk w)
  · intro h
    exact Nat.le_antisymm (cf_min (sameP_t (cf_same M n lk w) (sameP_s h))) (cf_min (sameP_t (cf_same M n lk v) h))
def lkk (M : Nat → Nat → Int32) (n : Nat) : Nat → Nat → Nat | 0 => fun _ => 0 | k + 1 => fun w => cf M n (lkk M n k) w
theorem lkk_le (M : Nat → Nat → Int32) (n k w : Nat) : lkk M n k w ≤ w := by
  cases k with
  | zero => exact Nat.zero_le w
  | succ k => exact cf_le _ _ _ _
theorem lkk_id (M : Nat → Nat → Int32) (n k w : Nat) : lkk M n k (lkk M n k w) = lkk M n k w := by
  cases k with
  | zero => rfl
  | succ k => exact cf_cf _ _ _ _
def chgB (M : Nat → Nat → Int32) (n k : Nat) : Bool := !allB (fun w => decide (lkk M n k w = lkk M n (k + 1) w)) n
def rcn (M : Nat → Nat → Int32) (n k : Nat) : Nat := fb_ct (fun w => decide (lkk M n k w = w)) n
theorem ct_same {p q : Nat → Bool} : ∀ {n : Nat}, (∀ k, k < n → p k = true → q k = true) → fb_ct q n ≤ fb_ct p n → ∀ k, k < n → q k = true → p k = true
  | 0, _, _, k, h, _ => absurd h (Nat.not_lt_zero k)
  | n + 1, hs, he, k, hk, hq => by
    have h1 := fb_ct_sub (p := p) (q := q) (n := n) (fun k hk => hs k (by omega))
    rw [fb_ct_succ, fb_ct_succ] at he
    have h2 : (if p n = true then 1 else 0) ≤ (if q n = true then 1 else 0) := by
      by_cases c : p n = true
      · rw [if_pos c, if_pos (hs n (by omega) c)]; exact Nat.le_refl _
      · rw [if_neg c]; exact Nat.zero_le _
    rcases Nat.lt_or_ge k n with c | c
    · exact ct_same (n := n) (fun k hk => hs k (by omega)) (by omega) k c hq
    · have e : k = n := by omega
      subst e
      rw [if_pos hq] at he
      by_cases c2 : p k = true
      · exact c2
      · rw [if_neg c2] at he; omega
theorem rep_keep {M : Nat → Nat → Int32} {n k w : Nat} (h : lkk M n k w = w) : lkk M n (k + 1) w = w := by
  show cf M n (lkk M n k) w = w
  refine Nat.le_antisymm (cf_le _ _ _ _) ?_
  have h1 := (sameP_iff.mp (cf_same M n (lkk M n k) w)).1
  rw [h] at h1
  have h2 := lkk_le M n k (cf M n (lkk M n k) w)
  omega
theorem rcn_grow {M : Nat → Nat → Int32} {n k : Nat} (h : chgB M n k = true) : rcn M n k + 1 ≤ rcn M n (k + 1) := by
  have hs : ∀ w, w < n → decide (lkk M n k w = w) = true → decide (lkk M n (k + 1) w = w) = true := fun w _ q => decide_eq_true (rep_keep (of_decide_eq_true q))
  have hle : rcn M n k ≤ rcn M n (k + 1) := fb_ct_sub hs
  rcases Nat.lt_or_ge (rcn M n k) (rcn M n (k + 1)) with q | q
  · exact q
  · exfalso
    have ha : allB (fun w => decide (lkk M n k w = lkk M n (k + 1) w)) n = true := allB_iff.mpr (fun w hw => by
      have hf : lkk M n (k + 1) w ≤ w := lkk_le M n (k + 1) w
      have h1 : lkk M n (k + 1) (lkk M n (k + 1) w) = lkk M n (k + 1) w := lkk_id M n (k + 1) w
      have h2 := of_decide_eq_true (ct_same hs q (lkk M n (k + 1) w) (by omega) (decide_eq_true h1))
      have h3 : lkk M n k (lkk M n (k + 1) w) = lkk M n k w := (sameP_iff.mp (cf_same M n (lkk M n k) w)).1
      exact decide_eq_true (h3.symm.trans h2))
    unfold chgB at h
    rw [ha] at h; cases h
theorem rcn_le (M : Nat → Nat → Int32) (n k : Nat) : rcn M n k ≤ n := fb_ct_le _ _
/-- the value in the descending search -/
def dv (p : Nat → Bool) (c : Nat → Nat) (w : Nat) : Nat → Nat | 0 => w | d + 1 => if p (w - 1 - d) then c (w - 1 - d) else dv p c w d
theorem dv_none {p : Nat → Bool} {c : Nat → Nat} {w : Nat} : ∀ d, d ≤ w → (∀ v, w - d ≤ v → v < w → p v = false) → dv p c w d = w
  | 0, _, _ => rfl
  | d + 1, hd, h => by
    show (if p (w - 1 - d) then _ else _) = w
    rw [h (w - 1 - d) (by omega) (by omega)]
    exact dv_none d (by omega) (fun v h1 h2 => h v (by omega) h2)
theorem dv_some {p : Nat → Bool} {c : Nat → Nat} {w m : Nat} (hm : m < w) (hp : p m = true) : ∀ d, d ≤ w → w - d ≤ m → (∀ v, w - d ≤ v → v < m → p v = false) → dv p c w d = c m
  | 0, _, h, _ => absurd hm (by omega)
  | d + 1, hd, h, hn => by
    show (if p (w - 1 - d) then c (w - 1 - d) else dv p c w d) = c m
    by_cases e : w - 1 - d = m
    · rw [e, hp]; rfl
    · rw [hn (w - 1 - d) (by omega) (by omega)]
      exact dv_some hm hp d (by omega) (by omega) (fun v h1 h2 => hn v (by omega) h2)
theorem dv_end {M : Nat → Nat → Int32} {n : Nat} {lk : Nat → Nat} {w : Nat} : dv (fun v => sameP M n lk v w) (cf M n lk) w w = cf M n lk w := by
  obtain ⟨h1, h2⟩ := fst_spec (fun v => sameP M n lk v w) w
  rcases Nat.lt_or_ge (cf M n lk w) w with q | q
  · rw [dv_some q (h1 q) w (Nat.le_refl w) (by omega) (fun v _ hv => h2 v hv), cf_cf]
  · have e : cf M n lk w = w := Nat.le_antisymm (cf_le _ _ _ _) q
    rw [dv_none w (Nat.le_refl w) (fun v _ hv => h2 v (show v < cf M n lk w by omega)), e]
theorem m1_iff {o : Nat} (ho : o < 1000) : (nI o - nI 1 < 0) ↔ o = 0 := by
  constructor
  · intro h
    cases o with
    | zero => rfl
    | succ o => rw [show nI (o + 1) - nI 1 = nI o from nI_pred o] at h; exact absurd h (nI_pos (by omega))
  · intro h; subst h; decide
/-- the state at the head of the search's loop, k rounds done -/
def LR (M : Nat → Nat → Int32) (n k : Nat) (u : Nat → Nat → Int32) : Prop := (∀ x, x < n → u 11 x = nI (lkk M n k x)) ∧ ∀ i x, i ≠ 11 → u i x = M i x
def LU (M : Nat → Nat → Int32) (n k j : Nat) (u : Nat → Nat → Int32) : Prop := (∀ x, x < j → u 11 x = nI (lkk M n (k + 1) x)) ∧ (∀ x, j ≤ x → x < n → u 11 x = nI (lkk M n k x)) ∧ ∀ i x, i ≠ 11 → u i x = M i x
theorem LU_s {M u : Nat → Nat → Int32} {n k j : Nat} (h : LU M n k j u) : LU M n k (j + 1) (wr u 11 j (nI (lkk M n (k + 1) j))) := by
  refine ⟨fun x hx => ?_, fun x h1 h2 => (wr_ne (Or.inr (by omega))).trans (h.2.1 x (by omega) h2), fun i x hi => (wr_ne (Or.inl hi)).trans (h.2.2 i x hi)⟩
  by_cases e : x = j
  · subst e; exact wr_same
  · exact (wr_ne (Or.inr e)).trans (h.1 x (by omega))
def FindL (M : Nat → Nat → Int32) (n : Nat) (u : Nat → Nat → Int32) : Prop := ∃ k, LR M n (k + 1) u ∧ chgB M n k = false
def zlC (M : Nat → Nat → Int32) (j : Nat) : Nat → Nat → Int32 := fun i x => if i = 11 ∧ x < j then nI 0 else M i x
theorem zlC_o {M : Nat → Nat → Int32} {j i x : Nat} (h : i ≠ 11) : zlC M j i x = M i x := if_neg (by omega)
theorem LR_0 {M : Nat → Nat → Int32} {n : Nat} : LR M n 0 (zlC M n) := ⟨fun x hx => if_pos ⟨rfl, hx⟩, fun i x h => zlC_o h⟩

set_option maxHeartbeats 4000000 in
set_option maxRecDepth 100000 in
theorem c_X5_likesOf (l : Launch) (D : va_G) (cs : Nat → ClassId) (b : Nat → Nat) (M : Nat → Nat → Int32)  (n : Nat) (lk : Nat → Nat) (set : Int32) (hn : M 0 1 = nI n) (hn24 : n ≤ 24) (hlk : ∀ w, w < n → M 11 w = nI (lk w)) : Met l yX5_likesOf wsX5_likesOf ({ frames := 1, cells := 0, slots := 0, locals := 21 } : Room) (va_Pc [.ref (b 0), .int set] (XB D cs (rc cs b M))) (va_Qi (fun r (_ : Unit) => r = clsIn n lk set) (fun _ _ => True) (fun _ => False)) 0 0 (fun _ => False) := by
  refine Met.ofW (cc := cX5_likesOf) (maxL := 4) (ret := (some .int)) (by decide) rfl ?_
  intro p e s m args below meth c s₁ B hml hv
  obtain ⟨rfl, hP, hK⟩ := hv
  have hx := B.exec
  have hb := B.bytes
  have hr := B.returns
  have hts := atoms_spec (ws := wsX5_likesOf) B.pre
  have hown : s.vm.findClass RX5 = some m.cls := findClass_of_methodNamed B.named
  have hlocks := B.notSynchronized
  have hK1 := hK.1
  have hinX5 : ∀ w ∈ wsX50, w ∈ wsX5_likesOf := fun w h => List.mem_cons_of_mem _ (List.mem_append_right _ h)
  have hS : va_S (fun _ => False) s.heap s.heap [] := va_S.rf
  have hl := lv_entry ([.ref (b 0), .int set]) (n := 4) (Nat.le_of_ble_eq_true rfl)
  rw [lg_entry_eq]
  generalize (lg_sl ([.ref (b 0), .int set]) ++ List.replicate (4 - (lg_sl ([.ref (b 0), .int set])).length) Slot.unset).toArray = ls at hl ⊢
  have hl : lv_has ls 4 [(0, .ref (b 0)), (1, .int set)] := hl
  refine W_Q (fun Q hQ => ?_)
  show W p l e ({ frames := 1, cells := 0, slots := 0, locals := 21 } : Room) s m ([.ref (b 0), .int set] : List Value).toArray below meth c s.heap [] 0 0 Q (F0 m 0 ls [])
  refine lv_iconst (v := (nI 0)) hx hb dX5_likesOf_0 (by decide) ?_
  refine lv_istore_n (lv' := [(2, .int (nI 0)), (0, .ref (b 0)), (1, .int set)]) hx hb dX5_likesOf_1 rfl hl (by decide) rfl (fun ls hl => ?_)
  refine lv_iconst (v := (nI 0)) hx hb dX5_likesOf_2 (by decide) ?_
  refine lv_istore_n (lv' := [(3, .int (nI 0)), (2, .int (nI 0)), (0, .ref (b 0)), (1, .int set)]) hx hb dX5_likesOf_3 rfl hl (by decide) rfl (fun ls hl => ?_)
  have cut4 : ∀ (f4 : Nat) (j : Nat) (hj : j ≤ n), n + 1 ≤ j + f4 → ∀ (H : Heap) (locs : List Loc), va_P D vwCl (rc cs b M) H → va_S (fun _ => False) s.heap H locs → ∀ (ls : Array Slot), lv_has ls 4 [(0, .ref (b 0)), (1, .int set), (2, .int (fo (fun w r => if bt set w then r ||| sg (lk w) else r) (nI 0) j)), (3, .int (nI j))] → W p l e ({ frames := 1, cells := 0, slots := 0, locals := 21 } : Room) s m ([.ref (b 0), .int set] : List Value).toArray below meth c H locs 0 0 Q (F0 m 4 ls []) := by
    intro f4
    induction f4 with
    | zero => intro j hj hfu4; exact absurd hfu4 (by omega)
    | succ f4 cut4 =>
      intro j hj hfu4 H locs hP hS ls hl
      refine lv_iload_n hx hb dX5_likesOf_4 rfl (lv_at hl 3 rfl) ?_
      refine lv_aload_n hx hb dX5_likesOf_5 rfl (lv_at hl 0 rfl) ?_
      refine va_get (D := D) (ci := 5) (v := .int (M 0 1)) (C := RX5) (T := TX5) (N := 15) hx hb hts hinX5 hown hK1 hP 0 rfl rfl 1 (by decide) (hts (.fieldLink RX5 48 "KnowledgeModelModel" "worlds" "I") (List.mem_of_getElem? (i := 1) rfl)) (fun _ h9 => h9) rfl dX5_likesOf_6 ?_
      refine xtop (y := nI n) (hn) ?_
      refine lv_icmp_ge (tgt := 37) hx hb dX5_likesOf_9 (by decide) (fun c9 => ?_) (fun c9 => ?_)
      ·
        replace c9 : n ≤ j := k_get c9 (by omega) (by omega)
        refine lv_iload_n hx hb dX5_likesOf_37 rfl (lv_at hl 2 rfl) ?_
        subst hQ
        have hfin : (fo (fun w r => if bt set w then r ||| sg (lk w) else r) (nI 0) j) = clsIn n lk set := by (have hje : j = n := by omega); subst hje; rfl
        exact W.iret hx hb hr (fun t ht hW => ⟨⟨_, (), rfl, hfin, trivial⟩, hS.F ht⟩) hS.2.2 dX5_likesOf_38
      ·
        replace c9 : j < n := k_gef c9 (by omega) (by omega)
        refine lv_iload_n hx hb dX5_likesOf_12 rfl (lv_at hl 1 rfl) ?_
        refine lv_iload_n hx hb dX5_likesOf_13 rfl (lv_at hl 3 rfl) ?_
        refine xcalli (va_runS (As := [.int set, .int (nI j)]) (rest := []) ⟨hx, hb, hml, hown, hts⟩ (c_X5_has l set j (by omega)) (va_cwS 2 hts gX5_likesOf_X5_has rfl rfl rfl (by decide +kernel) ⟨Nat.le_of_ble_eq_true rfl, Nat.le_of_ble_eq_true rfl⟩) xpreN rfl rfl hl.1 rfl (lv_room (Nat.le_of_ble_eq_true rfl)) dX5_likesOf_14 ⟨Nat.le_of_ble_eq_true rfl, Nat.le_of_ble_eq_true rfl⟩) hS hP (fun H locs hP hS => ?_)
        refine lv_if_eq (tgt := 31) hx hb dX5_likesOf_17 (by decide) (fun c17 => ?_) (fun c17 => ?_)
        ·
          replace c17 := bI_0 c17
          refine lv_iinc (v := (nI (j + 1))) (lv' := [(3, .int (nI (j + 1))), (0, .ref (b 0)), (1, .int set), (2, .int (fo (fun w r => if bt set w then r ||| sg (lk w) else r) (nI 0) j))]) hx hb dX5_likesOf_31 hl (k := 3) rfl (nI_add j 1) (by decide) rfl (fun ls hl => ?_)
          refine lv_goto (tgt := 4) hx hb dX5_likesOf_34 (by decide) ?_
          have e_1 : (fo (fun w r => if bt set w then r ||| sg (lk w) else r) (nI 0) j) = (fo (fun w r => if bt set w then r ||| sg (lk w) else r) (nI 0) (j + 1)) := by first | (simp only [fo_s, c9, c17]; done) | (simp only [fo_s, c9, c17]; rfl) | (simp [fo_s, c9, c17]; done)
          exact cut4 (j + 1) (by omega) (by omega) _ _ hP hS ls (lcons (lcons (lcons (lcons (lzero hl) hl 0 rfl rfl) hl 3 rfl (congrArg Value.int e_1)) hl 2 rfl rfl) hl 1 rfl rfl)
        ·
          replace c17 := bI_n0 c17
          refine lv_iload_n hx hb dX5_likesOf_20 rfl (lv_at hl 2 rfl) ?_
          refine lv_iconst (v := (nI 1)) hx hb dX5_likesOf_21 (by decide) ?_
          refine lv_aload_n hx hb dX5_likesOf_22 rfl (lv_at hl 0 rfl) ?_
          refine va_get (D := D) (ci := 5) (v := .ref (b 11)) (C := RX5) (T := TX5) (N := 15) hx hb hts hinX5 hown hK1 hP 0 rfl rfl 14 (by decide) (hts (.fieldLink RX5 41 "KnowledgeModelModel" "likes" "[I") (List.mem_of_getElem? (i := 2) rfl)) (fun _ h9 => h9) rfl dX5_likesOf_23 ?_
          refine lv_iload_n hx hb dX5_likesOf_26 rfl (lv_at hl 3 rfl) ?_
          refine xiald (j := j) (q0 := 11) (t0 := 0) hx hb hK1 hP rfl rfl (by omega) (by decide) dX5_likesOf_27 ?_
          refine xtop (y := (nI (lk j))) (by exact hlk j c9) ?_
          refine lv_ishl hx hb dX5_likesOf_28 ?_
          refine lv_ior hx hb dX5_likesOf_29 ?_
          refine lv_topi (fun x_2 hx_2 => ?_)
          refine lv_istore_n (lv' := [(2, .int x_2), (0, .ref (b 0)), (1, .int set), (3, .int (nI j))]) hx hb dX5_likesOf_30 rfl hl (by decide) rfl (fun ls hl => ?_)
          refine lv_iinc (v := (nI (j + 1))) (lv' := [(3, .int (nI (j + 1))), (2, .int x_2), (0, .ref (b 0)), (1, .int set)]) hx hb dX5_likesOf_31 hl (k := 3) rfl (nI_add j 1) (by decide) rfl (fun ls hl => ?_)
          refine lv_goto (tgt := 4) hx hb dX5_likesOf_34 (by decide) ?_
          have e_3 : x_2 = (fo (fun w r => if bt set w then r ||| sg (lk w) else r) (nI 0) (j + 1)) := by first | (simp only [fo_s, c9, c17, hx_2]; done) | (simp only [fo_s, c9, c17, hx_2]; rfl) | (simp [fo_s, c9, c17, hx_2]; done)
          exact cut4 (j + 1) (by omega) (by omega) _ _ hP hS ls (lcons (lcons (lcons (lcons (lzero hl) hl 0 rfl rfl) hl 1 rfl (congrArg Value.int e_3)) hl 3 rfl rfl) hl 2 rfl rfl)
  have e_4 : (nI 0) = (fo (fun w r => if bt set w then r ||| sg (lk w) else r) (nI 0) 0) := by first | rfl | (simp [fo_s]; done) | (simp [fo_s] <;> rfl)
  exact cut4 (n + 1) 0 (by omega) (by omega) _ _ hP hS ls (lcons (lcons (lcons (lcons (lzero hl) hl 0 rfl rfl) hl 1 rfl (congrArg Value.int e_4)) hl 3 rfl rfl) hl 2 rfl rfl)

set_option maxHeartbeats 4000000 in
set_option maxRecDepth 100000 in
theorem c_X5_areSame (l : Launch) (D : va_G) (cs : Nat → ClassId) (b : Nat → Nat) (M : Nat → Nat → Int32)  (n : Nat) (lk : Nat → Nat) (v : Nat) (w : Nat) (hn : M 0 1 = nI n) (hn24 : n ≤ 24) (hlk : ∀ w, w < n → M 11 w = nI (lk w)) (hv : v < n) (hw : w < n) : Met l yX5_areSame wsX5_areSame ({ frames := 2, cells := 0, slots := 0, locals := 45 } : Room) (va_Pc [.ref (b 0), .int (nI v), .int (nI w)] (XB D cs (rc cs b M))) (va_Qi (fun r (_ : Unit) => r = bI (decide (M 11 v = M 11 w) && decide (M 1 v = M 1 w) && allB (fun i => decide (clsIn n lk (M 2 (24 * i + v)) = clsIn n lk (M 2 (24 * i + w)))) 4)) (fun _ _ => True) (fun _ => False)) 0 0 (fun _ => False) := by
  refine Met.ofW (cc := cX5_areSame) (maxL := 5) (ret := (some .boolean)) (by decide) rfl ?_
  intro p e s m args below meth c s₁ B hml hv
  obtain ⟨rfl, hP, hK⟩ := hv
  have hx := B.exec
  have hb := B.bytes
  have hr := B.returns
  have hts := atoms_spec (ws := wsX5_areSame) B.pre
  have hown : s.vm.findClass RX5 = some m.cls := findClass_of_methodNamed B.named
  have hlocks := B.notSynchronized
  have hK1 := hK.1
  have hinX5 : ∀ w ∈ wsX50, w ∈ wsX5_areSame := fun w h => List.mem_cons_of_mem _ (List.mem_append_right _ h)
  have hS : va_S (fun _ => False) s.heap s.heap [] := va_S.rf
  have hl := lv_entry ([.ref (b 0), .int (nI v), .int (nI w)]) (n := 5) (Nat.le_of_ble_eq_true rfl)
  rw [lg_entry_eq]
  generalize (lg_sl ([.ref (b 0), .int (nI v), .int (nI w)]) ++ List.replicate (5 - (lg_sl ([.ref (b 0), .int (nI v), .int (nI w)])).length) Slot.unset).toArray = ls at hl ⊢
  have hl : lv_has ls 5 [(0, .ref (b 0)), (1, .int (nI v)), (2, .int (nI w))] := hl
  refine W_Q (fun Q hQ => ?_)
  show W p l e ({ frames := 2, cells := 0, slots := 0, locals := 45 } : Room) s m ([.ref (b 0), .int (nI v), .int (nI w)] : List Value).toArray below meth c s.heap [] 0 0 Q (F0 m 0 ls [])
  have cut36 : ∀ (H : Heap) (locs : List Loc), va_P D vwCl (rc cs b M) H → va_S (fun _ => False) s.heap H locs → ∀ (ls : Array Slot), lv_has ls 5 [(0, .ref (b 0)), (1, .int (nI v)), (2, .int (nI w)), (3, .int (bI (decide (M 11 v = M 11 w) && decide (M 1 v = M 1 w))))] → W p l e ({ frames := 2, cells := 0, slots := 0, locals := 45 } : Room) s m ([.ref (b 0), .int (nI v), .int (nI w)] : List Value).toArray below meth c H locs 0 0 Q (F0 m 36 ls []) := by
    intro   H locs hP hS ls hl
    refine lv_iconst (v := (nI 0)) hx hb dX5_areSame_36 (by decide) ?_
    refine lv_istore (lv' := [(4, .int (nI 0)), (0, .ref (b 0)), (1, .int (nI v)), (2, .int (nI w)), (3, .int (bI (decide (M 11 v = M 11 w) && decide (M 1 v = M 1 w))))]) hx hb dX5_areSame_37 hl (by decide) rfl (fun ls hl => ?_)
    have cut39 : ∀ (f39 : Nat) (q : Nat) (hq : q ≤ 4), 4 + 1 ≤ q + f39 → ∀ (H : Heap) (locs : List Loc), va_P D vwCl (rc cs b M) H → va_S (fun _ => False) s.heap H locs → ∀ (ls : Array Slot), lv_has ls 5 [(0, .ref (b 0)), (1, .int (nI v)), (2, .int (nI w)), (3, .int (bI (decide (M 11 v = M 11 w) && decide (M 1 v = M 1 w) && allB (fun i => decide (clsIn n lk (M 2 (24 * i + v)) = clsIn n lk (M 2 (24 * i + w)))) q))), (4, .int (nI q))] → W p l e ({ frames := 2, cells := 0, slots := 0, locals := 45 } : Room) s m ([.ref (b 0), .int (nI v), .int (nI w)] : List Value).toArray below meth c H locs 0 0 Q (F0 m 39 ls []) := by
      intro f39
      induction f39 with
      | zero => intro q hq hfu39; exact absurd hfu39 (by omega)
      | succ f39 cut39 =>
        intro q hq hfu39 H locs hP hS ls hl
        refine lv_iload hx hb dX5_areSame_39 (lv_at hl 4 rfl) ?_
        refine lv_iconst (v := (nI 4)) hx hb dX5_areSame_41 (by decide) ?_
        refine lv_icmp_ge (tgt := 96) hx hb dX5_areSame_42 (by decide) (fun c42 => ?_) (fun c42 => ?_)
        ·
          replace c42 : 4 ≤ q := k_get c42 (by omega) (by omega)
          refine lv_iload_n hx hb dX5_areSame_96 rfl (lv_at hl 3 rfl) ?_
          subst hQ
          have hfin : (bI (decide (M 11 v = M 11 w) && decide (M 1 v = M 1 w) && allB (fun i => decide (clsIn n lk (M 2 (24 * i + v)) = clsIn n lk (M 2 (24 * i + w)))) q)) = bI (decide (M 11 v = M 11 w) && decide (M 1 v = M 1 w) && allB (fun i => decide (clsIn n lk (M 2 (24 * i + v)) = clsIn n lk (M 2 (24 * i + w)))) 4) := by (have hqe : q = 4 := by omega); subst hqe; rfl
          exact W.zret (ty := .boolean) hx hb hr (bI_nar _) (fun t ht hW => ⟨⟨_, (), rfl, hfin, trivial⟩, hS.F ht⟩) hS.2.2 dX5_areSame_97
        ·
          replace c42 : q < 4 := k_gef c42 (by omega) (by omega)
          have cut90 : ∀ (H : Heap) (locs : List Loc), va_P D vwCl (rc cs b M) H → va_S (fun _ => False) s.heap H locs → ∀ (ls : Array Slot), lv_has ls 5 [(0, .ref (b 0)), (1, .int (nI v)), (2, .int (nI w)), (3, .int (bI (decide (M 11 v = M 11 w) && decide (M 1 v = M 1 w) && allB (fun i => decide (clsIn n lk (M 2 (24 * i + v)) = clsIn n lk (M 2 (24 * i + w)))) (q + 1)))), (4, .int (nI q))] → W p l e ({ frames := 2, cells := 0, slots := 0, locals := 45 } : Room) s m ([.ref (b 0), .int (nI v), .int (nI w)] : List Value).toArray below meth c H locs 0 0 Q (F0 m 90 ls []) := by
            intro   H locs hP hS ls hl
            refine lv_iinc (v := (nI (q + 1))) (lv' := [(4, .int (nI (q + 1))), (0, .ref (b 0)), (1, .int (nI v)), (2, .int (nI w)), (3, .int (bI (decide (M 11 v = M 11 w) && decide (M 1 v = M 1 w) && allB (fun i => decide (clsIn n lk (M 2 (24 * i + v)) = clsIn n lk (M 2 (24 * i + w)))) (q + 1))))]) hx hb dX5_areSame_90 hl (k := 4) rfl (nI_add q 1) (by decide) rfl (fun ls hl => ?_)
            refine lv_goto (tgt := 39) hx hb dX5_areSame_93 (by decide) ?_
            exact cut39 (q + 1) (by omega) (by omega) _ _ hP hS ls (lcons (lcons (lcons (lcons (lcons (lzero hl) hl 0 rfl rfl) hl 4 rfl rfl) hl 3 rfl rfl) hl 2 rfl rfl) hl 1 rfl rfl)
          refine lv_iload_n hx hb dX5_areSame_45 rfl (lv_at hl 3 rfl) ?_
          refine lv_if_eq (tgt := 88) hx hb dX5_areSame_46 (by decide) (fun c46 => ?_) (fun c46 => ?_)
          ·
            replace c46 := bI_0 c46
            refine lv_iconst (v := (nI 0)) hx hb dX5_areSame_88 (by decide) ?_
            refine lv_istore_n (lv' := [(3, .int (nI 0)), (0, .ref (b 0)), (1, .int (nI v)), (2, .int (nI w)), (4, .int (nI q))]) hx hb dX5_areSame_89 rfl hl (by decide) rfl (fun ls hl => ?_)
            have e_1 : (nI 0) = (bI (decide (M 11 v = M 11 w) && decide (M 1 v = M 1 w) && allB (fun i => decide (clsIn n lk (M 2 (24 * i + v)) = clsIn n lk (M 2 (24 * i + w)))) (q + 1))) := by first | (simp only [allB, ← Bool.and_assoc]; rw [c46, decide_eq_true c81]; rfl) | (simp only [allB, ← Bool.and_assoc]; rw [c46, decide_eq_false c81]; rfl) | (simp only [allB, ← Bool.and_assoc]; rw [c46, Bool.false_and]; rfl)
            exact cut90    _ _ hP hS ls (lcons (lcons (lcons (lcons (lcons (lzero hl) hl 4 rfl rfl) hl 0 rfl (congrArg Value.int e_1)) hl 3 rfl rfl) hl 2 rfl rfl) hl 1 rfl rfl)
          ·
            replace c46 := bI_n0 c46
            refine lv_aload_n hx hb dX5_areSame_49 rfl (lv_at hl 0 rfl) ?_
            refine lv_aload_n hx hb dX5_areSame_50 rfl (lv_at hl 0 rfl) ?_
            refine va_get (D := D) (ci := 5) (v := .ref (b 2)) (C := RX5) (T := TX5) (N := 15) hx hb hts hinX5 hown hK1 hP 0 rfl rfl 4 (by decide) (hts (.fieldLink RX5 13 "KnowledgeModelModel" "seen" "[I") (List.mem_of_getElem? (i := 3) rfl)) (fun _ h9 => h9) rfl dX5_areSame_51 ?_
            refine lv_bipush (v := (nI 24)) hx hb dX5_areSame_54 (by decide) ?_
            refine lv_iload hx hb dX5_areSame_56 (lv_at hl 4 rfl) ?_
            refine ximul hx hb dX5_areSame_58 ?_
            refine lv_iload_n hx hb dX5_areSame_59 rfl (lv_at hl 1 rfl) ?_
            refine xiadd hx hb dX5_areSame_60 ?_
            refine xiald (j := (24 * q) + v) (q0 := 2) (t0 := 0) hx hb hK1 hP rfl rfl (by omega) (by decide) dX5_areSame_61 ?_
            refine xcalli (va_runV (As := [.int (M 2 ((24 * q) + v))]) (rest := []) ⟨hx, hb, hml, hown, hts⟩ (c_X5_likesOf l D cs b M n lk (M 2 ((24 * q) + v)) hn (by omega) hlk) (cwV 1 hts gX5_areSame_X5_likesOf rfl rfl rfl (by decide +kernel) ⟨Nat.le_of_ble_eq_true rfl, Nat.le_of_ble_eq_true rfl⟩) (xpreV hP hK (ci := 5) 0 rfl rfl) rfl rfl hl.1 rfl (lv_room (Nat.le_of_ble_eq_true rfl)) dX5_areSame_62 ⟨Nat.le_of_ble_eq_true rfl, Nat.le_of_ble_eq_true rfl⟩) hS hP (fun H locs hP hS => ?_)
            refine lv_aload_n hx hb dX5_areSame_65 rfl (lv_at hl 0 rfl) ?_
            refine lv_aload_n hx hb dX5_areSame_66 rfl (lv_at hl 0 rfl) ?_
            refine va_get (D := D) (ci := 5) (v := .ref (b 2)) (C := RX5) (T := TX5) (N := 15) hx hb hts hinX5 hown hK1 hP 0 rfl rfl 4 (by decide) (hts (.fieldLink RX5 13 "KnowledgeModelModel" "seen" "[I") (List.mem_of_getElem? (i := 3) rfl)) (fun _ h9 => h9) rfl dX5_areSame_67 ?_
            refine lv_bipush (v := (nI 24)) hx hb dX5_areSame_70 (by decide) ?_
            refine lv_iload hx hb dX5_areSame_72 (lv_at hl 4 rfl) ?_
            refine ximul hx hb dX5_areSame_74 ?_
            refine lv_iload_n hx hb dX5_areSame_75 rfl (lv_at hl 2 rfl) ?_
            refine xiadd hx hb dX5_areSame_76 ?_
            refine xiald (j := (24 * q) + w) (q0 := 2) (t0 := 0) hx hb hK1 hP rfl rfl (by omega) (by decide) dX5_areSame_77 ?_
            refine xcalli (va_runV (As := [.int (M 2 ((24 * q) + w))]) (rest := [.int (clsIn n lk (M 2 ((24 * q) + v)))]) ⟨hx, hb, hml, hown, hts⟩ (c_X5_likesOf l D cs b M n lk (M 2 ((24 * q) + w)) hn (by omega) hlk) (cwV 1 hts gX5_areSame_X5_likesOf rfl rfl rfl (by decide +kernel) ⟨Nat.le_of_ble_eq_true rfl, Nat.le_of_ble_eq_true rfl⟩) (xpreV hP hK (ci := 5) 0 rfl rfl) rfl rfl hl.1 rfl (lv_room (Nat.le_of_ble_eq_true rfl)) dX5_areSame_78 ⟨Nat.le_of_ble_eq_true rfl, Nat.le_of_ble_eq_true rfl⟩) hS hP (fun H locs hP hS => ?_)
            refine lv_icmp_ne (tgt := 88) hx hb dX5_areSame_81 (by decide) (fun c81 => ?_) (fun c81 => ?_)
            ·
              refine lv_iconst (v := (nI 0)) hx hb dX5_areSame_88 (by decide) ?_
              refine lv_istore_n (lv' := [(3, .int (nI 0)), (0, .ref (b 0)), (1, .int (nI v)), (2, .int (nI w)), (4, .int (nI q))]) hx hb dX5_areSame_89 rfl hl (by decide) rfl (fun ls hl => ?_)
              have e_2 : (nI 0) = (bI (decide (M 11 v = M 11 w) && decide (M 1 v = M 1 w) && allB (fun i => decide (clsIn n lk (M 2 (24 * i + v)) = clsIn n lk (M 2 (24 * i + w)))) (q + 1))) := by first | (simp only [allB, ← Bool.and_assoc]; rw [c46, decide_eq_true c81]; rfl) | (simp only [allB, ← Bool.and_assoc]; rw [c46, decide_eq_false c81]; rfl) | (simp only [allB, ← Bool.and_assoc]; rw [c46, Bool.false_and]; rfl)
              exact cut90    _ _ hP hS ls (lcons (lcons (lcons (lcons (lcons (lzero hl) hl 4 rfl rfl) hl 0 rfl (congrArg Value.int e_2)) hl 3 rfl rfl) hl 2 rfl rfl) hl 1 rfl rfl)
            ·
              refine lv_iconst (v := (nI 1)) hx hb dX5_areSame_84 (by decide) ?_
              refine lv_goto (tgt := 89) hx hb dX5_areSame_85 (by decide) ?_
              refine lv_istore_n (lv' := [(3, .int (nI 1)), (0, .ref (b 0)), (1, .int (nI v)), (2, .int (nI w)), (4, .int (nI q))]) hx hb dX5_areSame_89 rfl hl (by decide) rfl (fun ls hl => ?_)
              have e_3 : (nI 1) = (bI (decide (M 11 v = M 11 w) && decide (M 1 v = M 1 w) && allB (fun i => decide (clsIn n lk (M 2 (24 * i + v)) = clsIn n lk (M 2 (24 * i + w)))) (q + 1))) := by first | (simp only [allB, ← Bool.and_assoc]; rw [c46, decide_eq_true c81]; rfl) | (simp only [allB, ← Bool.and_assoc]; rw [c46, decide_eq_false c81]; rfl) | (simp only [allB, ← Bool.and_assoc]; rw [c46, Bool.false_and]; rfl)
              exact cut90    _ _ hP hS ls (lcons (lcons (lcons (lcons (lcons (lzero hl) hl 4 rfl rfl) hl 0 rfl (congrArg Value.int e_3)) hl 3 rfl rfl) hl 2 rfl rfl) hl 1 rfl rfl)
    have e_4 : (bI (decide (M 11 v = M 11 w) && decide (M 1 v = M 1 w))) = (bI (decide (M 11 v = M 11 w) && decide (M 1 v = M 1 w) && allB (fun i => decide (clsIn n lk (M 2 (24 * i + v)) = clsIn n lk (M 2 (24 * i + w)))) 0)) := by rw [show allB _ 0 = true from rfl, Bool.and_true]
    exact cut39 (4 + 1) 0 (by omega) (by omega) _ _ hP hS ls (lcons (lcons (lcons (lcons (lcons (lzero hl) hl 0 rfl rfl) hl 4 rfl (congrArg Value.int e_4)) hl 3 rfl rfl) hl 2 rfl rfl) hl 1 rfl rfl)
  refine lv_aload_n hx hb dX5_areSame_0 rfl (lv_at hl 0 rfl) ?_
  refine va_get (D := D) (ci := 5) (v := .ref (b 11)) (C := RX5) (T := TX5) (N := 15) hx hb hts hinX5 hown hK1 hP 0 rfl rfl 14 (by decide) (hts (.fieldLink RX5 41 "KnowledgeModelModel" "likes" "[I") (List.mem_of_getElem? (i := 1) rfl)) (fun _ h9 => h9) rfl dX5_areSame_1 ?_
  refine lv_iload_n hx hb dX5_areSame_4 rfl (lv_at hl 1 rfl) ?_
  refine xiald (j := v) (q0 := 11) (t0 := 0) hx hb hK1 hP rfl rfl (by omega) (by decide) dX5_areSame_5 ?_
  refine lv_aload_n hx hb dX5_areSame_6 rfl (lv_at hl 0 rfl) ?_
  refine va_get (D := D) (ci := 5) (v := .ref (b 11)) (C := RX5) (T := TX5) (N := 15) hx hb hts hinX5 hown hK1 hP 0 rfl rfl 14 (by decide) (hts (.fieldLink RX5 41 "KnowledgeModelModel" "likes" "[I") (List.mem_of_getElem? (i := 1) rfl)) (fun _ h9 => h9) rfl dX5_areSame_7 ?_
  refine lv_iload_n hx hb dX5_areSame_10 rfl (lv_at hl 2 rfl) ?_
  refine xiald (j := w) (q0 := 11) (t0 := 0) hx hb hK1 hP rfl rfl (by omega) (by decide) dX5_areSame_11 ?_
  refine lv_icmp_ne (tgt := 34) hx hb dX5_areSame_12 (by decide) (fun c12 => ?_) (fun c12 => ?_)
  ·
    refine lv_iconst (v := (nI 0)) hx hb dX5_areSame_34 (by decide) ?_
    refine lv_istore_n (lv' := [(3, .int (nI 0)), (0, .ref (b 0)), (1, .int (nI v)), (2, .int (nI w))]) hx hb dX5_areSame_35 rfl hl (by decide) rfl (fun ls hl => ?_)
    have e_5 : (nI 0) = (bI (decide (M 11 v = M 11 w) && decide (M 1 v = M 1 w))) := by first | (rw [decide_eq_false c12]; rfl) | (rw [decide_eq_false c27, Bool.and_false]; rfl) | (rw [decide_eq_true c12, decide_eq_true c27]; rfl)
    exact cut36    _ _ hP hS ls (lcons (lcons (lcons (lcons (lzero hl) hl 0 rfl (congrArg Value.int e_5)) hl 3 rfl rfl) hl 2 rfl rfl) hl 1 rfl rfl)
  ·
    refine lv_aload_n hx hb dX5_areSame_15 rfl (lv_at hl 0 rfl) ?_
    refine va_get (D := D) (ci := 5) (v := .ref (b 1)) (C := RX5) (T := TX5) (N := 15) hx hb hts hinX5 hown hK1 hP 0 rfl rfl 3 (by decide) (hts (.fieldLink RX5 9 "KnowledgeModelModel" "atoms" "[I") (List.mem_of_getElem? (i := 2) rfl)) (fun _ h9 => h9) rfl dX5_areSame_16 ?_
    refine lv_iload_n hx hb dX5_areSame_19 rfl (lv_at hl 1 rfl) ?_
    refine xiald (j := v) (q0 := 1) (t0 := 0) hx hb hK1 hP rfl rfl (by omega) (by decide) dX5_areSame_20 ?_
    refine lv_aload_n hx hb dX5_areSame_21 rfl (lv_at hl 0 rfl) ?_
    refine va_get (D := D) (ci := 5) (v := .ref (b 1)) (C := RX5) (T := TX5) (N := 15) hx hb hts hinX5 hown hK1 hP 0 rfl rfl 3 (by decide) (hts (.fieldLink RX5 9 "KnowledgeModelModel" "atoms" "[I") (List.mem_of_getElem? (i := 2) rfl)) (fun _ h9 => h9) rfl dX5_areSame_22 ?_
    refine lv_iload_n hx hb dX5_areSame_25 rfl (lv_at hl 2 rfl) ?_
    refine xiald (j := w) (q0 := 1) (t0 := 0) hx hb hK1 hP rfl rfl (by omega) (by decide) dX5_areSame_26 ?_
    refine lv_icmp_ne (tgt := 34) hx hb dX5_areSame_27 (by decide) (fun c27 => ?_) (fun c27 => ?_)
    ·
      refine lv_iconst (v := (nI 0)) hx hb dX5_areSame_34 (by decide) ?_
      refine lv_istore_n (lv' := [(3, .int (nI 0)), (0, .ref (b 0)), (1, .int (nI v)), (2, .int (nI w))]) hx hb dX5_areSame_35 rfl hl (by decide) rfl (fun ls hl => ?_)
      have e_6 : (nI 0) = (bI (decide (M 11 v = M 11 w) && decide (M 1 v = M 1 w))) := by first | (rw [decide_eq_false c12]; rfl) | (rw [decide_eq_false c27, Bool.and_false]; rfl) | (rw [decide_eq_true c12, decide_eq_true c27]; rfl)
      exact cut36    _ _ hP hS ls (lcons (lcons (lcons (lcons (lzero hl) hl 0 rfl (congrArg Value.int e_6)) hl 3 rfl rfl) hl 2 rfl rfl) hl 1 rfl rfl)
    ·
      refine lv_iconst (v := (nI 1)) hx hb dX5_areSame_30 (by decide) ?_
      refine lv_goto (tgt := 35) hx hb dX5_areSame_31 (by decide) ?_
      refine lv_istore_n (lv' := [(3, .int (nI 1)), (0, .ref (b 0)), (1, .int (nI v)), (2, .int (nI w))]) hx hb dX5_areSame_35 rfl hl (by decide) rfl (fun ls hl => ?_)
      have e_7 : (nI 1) = (bI (decide (M 11 v = M 11 w) && decide (M 1 v = M 1 w))) := by first | (rw [decide_eq_false c12]; rfl) | (rw [decide_eq_false c27, Bool.and_false]; rfl) | (rw [decide_eq_true c12, decide_eq_true c27]; rfl)
      exact cut36    _ _ hP hS ls (lcons (lcons (lcons (lcons (lzero hl) hl 0 rfl (congrArg Value.int e_7)) hl 3 rfl rfl) hl 2 rfl rfl) hl 1 rfl rfl)

theorem same_link {M u : Nat → Nat → Int32} {n k v w : Nat} (hn : n ≤ 24) (h : LR M n k u) (hv : v < n) (hw : w < n) : (decide (u 11 v = u 11 w) && decide (u 1 v = u 1 w) && allB (fun i => decide (clsIn n (lkk M n k) (u 2 (24 * i + v)) = clsIn n (lkk M n k) (u 2 (24 * i + w)))) 4) = sameP M n (lkk M n k) v w := by
  unfold sameP
  have e : (u 11 v = u 11 w) ↔ (lkk M n k v = lkk M n k w) := by
    rw [h.1 v hv, h.1 w hw]
    exact nI_eq (by have := lkk_le M n k v; omega) (by have := lkk_le M n k w; omega)
  rw [h.2 1 v (by decide), h.2 1 w (by decide), allB_cong (fun i hi => by rw [h.2 2 _ (by decide), h.2 2 _ (by decide)])]
  simp only [e]

set_option maxHeartbeats 4000000 in
set_option maxRecDepth 100000 in
theorem c_X5_findLikes (l : Launch) (D : va_G) (cs : Nat → ClassId) (b : Nat → Nat) (M : Nat → Nat → Int32) (sz : Nat) (hI : kI b 12)  (n : Nat)  (hn : M 0 1 = nI n) (hn24 : n ≤ 24) : Met l yX5_findLikes wsX5_findLikes ({ frames := 3, cells := 1, slots := 24, locals := 70 } : Room) (va_Pc [.ref (b 0)] (XBs D cs (rc cs b M) sz)) (va_Qv (fun (u : Nat → Nat → Int32) => FindL M n u) (fun (u : Nat → Nat → Int32) t => va_P D vwCl (rc cs b u) t.heap) (kA b 12 sz)) 1 24 (kA b 12 sz) := by
  refine Met.ofW (cc := cX5_findLikes) (maxL := 5) (ret := none) (by decide) rfl ?_
  intro p e s m args below meth c s₁ B hml hv
  obtain ⟨rfl, hsz, hP, hK⟩ := hv
  have hx := B.exec
  have hb := B.bytes
  have hr := B.returns
  have hts := atoms_spec (ws := wsX5_findLikes) B.pre
  have hown : s.vm.findClass RX5 = some m.cls := findClass_of_methodNamed B.named
  have hlocks := B.notSynchronized
  have hK1 := hK.1
  have hinX5 : ∀ w ∈ wsX50, w ∈ wsX5_findLikes := fun w h => List.mem_cons_of_mem _ (List.mem_append_right _ h)
  subst hsz
  have hS : va_S (kA b 12 s.heap.size) s.heap s.heap [] := va_S.rf
  have hl := lv_entry ([.ref (b 0)]) (n := 5) (Nat.le_of_ble_eq_true rfl)
  rw [lg_entry_eq]
  generalize (lg_sl ([.ref (b 0)]) ++ List.replicate (5 - (lg_sl ([.ref (b 0)])).length) Slot.unset).toArray = ls at hl ⊢
  have hl : lv_has ls 5 [(0, .ref (b 0))] := hl
  refine W_Q (fun Q hQ => ?_)
  show W p l e ({ frames := 3, cells := 1, slots := 24, locals := 70 } : Room) s m ([.ref (b 0)] : List Value).toArray below meth c s.heap [] 0 0 Q (F0 m 0 ls [])
  refine lv_iconst (v := (nI 0)) hx hb dX5_findLikes_0 (by decide) ?_
  refine lv_istore_n (lv' := [(1, .int (nI 0)), (0, .ref (b 0))]) hx hb dX5_findLikes_1 rfl hl (by decide) rfl (fun ls hl => ?_)
  have cut2 : ∀ (f2 : Nat) (j : Nat) (hj : j ≤ n), n + 1 ≤ j + f2 → ∀ (H : Heap) (locs : List Loc), va_P D vwCl (rc cs b (zlC M j)) H → va_S (kA b 12 s.heap.size) s.heap H locs → ∀ (ls : Array Slot), lv_has ls 5 [(0, .ref (b 0)), (1, .int (nI j))] → W p l e ({ frames := 3, cells := 1, slots := 24, locals := 70 } : Room) s m ([.ref (b 0)] : List Value).toArray below meth c H locs 0 0 Q (F0 m 2 ls []) := by
    intro f2
    induction f2 with
    | zero => intro j hj hfu2; exact absurd hfu2 (by omega)
    | succ f2 cut2 =>
      intro j hj hfu2 H locs hP hS ls hl
      refine lv_iload_n hx hb dX5_findLikes_2 rfl (lv_at hl 1 rfl) ?_
      refine lv_aload_n hx hb dX5_findLikes_3 rfl (lv_at hl 0 rfl) ?_
      refine va_get (D := D) (ci := 5) (v := .int ((zlC M j) 0 1)) (C := RX5) (T := TX5) (N := 15) hx hb hts hinX5 hown hK1 hP 0 rfl rfl 1 (by decide) (hts (.fieldLink RX5 48 "KnowledgeModelModel" "worlds" "I") (List.mem_of_getElem? (i := 1) rfl)) (fun _ h9 => h9) rfl dX5_findLikes_4 ?_
      refine xtop (y := nI n) (((zlC_o (by decide)).trans hn)) ?_
      refine lv_icmp_ge (tgt := 23) hx hb dX5_findLikes_7 (by decide) (fun c7 => ?_) (fun c7 => ?_)
      ·
        replace c7 : n ≤ j := k_get c7 (by omega) (by omega)
        refine lv_iconst (v := (nI 1)) hx hb dX5_findLikes_23 (by decide) ?_
        refine lv_istore_n (lv' := [(1, .int (nI 1)), (0, .ref (b 0))]) hx hb dX5_findLikes_24 rfl hl (by decide) rfl (fun ls hl => ?_)
        refine lv_bipush (v := (nI 24)) hx hb dX5_findLikes_25 (by decide) ?_
        refine xnewi hx hb (hts (.arrayClass .int) (List.mem_of_getElem? (i := 3) rfl)) hK1 hP (rD hI) hS kAn (Nat.le_of_ble_eq_true rfl) (Nat.le_of_ble_eq_true rfl) dX5_findLikes_27 (fun q27 H hP hD1 hS => ?_)
        have hP : va_P D vwCl (rc1 cs b (zlC M j) q27 (fun _ => 0)) H := hP
        have hD1 : va_D (kA b 12 s.heap.size) (rc1 cs b (zlC M j) q27 (fun _ => 0)) := hD1
        refine W.widen (k := 1) (n := 24) (by decide) (by decide) ?_
        refine lv_astore_n (lv' := [(2, .ref q27), (1, .int (nI 1)), (0, .ref (b 0))]) hx hb dX5_findLikes_29 rfl hl (by decide) rfl (fun ls hl => ?_)
        have cut30 : ∀ (f30 : Nat) (k : Nat) (Mk : Nat → Nat → Int32) (Tf : Nat → Int32) (chg : Bool) (hk : k ≤ 25) (hLR : LR M n k Mk) (hch : k = 0 ∧ chg = true ∨ 0 < k ∧ chg = chgB M n (k - 1)) (hcnt : chg = true → k ≤ rcn M n k), 26 ≤ k + f30 → ∀ (H : Heap) (locs : List Loc), va_P D vwCl (rc1 cs b Mk q27 Tf) H → va_S (kA b 12 s.heap.size) s.heap H locs → ∀ (ls : Array Slot), lv_has ls 5 [(0, .ref (b 0)), (1, .int (bI chg)), (2, .ref q27)] → W p l e ({ frames := 3, cells := 1, slots := 24, locals := 70 } : Room) s m ([.ref (b 0)] : List Value).toArray below meth c H locs 1 24 Q (F0 m 30 ls []) := by
          intro f30
          induction f30 with
          | zero => intro k Mk Tf chg hk hLR hch hcnt hfu30; exact absurd hfu30 (by omega)
          | succ f30 cut30 =>
            intro k Mk Tf chg hk hLR hch hcnt hfu30 H locs hP hS ls hl
            have hrn := rcn_le M n k
            refine lv_iload_n hx hb dX5_findLikes_30 rfl (lv_at hl 1 rfl) ?_
            refine lv_if_eq (tgt := 139) hx hb dX5_findLikes_31 (by decide) (fun c31 => ?_) (fun c31 => ?_)
            ·
              replace c31 := bI_0 c31
              subst hQ
              have hP := r1P hP
              have hrel : FindL M n Mk := by rcases hch with ⟨_, q⟩ | ⟨q1, q2⟩; (rw [q] at c31; cases c31); exact ⟨k - 1, by rw [show k - 1 + 1 = k by omega]; exact hLR, q2.symm.trans c31⟩
              exact W.vret hx hb hr (fun t ht hW => ⟨⟨Mk, rfl, hrel, by rw [← ht] at hP; exact hP⟩, hS.F ht⟩) hS.2.2 dX5_findLikes_139
            ·
              replace c31 := bI_n0 c31
              refine lv_iconst (v := (nI 0)) hx hb dX5_findLikes_34 (by decide) ?_
              refine lv_istore_n (lv' := [(1, .int (nI 0)), (0, .ref (b 0)), (2, .ref q27)]) hx hb dX5_findLikes_35 rfl hl (by decide) rfl (fun ls hl => ?_)
              refine lv_iconst (v := (nI 0)) hx hb dX5_findLikes_36 (by decide) ?_
              refine lv_istore_n (lv' := [(3, .int (nI 0)), (1, .int (nI 0)), (0, .ref (b 0)), (2, .ref q27)]) hx hb dX5_findLikes_37 rfl hl (by decide) rfl (fun ls hl => ?_)
              have cut38 : ∀ (f38 : Nat) (j : Nat) (Tf : Nat → Int32) (hj : j ≤ n) (hT : ∀ x, x < j → Tf x = nI (lkk M n (k + 1) x)), n + 1 ≤ j + f38 → ∀ (H : Heap) (locs : List Loc), va_P D vwCl (rc1 cs b Mk q27 Tf) H → va_S (kA b 12 s.heap.size) s.heap H locs → ∀ (ls : Array Slot), lv_has ls 5 [(0, .ref (b 0)), (1, .int (nI 0)), (2, .ref q27), (3, .int (nI j))] → W p l e ({ frames := 3, cells := 1, slots := 24, locals := 70 } : Room) s m ([.ref (b 0)] : List Value).toArray below meth c H locs 1 24 Q (F0 m 38 ls []) := by
                intro f38
                induction f38 with
                | zero => intro j Tf hj hT hfu38; exact absurd hfu38 (by omega)
                | succ f38 cut38 =>
                  intro j Tf hj hT hfu38 H locs hP hS ls hl
                  refine lv_iload_n hx hb dX5_findLikes_38 rfl (lv_at hl 3 rfl) ?_
                  refine lv_aload_n hx hb dX5_findLikes_39 rfl (lv_at hl 0 rfl) ?_
                  refine va_get (D := D) (ci := 5) (v := .int (Mk 0 1)) (C := RX5) (T := TX5) (N := 15) hx hb hts hinX5 hown hK1 hP 0 rfl rfl 1 (by decide) (hts (.fieldLink RX5 48 "KnowledgeModelModel" "worlds" "I") (List.mem_of_getElem? (i := 1) rfl)) (fun _ h9 => h9) rfl dX5_findLikes_40 ?_
                  refine xtop (y := nI n) (((hLR.2 0 1 (by decide)).trans hn)) ?_
                  refine lv_icmp_ge (tgt := 89) hx hb dX5_findLikes_43 (by decide) (fun c43 => ?_) (fun c43 => ?_)
                  ·
                    replace c43 : n ≤ j := k_get c43 (by omega) (by omega)
                    refine lv_iconst (v := (nI 0)) hx hb dX5_findLikes_89 (by decide) ?_
                    refine lv_istore_n (lv' := [(3, .int (nI 0)), (0, .ref (b 0)), (1, .int (nI 0)), (2, .ref q27)]) hx hb dX5_findLikes_90 rfl hl (by decide) rfl (fun ls hl => ?_)
                    have cut91 : ∀ (f91 : Nat) (j : Nat) (Mj : Nat → Nat → Int32) (hj : j ≤ n) (hLU : LU M n k j Mj), n + 1 ≤ j + f91 → ∀ (H : Heap) (locs : List Loc), va_P D vwCl (rc1 cs b Mj q27 Tf) H → va_S (kA b 12 s.heap.size) s.heap H locs → ∀ (ls : Array Slot), lv_has ls 5 [(0, .ref (b 0)), (1, .int (bI (!allB (fun w => decide (lkk M n k w = lkk M n (k + 1) w)) j))), (2, .ref q27), (3, .int (nI j))] → W p l e ({ frames := 3, cells := 1, slots := 24, locals := 70 } : Room) s m ([.ref (b 0)] : List Value).toArray below meth c H locs 1 24 Q (F0 m 91 ls []) := by
                      intro f91
                      induction f91 with
                      | zero => intro j Mj hj hLU hfu91; exact absurd hfu91 (by omega)
                      | succ f91 cut91 =>
                        intro j Mj hj hLU hfu91 H locs hP hS ls hl
                        have hl1 := lkk_le M n k j
                        have hl2 := lkk_le M n (k + 1) j
                        refine lv_iload_n hx hb dX5_findLikes_91 rfl (lv_at hl 3 rfl) ?_
                        refine lv_aload_n hx hb dX5_findLikes_92 rfl (lv_at hl 0 rfl) ?_
                        refine va_get (D := D) (ci := 5) (v := .int (Mj 0 1)) (C := RX5) (T := TX5) (N := 15) hx hb hts hinX5 hown hK1 hP 0 rfl rfl 1 (by decide) (hts (.fieldLink RX5 48 "KnowledgeModelModel" "worlds" "I") (List.mem_of_getElem? (i := 1) rfl)) (fun _ h9 => h9) rfl dX5_findLikes_93 ?_
                        refine xtop (y := nI n) (((hLU.2.2 0 1 (by decide)).trans hn)) ?_
                        refine lv_icmp_ge (tgt := 136) hx hb dX5_findLikes_96 (by decide) (fun c96 => ?_) (fun c96 => ?_)
                        ·
                          replace c96 : n ≤ j := k_get c96 (by omega) (by omega)
                          refine lv_goto (tgt := 30) hx hb dX5_findLikes_136 (by decide) ?_
                          have e_1 : (bI (!allB (fun w => decide (lkk M n k w = lkk M n (k + 1) w)) j)) = (bI (chgB M n k)) := by (have hje : j = n := by omega); subst hje; rfl
                          exact cut30 (k + 1) Mj Tf (chgB M n k) (by have h1 := hcnt c31; omega) (by (have hje : j = n := by omega); subst hje; exact ⟨fun x hx => hLU.1 x hx, hLU.2.2⟩) (by exact Or.inr ⟨by omega, rfl⟩) (by intro q; have h1 := rcn_grow q; have h2 := hcnt c31; omega) (by omega) _ _ hP hS ls (lcons (lcons (lcons (lzero hl) hl 2 rfl rfl) hl 1 rfl (congrArg Value.int e_1)) hl 0 rfl rfl)
                        ·
                          replace c96 : j < n := k_gef c96 (by omega) (by omega)
                          have cut121 : ∀ (H : Heap) (locs : List Loc), va_P D vwCl (rc1 cs b Mj q27 Tf) H → va_S (kA b 12 s.heap.size) s.heap H locs → ∀ (ls : Array Slot), lv_has ls 5 [(0, .ref (b 0)), (1, .int (bI (!allB (fun w => decide (lkk M n k w = lkk M n (k + 1) w)) (j + 1)))), (2, .ref q27), (3, .int (nI j))] → W p l e ({ frames := 3, cells := 1, slots := 24, locals := 70 } : Room) s m ([.ref (b 0)] : List Value).toArray below meth c H locs 1 24 Q (F0 m 121 ls []) := by
                            intro   H locs hP hS ls hl
                            refine lv_aload_n hx hb dX5_findLikes_121 rfl (lv_at hl 0 rfl) ?_
                            refine va_get (D := D) (ci := 5) (v := .ref (b 11)) (C := RX5) (T := TX5) (N := 15) hx hb hts hinX5 hown hK1 hP 0 rfl rfl 14 (by decide) (hts (.fieldLink RX5 41 "KnowledgeModelModel" "likes" "[I") (List.mem_of_getElem? (i := 2) rfl)) (fun _ h9 => h9) rfl dX5_findLikes_122 ?_
                            refine lv_iload_n hx hb dX5_findLikes_125 rfl (lv_at hl 3 rfl) ?_
                            refine lv_aload_n hx hb dX5_findLikes_126 rfl (lv_at hl 2 rfl) ?_
                            refine lv_iload_n hx hb dX5_findLikes_127 rfl (lv_at hl 3 rfl) ?_
                            refine xiald (j := j) (q0 := 12) (t0 := 0) hx hb hK1 hP rfl rfl (by omega) (by decide) dX5_findLikes_128 ?_
                            refine xtop (y := (nI (lkk M n (k + 1) j))) (by exact hT j (by omega)) ?_
                            refine xiast (j := j) (q0 := 11) (t0 := 0) (ws' := rc1 cs b (wr Mj 11 j (nI (lkk M n (k + 1) j))) q27 Tf) hx hb hK1 hP (vD_same hD1 rfl) hS rfl rfl (by omega) (by decide) rfl dX5_findLikes_129 (fun H locs hP hS => ?_)
                            obtain ⟨M_2, hM_2⟩ : ∃ z, z = wr Mj 11 j (nI (lkk M n (k + 1) j)) := ⟨_, rfl⟩
                            rw [← hM_2] at hP
                            have hk_3 : M_2 0 1 = nI n := by rw [hM_2]; exact (wr_ne (Or.inl (by omega))).trans ((hLU.2.2 0 1 (by decide)).trans hn)
                            refine lv_iinc (v := (nI (j + 1))) (lv' := [(3, .int (nI (j + 1))), (0, .ref (b 0)), (1, .int (bI (!allB (fun w => decide (lkk M n k w = lkk M n (k + 1) w)) (j + 1)))), (2, .ref q27)]) hx hb dX5_findLikes_130 hl (k := 3) rfl (nI_add j 1) (by decide) rfl (fun ls hl => ?_)
                            refine lv_goto (tgt := 91) hx hb dX5_findLikes_133 (by decide) ?_
                            exact cut91 (j + 1) M_2 (by omega) (by simp only [fo_0, c96, hM_2]; exact LU_s hLU) (by omega) _ _ hP hS ls (lcons (lcons (lcons (lcons (lzero hl) hl 0 rfl rfl) hl 3 rfl rfl) hl 2 rfl rfl) hl 1 rfl rfl)
                          refine lv_iload_n hx hb dX5_findLikes_99 rfl (lv_at hl 1 rfl) ?_
                          refine lv_if_ne (tgt := 115) hx hb dX5_findLikes_100 (by decide) (fun c100 => ?_) (fun c100 => ?_)
                          ·
                            replace c100 := bI_n0 c100
                            refine lv_iconst (v := (nI 1)) hx hb dX5_findLikes_115 (by decide) ?_
                            refine lv_goto (tgt := 120) hx hb dX5_findLikes_116 (by decide) ?_
                            refine lv_istore_n (lv' := [(1, .int (nI 1)), (0, .ref (b 0)), (2, .ref q27), (3, .int (nI j))]) hx hb dX5_findLikes_120 rfl hl (by decide) rfl (fun ls hl => ?_)
                            have e_4 : (nI 1) = (bI (!allB (fun w => decide (lkk M n k w = lkk M n (k + 1) w)) (j + 1))) := by first | (simp only [allB, decide_eq_true c112, Bool.and_true]; rw [c100]; rfl) | (simp only [allB, decide_eq_false c112, Bool.and_false]; rfl) | (simp only [allB]; rw [Bool.not_and, c100, Bool.true_or]; rfl)
                            exact cut121    _ _ hP hS ls (lcons (lcons (lcons (lcons (lzero hl) hl 3 rfl rfl) hl 2 rfl rfl) hl 0 rfl (congrArg Value.int e_4)) hl 1 rfl rfl)
                          ·
                            replace c100 := bI_0 c100
                            refine lv_aload_n hx hb dX5_findLikes_103 rfl (lv_at hl 0 rfl) ?_
                            refine va_get (D := D) (ci := 5) (v := .ref (b 11)) (C := RX5) (T := TX5) (N := 15) hx hb hts hinX5 hown hK1 hP 0 rfl rfl 14 (by decide) (hts (.fieldLink RX5 41 "KnowledgeModelModel" "likes" "[I") (List.mem_of_getElem? (i := 2) rfl)) (fun _ h9 => h9) rfl dX5_findLikes_104 ?_
                            refine lv_iload_n hx hb dX5_findLikes_107 rfl (lv_at hl 3 rfl) ?_
                            refine xiald (j := j) (q0 := 11) (t0 := 0) hx hb hK1 hP rfl rfl (by omega) (by decide) dX5_findLikes_108 ?_
                            refine xtop (y := (nI (lkk M n k j))) (by exact hLU.2.1 j (by omega) (by omega)) ?_
                            refine lv_aload_n hx hb dX5_findLikes_109 rfl (lv_at hl 2 rfl) ?_
                            refine lv_iload_n hx hb dX5_findLikes_110 rfl (lv_at hl 3 rfl) ?_
                            refine xiald (j := j) (q0 := 12) (t0 := 0) hx hb hK1 hP rfl rfl (by omega) (by decide) dX5_findLikes_111 ?_
                            refine xtop (y := (nI (lkk M n (k + 1) j))) (by exact hT j (by omega)) ?_
                            refine lv_icmp_eq (tgt := 119) hx hb dX5_findLikes_112 (by decide) (fun c112 => ?_) (fun c112 => ?_)
                            ·
                              replace c112 : (lkk M n k j) = (lkk M n (k + 1) j) := k_eqt c112 (by omega) (by omega)
                              refine lv_iconst (v := (nI 0)) hx hb dX5_findLikes_119 (by decide) ?_
                              refine lv_istore_n (lv' := [(1, .int (nI 0)), (0, .ref (b 0)), (2, .ref q27), (3, .int (nI j))]) hx hb dX5_findLikes_120 rfl hl (by decide) rfl (fun ls hl => ?_)
                              have e_5 : (nI 0) = (bI (!allB (fun w => decide (lkk M n k w = lkk M n (k + 1) w)) (j + 1))) := by first | (simp only [allB, decide_eq_true c112, Bool.and_true]; rw [c100]; rfl) | (simp only [allB, decide_eq_false c112, Bool.and_false]; rfl) | (simp only [allB]; rw [Bool.not_and, c100, Bool.true_or]; rfl)
                              exact cut121    _ _ hP hS ls (lcons (lcons (lcons (lcons (lzero hl) hl 3 rfl rfl) hl 2 rfl rfl) hl 0 rfl (congrArg Value.int e_5)) hl 1 rfl rfl)
                            ·
                              replace c112 : ¬ (lkk M n k j) = (lkk M n (k + 1) j) := k_eqf c112 (by omega) (by omega)
                              refine lv_iconst (v := (nI 1)) hx hb dX5_findLikes_115 (by decide) ?_
                              refine lv_goto (tgt := 120) hx hb dX5_findLikes_116 (by decide) ?_
                              refine lv_istore_n (lv' := [(1, .int (nI 1)), (0, .ref (b 0)), (2, .ref q27), (3, .int (nI j))]) hx hb dX5_findLikes_120 rfl hl (by decide) rfl (fun ls hl => ?_)
                              have e_6 : (nI 1) = (bI (!allB (fun w => decide (lkk M n k w = lkk M n (k + 1) w)) (j + 1))) := by first | (simp only [allB, decide_eq_true c112, Bool.and_true]; rw [c100]; rfl) | (simp only [allB, decide_eq_false c112, Bool.and_false]; rfl) | (simp only [allB]; rw [Bool.not_and, c100, Bool.true_or]; rfl)
                              exact cut121    _ _ hP hS ls (lcons (lcons (lcons (lcons (lzero hl) hl 3 rfl rfl) hl 2 rfl rfl) hl 0 rfl (congrArg Value.int e_6)) hl 1 rfl rfl)
                    have e_7 : (nI 0) = (bI (!allB (fun w => decide (lkk M n k w = lkk M n (k + 1) w)) 0)) := by rfl
                    exact cut91 (n + 1) 0 Mk (by omega) (by exact ⟨fun x hx => absurd hx (by omega), fun x _ hx => hLR.1 x hx, hLR.2⟩) (by omega) _ _ hP hS ls (lcons (lcons (lcons (lcons (lzero hl) hl 0 rfl rfl) hl 3 rfl rfl) hl 2 rfl (congrArg Value.int e_7)) hl 1 rfl rfl)
                  ·
                    replace c43 : j < n := k_gef c43 (by omega) (by omega)
                    refine lv_aload_n hx hb dX5_findLikes_46 rfl (lv_at hl 2 rfl) ?_
                    refine lv_iload_n hx hb dX5_findLikes_47 rfl (lv_at hl 3 rfl) ?_
                    refine lv_iload_n hx hb dX5_findLikes_48 rfl (lv_at hl 3 rfl) ?_
                    refine xiast (j := j) (q0 := 12) (t0 := 0) (ws' := rc1 cs b Mk q27 (upd Tf j (nI j))) hx hb hK1 hP (vD_same hD1 rfl) hS rfl rfl (by omega) (by decide) rfl dX5_findLikes_49 (fun H locs hP hS => ?_)
                    obtain ⟨T_8, hT_8⟩ : ∃ z, z = upd Tf j (nI j) := ⟨_, rfl⟩
                    rw [← hT_8] at hP
                    refine lv_iload_n hx hb dX5_findLikes_50 rfl (lv_at hl 3 rfl) ?_
                    refine lv_iconst (v := (nI 1)) hx hb dX5_findLikes_51 (by decide) ?_
                    refine lv_isub hx hb dX5_findLikes_52 ?_
                    refine lv_istore (lv' := [(4, .int ((nI j) - (nI 1))), (0, .ref (b 0)), (1, .int (nI 0)), (2, .ref q27), (3, .int (nI j))]) hx hb dX5_findLikes_53 hl (by decide) rfl (fun ls hl => ?_)
                    have cut55 : ∀ (f55 : Nat) (o : Nat) (Tf : Nat → Int32) (ho : o ≤ j) (hT2 : ∀ x, x < j → Tf x = nI (lkk M n (k + 1) x)) (hTj : Tf j = nI (dv (fun v => sameP M n (lkk M n k) v j) (cf M n (lkk M n k)) j (j - o))), o + 1 ≤ f55 → ∀ (H : Heap) (locs : List Loc), va_P D vwCl (rc1 cs b Mk q27 Tf) H → va_S (kA b 12 s.heap.size) s.heap H locs → ∀ (ls : Array Slot), lv_has ls 5 [(0, .ref (b 0)), (1, .int (nI 0)), (2, .ref q27), (3, .int (nI j)), (4, .int (nI o - nI 1))] → W p l e ({ frames := 3, cells := 1, slots := 24, locals := 70 } : Room) s m ([.ref (b 0)] : List Value).toArray below meth c H locs 1 24 Q (F0 m 55 ls []) := by
                      intro f55
                      induction f55 with
                      | zero => intro o Tf ho hT2 hTj hfu55; exact absurd hfu55 (by omega)
                      | succ f55 cut55 =>
                        intro o Tf ho hT2 hTj hfu55 H locs hP hS ls hl
                        refine lv_iload hx hb dX5_findLikes_55 (lv_at hl 4 rfl) ?_
                        refine lv_if_lt (tgt := 83) hx hb dX5_findLikes_57 (by decide) (fun c57 => ?_) (fun c57 => ?_)
                        ·
                          refine lv_iinc (v := (nI (j + 1))) (lv' := [(3, .int (nI (j + 1))), (0, .ref (b 0)), (1, .int (nI 0)), (2, .ref q27), (4, .int (nI o - nI 1))]) hx hb dX5_findLikes_83 hl (k := 3) rfl (nI_add j 1) (by decide) rfl (fun ls hl => ?_)
                          refine lv_goto (tgt := 38) hx hb dX5_findLikes_86 (by decide) ?_
                          exact cut38 (j + 1) Tf (by omega) (by intro x hx; rcases Nat.lt_or_ge x j with qq | qq; exact hT2 x qq; (have hxe : x = j := by omega); subst hxe; rw [hTj, show o = 0 from (m1_iff (by omega)).mp c57]; exact congrArg nI dv_end) (by omega) _ _ hP hS ls (lcons (lcons (lcons (lcons (lzero hl) hl 0 rfl rfl) hl 3 rfl rfl) hl 2 rfl rfl) hl 1 rfl rfl)
                        ·
                          have c57n : ¬ o = 0 := fun q => c57 ((m1_iff (by omega)).mpr q)
                          have hoe : nI o - nI 1 = nI (o - 1) := by rw [show o = o - 1 + 1 by omega]; exact nI_pred (o - 1)
                          have hl : lv_has ls 5 [(0, .ref (b 0)), (1, .int (nI 0)), (2, .ref q27), (3, .int (nI j)), (4, .int (nI (o - 1)))] := (lcons (lcons (lcons (lcons (lcons (lzero hl) hl 4 rfl (congrArg Value.int hoe)) hl 3 rfl rfl) hl 2 rfl rfl) hl 1 rfl rfl) hl 0 rfl rfl)
                          refine lv_aload_n hx hb dX5_findLikes_60 rfl (lv_at hl 0 rfl) ?_
                          refine lv_iload hx hb dX5_findLikes_61 (lv_at hl 4 rfl) ?_
                          refine lv_iload_n hx hb dX5_findLikes_63 rfl (lv_at hl 3 rfl) ?_
                          refine xcalli (va_runV (As := [.int (nI (o - 1)), .int (nI j)]) (rest := []) ⟨hx, hb, hml, hown, hts⟩ (c_X5_areSame l D cs b Mk n (lkk M n k) (o - 1) j ((hLR.2 0 1 (by decide)).trans hn) (by omega) (fun w hw => hLR.1 w hw) (by omega) (by omega)) (cwV 2 hts gX5_findLikes_X5_areSame rfl rfl rfl (by decide +kernel) ⟨Nat.le_of_ble_eq_true rfl, Nat.le_of_ble_eq_true rfl⟩) (xpreV (r1P hP) hK (ci := 5) 0 rfl rfl) rfl rfl hl.1 rfl (lv_room (Nat.le_of_ble_eq_true rfl)) dX5_findLikes_64 ⟨Nat.le_of_ble_eq_true rfl, Nat.le_of_ble_eq_true rfl⟩) hS hP (fun H locs hP hS => ?_)
                          refine xtop (y := (bI (sameP M n (lkk M n k) (o - 1) j))) (by rw [same_link hn24 hLR (by omega) (by omega)]) ?_
                          refine lv_if_eq (tgt := 77) hx hb dX5_findLikes_67 (by decide) (fun c67 => ?_) (fun c67 => ?_)
                          ·
                            replace c67 := bI_0 c67
                            refine lv_iinc (v := ((nI (o - 1)) + (-1))) (lv' := [(4, .int ((nI (o - 1)) + (-1))), (0, .ref (b 0)), (1, .int (nI 0)), (2, .ref q27), (3, .int (nI j))]) hx hb dX5_findLikes_77 hl (k := 4) rfl rfl (by decide) rfl (fun ls hl => ?_)
                            refine lv_goto (tgt := 55) hx hb dX5_findLikes_80 (by decide) ?_
                            have e_9 : ((nI (o - 1)) + (-1)) = (nI (o - 1) - nI 1) := by rw [Int32.sub_eq_add_neg]; rfl
                            exact cut55 (o - 1) Tf (by have h1 := c57n; omega) (by first | exact hT2 | (intro x hx; simp only [upd, c57, c67]; rw [if_neg (by omega)]; exact hT2 x hx)) (by rw [show j - (o - 1) = j - o + 1 by omega]; show _ = nI (if sameP M n (lkk M n k) (j - 1 - (j - o)) j then _ else _); rw [show j - 1 - (j - o) = o - 1 by omega]; first | (rw [c67]; exact hTj) | (rw [c67]; simp only [upd, if_true, c57, c67])) (by omega) _ _ hP hS ls (lcons (lcons (lcons (lcons (lcons (lzero hl) hl 0 rfl (congrArg Value.int e_9)) hl 4 rfl rfl) hl 3 rfl rfl) hl 2 rfl rfl) hl 1 rfl rfl)
                          ·
                            replace c67 := bI_n0 c67
                            refine lv_aload_n hx hb dX5_findLikes_70 rfl (lv_at hl 2 rfl) ?_
                            refine lv_iload_n hx hb dX5_findLikes_71 rfl (lv_at hl 3 rfl) ?_
                            refine lv_aload_n hx hb dX5_findLikes_72 rfl (lv_at hl 2 rfl) ?_
                            refine lv_iload hx hb dX5_findLikes_73 (lv_at hl 4 rfl) ?_
                            refine xiald (j := o - 1) (q0 := 12) (t0 := 0) hx hb hK1 hP rfl rfl (by omega) (by decide) dX5_findLikes_75 ?_
                            refine xtop (y := (nI (cf M n (lkk M n k) (o - 1)))) (by exact hT2 (o - 1) (by omega)) ?_
                            refine xiast (j := j) (q0 := 12) (t0 := 0) (ws' := rc1 cs b Mk q27 (upd Tf j (nI (cf M n (lkk M n k) (o - 1))))) hx hb hK1 hP (vD_same hD1 rfl) hS rfl rfl (by omega) (by decide) rfl dX5_findLikes_76 (fun H locs hP hS => ?_)
                            obtain ⟨T_10, hT_10⟩ : ∃ z, z = upd Tf j (nI (cf M n (lkk M n k) (o - 1))) := ⟨_, rfl⟩
                            rw [← hT_10] at hP
                            refine lv_iinc (v := ((nI (o - 1)) + (-1))) (lv' := [(4, .int ((nI (o - 1)) + (-1))), (0, .ref (b 0)), (1, .int (nI 0)), (2, .ref q27), (3, .int (nI j))]) hx hb dX5_findLikes_77 hl (k := 4) rfl rfl (by decide) rfl (fun ls hl => ?_)
                            refine lv_goto (tgt := 55) hx hb dX5_findLikes_80 (by decide) ?_
                            have e_11 : ((nI (o - 1)) + (-1)) = (nI (o - 1) - nI 1) := by rw [Int32.sub_eq_add_neg]; rfl
                            exact cut55 (o - 1) T_10 (by have h1 := c57n; omega) (by first | exact hT2 | (intro x hx; simp only [upd, c57, c67, hT_10]; rw [if_neg (by omega)]; exact hT2 x hx)) (by rw [show j - (o - 1) = j - o + 1 by omega]; show _ = nI (if sameP M n (lkk M n k) (j - 1 - (j - o)) j then _ else _); rw [show j - 1 - (j - o) = o - 1 by omega]; first | (rw [c67]; exact hTj) | (rw [c67]; simp only [upd, if_true, c57, c67, hT_10])) (by omega) _ _ hP hS ls (lcons (lcons (lcons (lcons (lcons (lzero hl) hl 0 rfl (congrArg Value.int e_11)) hl 4 rfl rfl) hl 3 rfl rfl) hl 2 rfl rfl) hl 1 rfl rfl)
                    have e_12 : ((nI j) - (nI 1)) = (nI j - nI 1) := by first | rfl | assumption
                    exact cut55 (j + 1) j T_8 (by omega) (by intro x hx; simp only [upd, c43, hT_8]; rw [if_neg (by omega)]; exact hT x hx) (by simp only [upd, if_true, Nat.sub_self, c43, hT_8]; rfl) (by omega) _ _ hP hS ls (lcons (lcons (lcons (lcons (lcons (lzero hl) hl 0 rfl (congrArg Value.int e_12)) hl 4 rfl rfl) hl 3 rfl rfl) hl 2 rfl rfl) hl 1 rfl rfl)
              exact cut38 (n + 1) 0 Tf (by omega) (by intro x hx; omega) (by omega) _ _ hP hS ls (lcons (lcons (lcons (lcons (lzero hl) hl 0 rfl rfl) hl 3 rfl rfl) hl 1 rfl rfl) hl 2 rfl rfl)
        have e_13 : (nI 1) = (bI true) := by rfl
        have eM_14 : zlC M j = (zlC M j) := by first | rfl | (simp [fo_s, c7]; done) | (simp [fo_s, c7] <;> rfl)
        exact cut30 (26) 0 (zlC M j) (fun _ => 0) true (by omega) (by (have hje : j = n := by omega); subst hje; exact LR_0) (by exact Or.inl ⟨rfl, rfl⟩) (by intro _; exact Nat.zero_le _) (by omega) _ _ (eM_14 ▸ hP) hS ls (lcons (lcons (lcons (lzero hl) hl 0 rfl rfl) hl 1 rfl (congrArg Value.int e_13)) hl 2 rfl rfl)
      ·
        replace c7 : j < n := k_gef c7 (by omega) (by omega)
        refine lv_aload_n hx hb dX5_findLikes_10 rfl (lv_at hl 0 rfl) ?_
        refine va_get (D := D) (ci := 5) (v := .ref (b 11)) (C := RX5) (T := TX5) (N := 15) hx hb hts hinX5 hown hK1 hP 0 rfl rfl 14 (by decide) (hts (.fieldLink RX5 41 "KnowledgeModelModel" "likes" "[I") (List.mem_of_getElem? (i := 2) rfl)) (fun _ h9 => h9) rfl dX5_findLikes_11 ?_
        refine lv_iload_n hx hb dX5_findLikes_14 rfl (lv_at hl 1 rfl) ?_
        refine lv_iconst (v := (nI 0)) hx hb dX5_findLikes_15 (by decide) ?_
        refine xiast (j := j) (q0 := 11) (t0 := 0) (ws' := rc cs b (wr (zlC M j) 11 j (nI 0))) hx hb hK1 hP (rD hI) hS rfl rfl (by omega) (by decide) rs_11 dX5_findLikes_16 (fun H locs hP hS => ?_)
        obtain ⟨M_15, hM_15⟩ : ∃ z, z = wr (zlC M j) 11 j (nI 0) := ⟨_, rfl⟩
        rw [← hM_15] at hP
        have hk_16 : M_15 0 1 = nI n := by rw [hM_15]; exact (wr_ne (Or.inl (by omega))).trans ((zlC_o (by decide)).trans hn)
        refine lv_iinc (v := (nI (j + 1))) (lv' := [(1, .int (nI (j + 1))), (0, .ref (b 0))]) hx hb dX5_findLikes_17 hl (k := 1) rfl (nI_add j 1) (by decide) rfl (fun ls hl => ?_)
        refine lv_goto (tgt := 2) hx hb dX5_findLikes_20 (by decide) ?_
        have eM_17 : M_15 = zlC M (j + 1) := by funext i x; simp only [wr_eq, zlC, c7, hM_15]; grind
        exact cut2 (j + 1) (by omega) (by omega) _ _ (eM_17 ▸ hP) hS ls (lcons (lcons (lzero hl) hl 0 rfl rfl) hl 1 rfl rfl)
  have eM_18 : M = zlC M 0 := by funext i x; unfold zlC; rw [if_neg (by omega)]
  exact cut2 (n + 1) 0 (by omega) (by omega) _ _ (eM_18 ▸ hP) hS ls (lcons (lcons (lzero hl) hl 0 rfl rfl) hl 1 rfl rfl)

def conC (M : Nat → Nat → Int32) (lk : Nat → Nat) (n q j : Nat) : Nat → Nat → Int32 := fun i x => if i = 2 ∧ (x / 24 < q ∧ x % 24 < n ∨ x / 24 = q ∧ x % 24 < j) then clsIn n lk (M i x) else M i x
theorem conC_o {M : Nat → Nat → Int32} {lk : Nat → Nat} {n q j i x : Nat} (h : i ≠ 2) : conC M lk n q j i x = M i x := if_neg (fun f => h f.1)
theorem conC_at {M : Nat → Nat → Int32} {lk : Nat → Nat} {n q j : Nat} (hj : j < 24) : conC M lk n q j 2 (24 * q + j) = M 2 (24 * q + j) := if_neg (by omega)
theorem conC_s {M : Nat → Nat → Int32} {lk : Nat → Nat} {n q j : Nat} (hj : j < 24) : wr (conC M lk n q j) 2 (24 * q + j) (clsIn n lk (M 2 (24 * q + j))) = conC M lk n q (j + 1) := by
  funext i x
  rw [wr_eq]
  unfold conC
  by_cases h : i = 2 ∧ x = 24 * q + j
  · obtain ⟨rfl, rfl⟩ := h
    rw [if_pos ⟨rfl, rfl⟩, if_pos (by omega)]
  · rw [if_neg h]
    have : (i = 2 ∧ (x / 24 < q ∧ x % 24 < n ∨ x / 24 = q ∧ x % 24 < j)) ↔ (i = 2 ∧ (x / 24 < q ∧ x % 24 < n ∨ x / 24 = q ∧ x % 24 < j + 1)) := by omega
    simp only [this]
theorem conC_e {M : Nat → Nat → Int32} {lk : Nat → Nat} {n q : Nat} : conC M lk n q n = conC M lk n (q + 1) 0 := by
  funext i x
  unfold conC
  have : (i = 2 ∧ (x / 24 < q ∧ x % 24 < n ∨ x / 24 = q ∧ x % 24 < n)) ↔ (i = 2 ∧ (x / 24 < q + 1 ∧ x % 24 < n ∨ x / 24 = q + 1 ∧ x % 24 < 0)) := by omega
  simp only [this]
def repS (lk : Nat → Nat) (n : Nat) : Int32 := fo (fun w r => r ||| sg (lk w)) (nI 0) n
def ConF (M : Nat → Nat → Int32) (n act : Nat) (u : Nat → Nat → Int32) : Prop := ∃ K u1, LR (wr M 0 0 (nI 0)) n (K + 1) u1 ∧ chgB (wr M 0 0 (nI 0)) n K = false ∧ KeepRF (if n = 0 then conC u1 (lkk (wr M 0 0 (nI 0)) n (K + 1)) n 4 0 else wr (conC u1 (lkk (wr M 0 0 (nI 0)) n (K + 1)) n 4 0) 0 2 (nI (lkk (wr M 0 0 (nI 0)) n (K + 1) act))) n (if n = 0 then act else lkk (wr M 0 0 (nI 0)) n (K + 1) act) (repS (lkk (wr M 0 0 (nI 0)) n (K + 1)) n) u

set_option maxHeartbeats 4000000 in
set_option maxRecDepth 100000 in
theorem c_X5_contract (l : Launch) (D : va_G) (cs : Nat → ClassId) (b : Nat → Nat) (M : Nat → Nat → Int32) (sz : Nat) (hI : kI b 12)  (n : Nat) (act : Nat)  (hn : M 0 1 = nI n) (hn24 : n ≤ 24) (hact : M 0 2 = nI act) (han : 0 < n → act < n) : Met l yX5_contract wsX5_contract ({ frames := 5, cells := 2, slots := 48, locals := 110 } : Room) (va_Pc [.ref (b 0)] (XBs D cs (rc cs b M) sz)) (va_Qi (fun r (u : Nat → Nat → Int32) => r = u 0 1 ∧ ConF M n act u) (fun (u : Nat → Nat → Int32) t => va_P D vwCl (rc cs b u) t.heap) (kA b 12 sz)) 2 48 (kA b 12 sz) := by
  refine Met.ofW (cc := cX5_contract) (maxL := 4) (ret := (some .int)) (by decide) rfl ?_
  intro p e s m args below meth c s₁ B hml hv
  obtain ⟨rfl, hsz, hP, hK⟩ := hv
  have hx := B.exec
  have hb := B.bytes
  have hr := B.returns
  have hts := atoms_spec (ws := wsX5_contract) B.pre
  have hown : s.vm.findClass RX5 = some m.cls := findClass_of_methodNamed B.named
  have hlocks := B.notSynchronized
  have hK1 := hK.1
  have hinX5 : ∀ w ∈ wsX50, w ∈ wsX5_contract := fun w h => List.mem_cons_of_mem _ (List.mem_append_right _ h)
  subst hsz
  have hS : va_S (kA b 12 s.heap.size) s.heap s.heap [] := va_S.rf
  have hl := lv_entry ([.ref (b 0)]) (n := 4) (Nat.le_of_ble_eq_true rfl)
  rw [lg_entry_eq]
  generalize (lg_sl ([.ref (b 0)]) ++ List.replicate (4 - (lg_sl ([.ref (b 0)])).length) Slot.unset).toArray = ls at hl ⊢
  have hl : lv_has ls 4 [(0, .ref (b 0))] := hl
  refine W_Q (fun Q hQ => ?_)
  show W p l e ({ frames := 5, cells := 2, slots := 48, locals := 110 } : Room) s m ([.ref (b 0)] : List Value).toArray below meth c s.heap [] 0 0 Q (F0 m 0 ls [])
  refine lv_aload_n hx hb dX5_contract_0 rfl (lv_at hl 0 rfl) ?_
  refine lv_iconst (v := (nI 0)) hx hb dX5_contract_1 (by decide) ?_
  refine xput (D := D) (ci := 5) (v := .int (nI 0)) (ty := .int) (C := RX5) (T := TX5) (N := 15) (ws' := rc cs b (wr M 0 0 (nI 0))) hx hb hts hinX5 tyX5 tyX5_ok nmX5 hown hK1 hP (rD hI) hS 0 rfl rfl 0 (by decide) (hts (.fieldLink RX5 44 "KnowledgeModelModel" "thrown" "I") (List.mem_of_getElem? (i := 1) rfl)) (fun _ h9 => h9) rfl (by decide +kernel) rfl rfl (Nat.le_of_ble_eq_true rfl) rfl dX5_contract_2 (fun H locs hP hS => ?_)
  obtain ⟨M_1, hM_1⟩ : ∃ z, z = wr M 0 0 (nI 0) := ⟨_, rfl⟩
  rw [← hM_1] at hP
  have hk_2 : M_1 0 1 = nI n := by rw [hM_1]; exact (wr_ne (Or.inr (by decide))).trans hn
  have hk_3 : M_1 0 2 = nI act := by rw [hM_1]; exact (wr_ne (Or.inr (by decide))).trans hact
  have hk_4 : M_1 0 0 = nI 0 := by rw [hM_1]; exact wr_same
  refine lv_aload_n hx hb dX5_contract_5 rfl (lv_at hl 0 rfl) ?_
  refine xcallwv (va_runV (As := []) (rest := []) ⟨hx, hb, hml, hown, hts⟩ (c_X5_findLikes l D cs b M_1 _ hI n hk_2 (by omega)) (cwV 0 hts gX5_contract_X5_findLikes rfl rfl rfl (by decide +kernel) ⟨Nat.le_of_ble_eq_true rfl, Nat.le_of_ble_eq_true rfl⟩) (xpreVs hP hK (ci := 5) 0 rfl rfl) rfl rfl hl.1 rfl (lv_room (Nat.le_of_ble_eq_true rfl)) dX5_contract_6 ⟨Nat.le_of_ble_eq_true rfl, Nat.le_of_ble_eq_true rfl⟩) hS (kAle hS.1) (fun u_5 H locs hu_5 hP _ _ hS => ?_)
  refine W.widen (k := 1) (n := 24) (by decide) (by decide) ?_
  have hP : va_P D vwCl (rc cs b u_5) H := hP
  obtain ⟨K, hLR, hst⟩ : FindL (wr M 0 0 (nI 0)) n u_5 := by have h9 := hu_5; simp only [fo_0, hM_1] at h9; exact h9
  obtain ⟨lk, hlkd⟩ : ∃ z, z = lkk (wr M 0 0 (nI 0)) n (K + 1) := ⟨_, rfl⟩
  have hlk : ∀ w, w < n → u_5 11 w = nI (lk w) := fun w hw => by rw [hlkd]; exact hLR.1 w hw
  have hlle : ∀ w, lk w ≤ w := fun w => by rw [hlkd]; exact lkk_le _ _ _ _
  have hku1 : u_5 0 1 = nI n := (hLR.2 0 1 (by decide)).trans ((wr_ne (Or.inr (by decide))).trans hn)
  have hku2 : u_5 0 2 = nI act := (hLR.2 0 2 (by decide)).trans ((wr_ne (Or.inr (by decide))).trans hact)
  refine lv_iconst (v := (nI 0)) hx hb dX5_contract_9 (by decide) ?_
  refine lv_istore_n (lv' := [(1, .int (nI 0)), (0, .ref (b 0))]) hx hb dX5_contract_10 rfl hl (by decide) rfl (fun ls hl => ?_)
  refine lv_iconst (v := (nI 0)) hx hb dX5_contract_11 (by decide) ?_
  refine lv_istore_n (lv' := [(2, .int (nI 0)), (1, .int (nI 0)), (0, .ref (b 0))]) hx hb dX5_contract_12 rfl hl (by decide) rfl (fun ls hl => ?_)
  have cut13 : ∀ (f13 : Nat) (j : Nat) (hj : j ≤ n), n + 1 ≤ j + f13 → ∀ (H : Heap) (locs : List Loc), va_P D vwCl (rc cs b u_5) H → va_S (kA b 12 s.heap.size) s.heap H locs → ∀ (ls : Array Slot), lv_has ls 4 [(0, .ref (b 0)), (1, .int (repS lk j)), (2, .int (nI j))] → W p l e ({ frames := 5, cells := 2, slots := 48, locals := 110 } : Room) s m ([.ref (b 0)] : List Value).toArray below meth c H locs 1 24 Q (F0 m 13 ls []) := by
    intro f13
    induction f13 with
    | zero => intro j hj hfu13; exact absurd hfu13 (by omega)
    | succ f13 cut13 =>
      intro j hj hfu13 H locs hP hS ls hl
      refine lv_iload_n hx hb dX5_contract_13 rfl (lv_at hl 2 rfl) ?_
      refine lv_aload_n hx hb dX5_contract_14 rfl (lv_at hl 0 rfl) ?_
      refine va_get (D := D) (ci := 5) (v := .int (u_5 0 1)) (C := RX5) (T := TX5) (N := 15) hx hb hts hinX5 hown hK1 hP 0 rfl rfl 1 (by decide) (hts (.fieldLink RX5 48 "KnowledgeModelModel" "worlds" "I") (List.mem_of_getElem? (i := 2) rfl)) (fun _ h9 => h9) rfl dX5_contract_15 ?_
      refine xtop (y := nI n) (hku1) ?_
      refine lv_icmp_ge (tgt := 38) hx hb dX5_contract_18 (by decide) (fun c18 => ?_) (fun c18 => ?_)
      ·
        replace c18 : n ≤ j := k_get c18 (by omega) (by omega)
        refine lv_iconst (v := (nI 0)) hx hb dX5_contract_38 (by decide) ?_
        refine lv_istore_n (lv' := [(2, .int (nI 0)), (0, .ref (b 0)), (1, .int (repS lk j))]) hx hb dX5_contract_39 rfl hl (by decide) rfl (fun ls hl => ?_)
        have cut40 : ∀ (f40 : Nat) (q : Nat) (hq : q ≤ 4), 4 + 1 ≤ q + f40 → ∀ (H : Heap) (locs : List Loc), va_P D vwCl (rc cs b (conC u_5 lk n q 0)) H → va_S (kA b 12 s.heap.size) s.heap H locs → ∀ (ls : Array Slot), lv_has ls 4 [(0, .ref (b 0)), (1, .int (repS lk n)), (2, .int (nI q))] → W p l e ({ frames := 5, cells := 2, slots := 48, locals := 110 } : Room) s m ([.ref (b 0)] : List Value).toArray below meth c H locs 1 24 Q (F0 m 40 ls []) := by
          intro f40
          induction f40 with
          | zero => intro q hq hfu40; exact absurd hfu40 (by omega)
          | succ f40 cut40 =>
            intro q hq hfu40 H locs hP hS ls hl
            refine lv_iload_n hx hb dX5_contract_40 rfl (lv_at hl 2 rfl) ?_
            refine lv_iconst (v := (nI 4)) hx hb dX5_contract_41 (by decide) ?_
            refine lv_icmp_ge (tgt := 93) hx hb dX5_contract_42 (by decide) (fun c42 => ?_) (fun c42 => ?_)
            ·
              replace c42 : 4 ≤ q := k_get c42 (by omega) (by omega)
              refine lv_aload_n hx hb dX5_contract_93 rfl (lv_at hl 0 rfl) ?_
              refine va_get (D := D) (ci := 5) (v := .int ((conC u_5 lk n q 0) 0 1)) (C := RX5) (T := TX5) (N := 15) hx hb hts hinX5 hown hK1 hP 0 rfl rfl 1 (by decide) (hts (.fieldLink RX5 48 "KnowledgeModelModel" "worlds" "I") (List.mem_of_getElem? (i := 2) rfl)) (fun _ h9 => h9) rfl dX5_contract_94 ?_
              refine xtop (y := nI n) (((conC_o (by decide)).trans hku1)) ?_
              refine lv_if_le (tgt := 113) hx hb dX5_contract_97 (by decide) (fun c97 => ?_) (fun c97 => ?_)
              ·
                replace c97 : n ≤ 0 := k0_let c97 (by omega)
                refine lv_aload_n hx hb dX5_contract_113 rfl (lv_at hl 0 rfl) ?_
                refine lv_iload_n hx hb dX5_contract_114 rfl (lv_at hl 1 rfl) ?_
                refine xcallwi (va_runV (As := [.int (repS lk n)]) (rest := []) ⟨hx, hb, hml, hown, hts⟩ (c_X5_keep l D cs b (conC u_5 lk n q 0) _ hI n act (repS lk n) ((conC_o (by decide)).trans hku1) (by omega) ((conC_o (by decide)).trans hku2) (by intro h9; have := hlle act; have := han h9; omega)) (cwV 1 hts gX5_contract_X5_keep rfl rfl rfl (by decide +kernel) ⟨Nat.le_of_ble_eq_true rfl, Nat.le_of_ble_eq_true rfl⟩) (xpreVs hP hK (ci := 5) 0 rfl rfl) rfl rfl hl.1 rfl (lv_room (Nat.le_of_ble_eq_true rfl)) dX5_contract_115 ⟨Nat.le_of_ble_eq_true rfl, Nat.le_of_ble_eq_true rfl⟩) hS (kAle hS.1) (fun u_6 H locs hu_6 hP _ _ hS => ?_)
                refine W.widen (k := 2) (n := 48) (by decide) (by decide) ?_
                have hP : va_P D vwCl (rc cs b u_6) H := hP
                have hk_7 : u_6 0 1 = nI (rk (repS lk n) n) := by obtain ⟨_, _, h9⟩ := hu_6; rw [h9]; exact wr_same
                refine lv_pop hx hb dX5_contract_118 rfl ?_
                refine lv_aload_n hx hb dX5_contract_119 rfl (lv_at hl 0 rfl) ?_
                refine va_get (D := D) (ci := 5) (v := .int (u_6 0 1)) (C := RX5) (T := TX5) (N := 15) hx hb hts hinX5 hown hK1 hP 0 rfl rfl 1 (by decide) (hts (.fieldLink RX5 48 "KnowledgeModelModel" "worlds" "I") (List.mem_of_getElem? (i := 2) rfl)) (fun _ h9 => h9) rfl dX5_contract_120 ?_
                refine xtop (y := nI (rk (repS lk n) n)) (hk_7) ?_
                subst hQ
                have hrel : ConF M n act u_6 := by (have hqe : q = 4 := by omega); subst hqe; refine ⟨K, _, hLR, hst, ?_⟩; rw [← hlkd]; first | (rw [if_pos (by omega), if_pos (by omega)]; have h9 := hu_6; (try simp only [fo_0, hM_1, c18, c42, c97] at h9); exact h9) | (rw [if_neg (by omega), if_neg (by omega)]; have h9 := hu_6; (try simp only [fo_0, hM_1, c18, c42, c97] at h9); exact h9)
                have hfin : (nI (rk (repS lk n) n)) = u_6 0 1 := by first | exact (hk_99).symm | (symm; assumption)
                exact W.iret hx hb hr (fun t ht hW => ⟨⟨_, u_6, rfl, ⟨hfin, hrel⟩, by rw [← ht] at hP; exact hP⟩, hS.F ht⟩) hS.2.2 dX5_contract_123
              ·
                replace c97 : 0 < n := k0_lef c97 (by omega)
                refine lv_aload_n hx hb dX5_contract_100 rfl (lv_at hl 0 rfl) ?_
                refine lv_aload_n hx hb dX5_contract_101 rfl (lv_at hl 0 rfl) ?_
                refine va_get (D := D) (ci := 5) (v := .ref (b 11)) (C := RX5) (T := TX5) (N := 15) hx hb hts hinX5 hown hK1 hP 0 rfl rfl 14 (by decide) (hts (.fieldLink RX5 41 "KnowledgeModelModel" "likes" "[I") (List.mem_of_getElem? (i := 3) rfl)) (fun _ h9 => h9) rfl dX5_contract_102 ?_
                refine lv_aload_n hx hb dX5_contract_105 rfl (lv_at hl 0 rfl) ?_
                refine va_get (D := D) (ci := 5) (v := .int ((conC u_5 lk n q 0) 0 2)) (C := RX5) (T := TX5) (N := 15) hx hb hts hinX5 hown hK1 hP 0 rfl rfl 2 (by decide) (hts (.fieldLink RX5 62 "KnowledgeModelModel" "actual" "I") (List.mem_of_getElem? (i := 5) rfl)) (fun _ h9 => h9) rfl dX5_contract_106 ?_
                refine xtop (y := nI act) (((conC_o (by decide)).trans hku2)) ?_
                refine xiald (j := act) (q0 := 11) (t0 := 0) hx hb hK1 hP rfl rfl (by have := han (by omega); omega) (by decide) dX5_contract_109 ?_
                refine xtop (y := (nI (lk act))) (by exact (conC_o (by decide)).trans (hlk act (han (by omega)))) ?_
                refine xput (D := D) (ci := 5) (v := .int (nI (lk act))) (ty := .int) (C := RX5) (T := TX5) (N := 15) (ws' := rc cs b (wr (conC u_5 lk n q 0) 0 2 (nI (lk act)))) hx hb hts hinX5 tyX5 tyX5_ok nmX5 hown hK1 hP (rD hI) hS 0 rfl rfl 2 (by decide) (hts (.fieldLink RX5 62 "KnowledgeModelModel" "actual" "I") (List.mem_of_getElem? (i := 5) rfl)) (fun _ h9 => h9) rfl (by decide +kernel) rfl rfl (Nat.le_of_ble_eq_true rfl) rfl dX5_contract_110 (fun H locs hP hS => ?_)
                obtain ⟨M_8, hM_8⟩ : ∃ z, z = wr (conC u_5 lk n q 0) 0 2 (nI (lk act)) := ⟨_, rfl⟩
                rw [← hM_8] at hP
                have hk_9 : M_8 0 1 = nI n := by rw [hM_8]; exact (wr_ne (Or.inr (by decide))).trans ((conC_o (by decide)).trans hku1)
                have hk_10 : M_8 0 2 = nI (lk act) := by rw [hM_8]; exact wr_same
                refine lv_aload_n hx hb dX5_contract_113 rfl (lv_at hl 0 rfl) ?_
                refine lv_iload_n hx hb dX5_contract_114 rfl (lv_at hl 1 rfl) ?_
                refine xcallwi (va_runV (As := [.int (repS lk n)]) (rest := []) ⟨hx, hb, hml, hown, hts⟩ (c_X5_keep l D cs b M_8 _ hI n (lk act) (repS lk n) hk_9 (by omega) hk_10 (by intro h9; have := hlle act; have := han h9; omega)) (cwV 1 hts gX5_contract_X5_keep rfl rfl rfl (by decide +kernel) ⟨Nat.le_of_ble_eq_true rfl, Nat.le_of_ble_eq_true rfl⟩) (xpreVs hP hK (ci := 5) 0 rfl rfl) rfl rfl hl.1 rfl (lv_room (Nat.le_of_ble_eq_true rfl)) dX5_contract_115 ⟨Nat.le_of_ble_eq_true rfl, Nat.le_of_ble_eq_true rfl⟩) hS (kAle hS.1) (fun u_11 H locs hu_11 hP _ _ hS => ?_)
                refine W.widen (k := 2) (n := 48) (by decide) (by decide) ?_
                have hP : va_P D vwCl (rc cs b u_11) H := hP
                have hk_12 : u_11 0 1 = nI (rk (repS lk n) n) := by obtain ⟨_, _, h9⟩ := hu_11; rw [h9]; exact wr_same
                refine lv_pop hx hb dX5_contract_118 rfl ?_
                refine lv_aload_n hx hb dX5_contract_119 rfl (lv_at hl 0 rfl) ?_
                refine va_get (D := D) (ci := 5) (v := .int (u_11 0 1)) (C := RX5) (T := TX5) (N := 15) hx hb hts hinX5 hown hK1 hP 0 rfl rfl 1 (by decide) (hts (.fieldLink RX5 48 "KnowledgeModelModel" "worlds" "I") (List.mem_of_getElem? (i := 2) rfl)) (fun _ h9 => h9) rfl dX5_contract_120 ?_
                refine xtop (y := nI (rk (repS lk n) n)) (hk_12) ?_
                subst hQ
                have hrel : ConF M n act u_11 := by (have hqe : q = 4 := by omega); subst hqe; refine ⟨K, _, hLR, hst, ?_⟩; rw [← hlkd]; first | (rw [if_pos (by omega), if_pos (by omega)]; have h9 := hu_11; (try simp only [fo_0, hM_1, c18, c42, c97, hM_8] at h9); exact h9) | (rw [if_neg (by omega), if_neg (by omega)]; have h9 := hu_11; (try simp only [fo_0, hM_1, c18, c42, c97, hM_8] at h9); exact h9)
                have hfin : (nI (rk (repS lk n) n)) = u_11 0 1 := by first | exact (hk_99).symm | (symm; assumption)
                exact W.iret hx hb hr (fun t ht hW => ⟨⟨_, u_11, rfl, ⟨hfin, hrel⟩, by rw [← ht] at hP; exact hP⟩, hS.F ht⟩) hS.2.2 dX5_contract_123
            ·
              replace c42 : q < 4 := k_gef c42 (by omega) (by omega)
              refine lv_iconst (v := (nI 0)) hx hb dX5_contract_45 (by decide) ?_
              refine lv_istore_n (lv' := [(3, .int (nI 0)), (0, .ref (b 0)), (1, .int (repS lk n)), (2, .int (nI q))]) hx hb dX5_contract_46 rfl hl (by decide) rfl (fun ls hl => ?_)
              have cut47 : ∀ (f47 : Nat) (j : Nat) (hj : j ≤ n), n + 1 ≤ j + f47 → ∀ (H : Heap) (locs : List Loc), va_P D vwCl (rc cs b (conC u_5 lk n q j)) H → va_S (kA b 12 s.heap.size) s.heap H locs → ∀ (ls : Array Slot), lv_has ls 4 [(0, .ref (b 0)), (1, .int (repS lk n)), (2, .int (nI q)), (3, .int (nI j))] → W p l e ({ frames := 5, cells := 2, slots := 48, locals := 110 } : Room) s m ([.ref (b 0)] : List Value).toArray below meth c H locs 1 24 Q (F0 m 47 ls []) := by
                intro f47
                induction f47 with
                | zero => intro j hj hfu47; exact absurd hfu47 (by omega)
                | succ f47 cut47 =>
                  intro j hj hfu47 H locs hP hS ls hl
                  refine lv_iload_n hx hb dX5_contract_47 rfl (lv_at hl 3 rfl) ?_
                  refine lv_aload_n hx hb dX5_contract_48 rfl (lv_at hl 0 rfl) ?_
                  refine va_get (D := D) (ci := 5) (v := .int ((conC u_5 lk n q j) 0 1)) (C := RX5) (T := TX5) (N := 15) hx hb hts hinX5 hown hK1 hP 0 rfl rfl 1 (by decide) (hts (.fieldLink RX5 48 "KnowledgeModelModel" "worlds" "I") (List.mem_of_getElem? (i := 2) rfl)) (fun _ h9 => h9) rfl dX5_contract_49 ?_
                  refine xtop (y := nI n) (((conC_o (by decide)).trans hku1)) ?_
                  refine lv_icmp_ge (tgt := 87) hx hb dX5_contract_52 (by decide) (fun c52 => ?_) (fun c52 => ?_)
                  ·
                    replace c52 : n ≤ j := k_get c52 (by omega) (by omega)
                    refine lv_iinc (v := (nI (q + 1))) (lv' := [(2, .int (nI (q + 1))), (0, .ref (b 0)), (1, .int (repS lk n)), (3, .int (nI j))]) hx hb dX5_contract_87 hl (k := 2) rfl (nI_add q 1) (by decide) rfl (fun ls hl => ?_)
                    refine lv_goto (tgt := 40) hx hb dX5_contract_90 (by decide) ?_
                    have eM_13 : conC u_5 lk n q j = conC u_5 lk n (q + 1) 0 := by (have hje : j = n := by omega); subst hje; exact conC_e
                    exact cut40 (q + 1) (by omega) (by omega) _ _ (eM_13 ▸ hP) hS ls (lcons (lcons (lcons (lzero hl) hl 0 rfl rfl) hl 2 rfl rfl) hl 1 rfl rfl)
                  ·
                    replace c52 : j < n := k_gef c52 (by omega) (by omega)
                    refine lv_aload_n hx hb dX5_contract_55 rfl (lv_at hl 0 rfl) ?_
                    refine va_get (D := D) (ci := 5) (v := .ref (b 2)) (C := RX5) (T := TX5) (N := 15) hx hb hts hinX5 hown hK1 hP 0 rfl rfl 4 (by decide) (hts (.fieldLink RX5 13 "KnowledgeModelModel" "seen" "[I") (List.mem_of_getElem? (i := 4) rfl)) (fun _ h9 => h9) rfl dX5_contract_56 ?_
                    refine lv_bipush (v := (nI 24)) hx hb dX5_contract_59 (by decide) ?_
                    refine lv_iload_n hx hb dX5_contract_61 rfl (lv_at hl 2 rfl) ?_
                    refine ximul hx hb dX5_contract_62 ?_
                    refine lv_iload_n hx hb dX5_contract_63 rfl (lv_at hl 3 rfl) ?_
                    refine xiadd hx hb dX5_contract_64 ?_
                    refine lv_aload_n hx hb dX5_contract_65 rfl (lv_at hl 0 rfl) ?_
                    refine lv_aload_n hx hb dX5_contract_66 rfl (lv_at hl 0 rfl) ?_
                    refine va_get (D := D) (ci := 5) (v := .ref (b 2)) (C := RX5) (T := TX5) (N := 15) hx hb hts hinX5 hown hK1 hP 0 rfl rfl 4 (by decide) (hts (.fieldLink RX5 13 "KnowledgeModelModel" "seen" "[I") (List.mem_of_getElem? (i := 4) rfl)) (fun _ h9 => h9) rfl dX5_contract_67 ?_
                    refine lv_bipush (v := (nI 24)) hx hb dX5_contract_70 (by decide) ?_
                    refine lv_iload_n hx hb dX5_contract_72 rfl (lv_at hl 2 rfl) ?_
                    refine ximul hx hb dX5_contract_73 ?_
                    refine lv_iload_n hx hb dX5_contract_74 rfl (lv_at hl 3 rfl) ?_
                    refine xiadd hx hb dX5_contract_75 ?_
                    refine xiald (j := (24 * q) + j) (q0 := 2) (t0 := 0) hx hb hK1 hP rfl rfl (by omega) (by decide) dX5_contract_76 ?_
                    refine xtop (y := (u_5 2 (24 * q + j))) (by exact conC_at (by omega)) ?_
                    refine xcalli (va_runV (As := [.int (u_5 2 (24 * q + j))]) (rest := [.int (nI ((24 * q) + j)), .ref (b 2)]) ⟨hx, hb, hml, hown, hts⟩ (c_X5_likesOf l D cs b (conC u_5 lk n q j) n lk (u_5 2 (24 * q + j)) ((conC_o (by decide)).trans hku1) (by omega) (fun w hw => (conC_o (by decide)).trans (hlk w hw))) (cwV 1 hts gX5_contract_X5_likesOf rfl rfl rfl (by decide +kernel) ⟨Nat.le_of_ble_eq_true rfl, Nat.le_of_ble_eq_true rfl⟩) (xpreV hP hK (ci := 5) 0 rfl rfl) rfl rfl hl.1 rfl (lv_room (Nat.le_of_ble_eq_true rfl)) dX5_contract_77 ⟨Nat.le_of_ble_eq_true rfl, Nat.le_of_ble_eq_true rfl⟩) hS hP (fun H locs hP hS => ?_)
                    refine lv_topi (fun x_14 hx_14 => ?_)
                    refine xiast (j := (24 * q) + j) (q0 := 2) (t0 := 0) (ws' := rc cs b (wr (conC u_5 lk n q j) 2 ((24 * q) + j) x_14)) hx hb hK1 hP (rD hI) hS rfl rfl (by omega) (by decide) rs_2 dX5_contract_80 (fun H locs hP hS => ?_)
                    obtain ⟨M_15, hM_15⟩ : ∃ z, z = wr (conC u_5 lk n q j) 2 ((24 * q) + j) x_14 := ⟨_, rfl⟩
                    rw [← hM_15] at hP
                    have hk_16 : M_15 0 1 = nI n := by rw [hM_15]; exact (wr_ne (Or.inl (by omega))).trans ((conC_o (by decide)).trans hku1)
                    have hk_17 : M_15 0 2 = nI act := by rw [hM_15]; exact (wr_ne (Or.inl (by omega))).trans ((conC_o (by decide)).trans hku2)
                    refine lv_iinc (v := (nI (j + 1))) (lv' := [(3, .int (nI (j + 1))), (0, .ref (b 0)), (1, .int (repS lk n)), (2, .int (nI q))]) hx hb dX5_contract_81 hl (k := 3) rfl (nI_add j 1) (by decide) rfl (fun ls hl => ?_)
                    refine lv_goto (tgt := 47) hx hb dX5_contract_84 (by decide) ?_
                    have eM_18 : M_15 = conC u_5 lk n q (j + 1) := by rw [← conC_s (by omega)]; simp only [fo_0, hM_1, c18, c42, c52, hx_14, hM_15]
                    exact cut47 (j + 1) (by omega) (by omega) _ _ (eM_18 ▸ hP) hS ls (lcons (lcons (lcons (lcons (lzero hl) hl 0 rfl rfl) hl 3 rfl rfl) hl 2 rfl rfl) hl 1 rfl rfl)
              exact cut47 (n + 1) 0 (by omega) (by omega) _ _ hP hS ls (lcons (lcons (lcons (lcons (lzero hl) hl 0 rfl rfl) hl 3 rfl rfl) hl 2 rfl rfl) hl 1 rfl rfl)
        have e_19 : (repS lk j) = (repS lk n) := by rw [show j = n by omega]
        have eM_20 : u_5 = conC u_5 lk n 0 0 := by funext i x; unfold conC; rw [if_neg (by omega)]
        exact cut40 (4 + 1) 0 (by omega) (by omega) _ _ (eM_20 ▸ hP) hS ls (lcons (lcons (lcons (lzero hl) hl 0 rfl rfl) hl 2 rfl (congrArg Value.int e_19)) hl 1 rfl rfl)
      ·
        replace c18 : j < n := k_gef c18 (by omega) (by omega)
        refine lv_iload_n hx hb dX5_contract_21 rfl (lv_at hl 1 rfl) ?_
        refine lv_iconst (v := (nI 1)) hx hb dX5_contract_22 (by decide) ?_
        refine lv_aload_n hx hb dX5_contract_23 rfl (lv_at hl 0 rfl) ?_
        refine va_get (D := D) (ci := 5) (v := .ref (b 11)) (C := RX5) (T := TX5) (N := 15) hx hb hts hinX5 hown hK1 hP 0 rfl rfl 14 (by decide) (hts (.fieldLink RX5 41 "KnowledgeModelModel" "likes" "[I") (List.mem_of_getElem? (i := 3) rfl)) (fun _ h9 => h9) rfl dX5_contract_24 ?_
        refine lv_iload_n hx hb dX5_contract_27 rfl (lv_at hl 2 rfl) ?_
        refine xiald (j := j) (q0 := 11) (t0 := 0) hx hb hK1 hP rfl rfl (by omega) (by decide) dX5_contract_28 ?_
        refine xtop (y := (nI (lk j))) (by exact hlk j (by omega)) ?_
        refine lv_ishl hx hb dX5_contract_29 ?_
        refine lv_ior hx hb dX5_contract_30 ?_
        refine lv_topi (fun x_21 hx_21 => ?_)
        refine lv_istore_n (lv' := [(1, .int x_21), (0, .ref (b 0)), (2, .int (nI j))]) hx hb dX5_contract_31 rfl hl (by decide) rfl (fun ls hl => ?_)
        refine lv_iinc (v := (nI (j + 1))) (lv' := [(2, .int (nI (j + 1))), (1, .int x_21), (0, .ref (b 0))]) hx hb dX5_contract_32 hl (k := 2) rfl (nI_add j 1) (by decide) rfl (fun ls hl => ?_)
        refine lv_goto (tgt := 13) hx hb dX5_contract_35 (by decide) ?_
        have e_22 : x_21 = (repS lk (j + 1)) := by first | rfl | (simp only [repS, fo_s, hM_1, c18, hx_21]; rfl)
        exact cut13 (j + 1) (by omega) (by omega) _ _ hP hS ls (lcons (lcons (lcons (lzero hl) hl 0 rfl rfl) hl 1 rfl (congrArg Value.int e_22)) hl 2 rfl rfl)
  have e_23 : (nI 0) = (repS lk 0) := by rfl
  exact cut13 (n + 1) 0 (by omega) (by omega) _ _ hP hS ls (lcons (lcons (lcons (lzero hl) hl 0 rfl rfl) hl 1 rfl (congrArg Value.int e_23)) hl 2 rfl rfl)

set_option maxHeartbeats 4000000 in
set_option maxRecDepth 100000 in
theorem c_X5_areAlike (l : Launch) (D : va_G) (cs : Nat → ClassId) (b : Nat → Nat) (M : Nat → Nat → Int32) (sz : Nat) (hI : kI b 12)  (n : Nat) (x : Int32) (y : Int32) (hn : M 0 1 = nI n) (hn24 : n ≤ 24) : Met l yX5_areAlike wsX5_areAlike ({ frames := 5, cells := 1, slots := 24, locals := 110 } : Room) (va_Pc [.ref (b 0), .int x, .int y] (XBs D cs (rc cs b M) sz)) (va_Qi (fun r (u : Nat → Nat → Int32) => r = bI (isIn n x && isIn n y && decide (u 11 x.toNatClampNeg = u 11 y.toNatClampNeg)) ∧ (if (isIn n x && isIn n y) = true then FindL (wr M 0 0 (nI 0)) n u else u = wr M 0 0 (nI 1))) (fun (u : Nat → Nat → Int32) t => va_P D vwCl (rc cs b u) t.heap) (kA b 12 sz)) 1 24 (kA b 12 sz) := by
  refine Met.ofW (cc := cX5_areAlike) (maxL := 3) (ret := (some .boolean)) (by decide) rfl ?_
  intro p e s m args below meth c s₁ B hml hv
  obtain ⟨rfl, hsz, hP, hK⟩ := hv
  have hx := B.exec
  have hb := B.bytes
  have hr := B.returns
  have hts := atoms_spec (ws := wsX5_areAlike) B.pre
  have hown : s.vm.findClass RX5 = some m.cls := findClass_of_methodNamed B.named
  have hlocks := B.notSynchronized
  have hK1 := hK.1
  have hinX5 : ∀ w ∈ wsX50, w ∈ wsX5_areAlike := fun w h => List.mem_cons_of_mem _ (List.mem_append_right _ h)
  subst hsz
  have hS : va_S (kA b 12 s.heap.size) s.heap s.heap [] := va_S.rf
  have hl := lv_entry ([.ref (b 0), .int x, .int y]) (n := 3) (Nat.le_of_ble_eq_true rfl)
  rw [lg_entry_eq]
  generalize (lg_sl ([.ref (b 0), .int x, .int y]) ++ List.replicate (3 - (lg_sl ([.ref (b 0), .int x, .int y])).length) Slot.unset).toArray = ls at hl ⊢
  have hl : lv_has ls 3 [(0, .ref (b 0)), (1, .int x), (2, .int y)] := hl
  refine W_Q (fun Q hQ => ?_)
  show W p l e ({ frames := 5, cells := 1, slots := 24, locals := 110 } : Room) s m ([.ref (b 0), .int x, .int y] : List Value).toArray below meth c s.heap [] 0 0 Q (F0 m 0 ls [])
  refine lv_aload_n hx hb dX5_areAlike_0 rfl (lv_at hl 0 rfl) ?_
  refine lv_aload_n hx hb dX5_areAlike_1 rfl (lv_at hl 0 rfl) ?_
  refine lv_iload_n hx hb dX5_areAlike_2 rfl (lv_at hl 1 rfl) ?_
  refine xcalli (va_runV (As := [.int x]) (rest := [.ref (b 0)]) ⟨hx, hb, hml, hown, hts⟩ (c_X5_isWorld l D cs b M n x hn) (cwV 1 hts gX5_areAlike_X5_isWorld rfl rfl rfl (by decide +kernel) ⟨Nat.le_of_ble_eq_true rfl, Nat.le_of_ble_eq_true rfl⟩) (xpreV hP hK (ci := 5) 0 rfl rfl) rfl rfl hl.1 rfl (lv_room (Nat.le_of_ble_eq_true rfl)) dX5_areAlike_3 ⟨Nat.le_of_ble_eq_true rfl, Nat.le_of_ble_eq_true rfl⟩) hS hP (fun H locs hP hS => ?_)
  refine lv_if_eq (tgt := 21) hx hb dX5_areAlike_6 (by decide) (fun c6 => ?_) (fun c6 => ?_)
  ·
    replace c6 := bI_0 c6
    refine lv_iconst (v := (nI 1)) hx hb dX5_areAlike_21 (by decide) ?_
    refine xput (D := D) (ci := 5) (v := .int (nI 1)) (ty := .int) (C := RX5) (T := TX5) (N := 15) (ws' := rc cs b (wr M 0 0 (nI 1))) hx hb hts hinX5 tyX5 tyX5_ok nmX5 hown hK1 hP (rD hI) hS 0 rfl rfl 0 (by decide) (hts (.fieldLink RX5 44 "KnowledgeModelModel" "thrown" "I") (List.mem_of_getElem? (i := 1) rfl)) (fun _ h9 => h9) rfl (by decide +kernel) rfl rfl (Nat.le_of_ble_eq_true rfl) rfl dX5_areAlike_22 (fun H locs hP hS => ?_)
    obtain ⟨M_1, hM_1⟩ : ∃ z, z = wr M 0 0 (nI 1) := ⟨_, rfl⟩
    rw [← hM_1] at hP
    have hk_2 : M_1 0 1 = nI n := by rw [hM_1]; exact (wr_ne (Or.inr (by decide))).trans hn
    have hk_3 : M_1 0 0 = nI 1 := by rw [hM_1]; exact wr_same
    refine lv_aload_n hx hb dX5_areAlike_25 rfl (lv_at hl 0 rfl) ?_
    refine va_get (D := D) (ci := 5) (v := .int (M_1 0 0)) (C := RX5) (T := TX5) (N := 15) hx hb hts hinX5 hown hK1 hP 0 rfl rfl 0 (by decide) (hts (.fieldLink RX5 44 "KnowledgeModelModel" "thrown" "I") (List.mem_of_getElem? (i := 1) rfl)) (fun _ h9 => h9) rfl dX5_areAlike_26 ?_
    refine xtop (y := nI 1) (hk_3) ?_
    refine lv_if_eq (tgt := 34) hx hb dX5_areAlike_29 (by decide) (fun c29 => ?_) (fun c29 => ?_)
    ·
      replace c29 : 1 = 0 := k0_eqt c29 (by omega)
      exfalso; omega
    ·
      replace c29 : ¬ 1 = 0 := k0_eqf c29 (by omega)
      refine lv_iconst (v := (nI 0)) hx hb dX5_areAlike_32 (by decide) ?_
      subst hQ
      refine W.widen (k := 1) (n := 24) (by decide) (by decide) ?_
      have hrel : (if (isIn n x && isIn n y) = true then FindL (wr M 0 0 (nI 0)) n M_1 else M_1 = wr M 0 0 (nI 1)) := by first | (rw [c6]; simp only [Bool.false_and, wr_wr, if_true, if_false, Bool.false_eq_true, Nat.one_ne_zero, c6, hM_1, c29]; done) | (rw [c6, c14]; simp only [Bool.and_false, wr_wr, if_true, if_false, Bool.false_eq_true, Nat.one_ne_zero, c6, hM_1, c29]; done) | (rw [if_pos (by rw [c6, c14]; rfl)]; have h9 := trivial; (try simp only [fo_0, c6, hM_1, c29] at h9); exact h9)
      have hfin : (nI 0) = bI (isIn n x && isIn n y && decide (M_1 11 x.toNatClampNeg = M_1 11 y.toNatClampNeg)) := by first | (rw [c6]; rfl) | (rw [c6, c14]; rfl) | (rw [c6, c14, decide_eq_true c50]; rfl) | (rw [c6, c14, decide_eq_false c50]; rfl)
      exact W.zret (ty := .boolean) hx hb hr (by decide) (fun t ht hW => ⟨⟨_, M_1, rfl, ⟨hfin, hrel⟩, by rw [← ht] at hP; exact hP⟩, hS.F ht⟩) hS.2.2 dX5_areAlike_33
  ·
    replace c6 := bI_n0 c6
    refine lv_aload_n hx hb dX5_areAlike_9 rfl (lv_at hl 0 rfl) ?_
    refine lv_iload_n hx hb dX5_areAlike_10 rfl (lv_at hl 2 rfl) ?_
    refine xcalli (va_runV (As := [.int y]) (rest := [.ref (b 0)]) ⟨hx, hb, hml, hown, hts⟩ (c_X5_isWorld l D cs b M n y hn) (cwV 1 hts gX5_areAlike_X5_isWorld rfl rfl rfl (by decide +kernel) ⟨Nat.le_of_ble_eq_true rfl, Nat.le_of_ble_eq_true rfl⟩) (xpreV hP hK (ci := 5) 0 rfl rfl) rfl rfl hl.1 rfl (lv_room (Nat.le_of_ble_eq_true rfl)) dX5_areAlike_11 ⟨Nat.le_of_ble_eq_true rfl, Nat.le_of_ble_eq_true rfl⟩) hS hP (fun H locs hP hS => ?_)
    refine lv_if_eq (tgt := 21) hx hb dX5_areAlike_14 (by decide) (fun c14 => ?_) (fun c14 => ?_)
    ·
      replace c14 := bI_0 c14
      refine lv_iconst (v := (nI 1)) hx hb dX5_areAlike_21 (by decide) ?_
      refine xput (D := D) (ci := 5) (v := .int (nI 1)) (ty := .int) (C := RX5) (T := TX5) (N := 15) (ws' := rc cs b (wr M 0 0 (nI 1))) hx hb hts hinX5 tyX5 tyX5_ok nmX5 hown hK1 hP (rD hI) hS 0 rfl rfl 0 (by decide) (hts (.fieldLink RX5 44 "KnowledgeModelModel" "thrown" "I") (List.mem_of_getElem? (i := 1) rfl)) (fun _ h9 => h9) rfl (by decide +kernel) rfl rfl (Nat.le_of_ble_eq_true rfl) rfl dX5_areAlike_22 (fun H locs hP hS => ?_)
      obtain ⟨M_4, hM_4⟩ : ∃ z, z = wr M 0 0 (nI 1) := ⟨_, rfl⟩
      rw [← hM_4] at hP
      have hk_5 : M_4 0 1 = nI n := by rw [hM_4]; exact (wr_ne (Or.inr (by decide))).trans hn
      have hk_6 : M_4 0 0 = nI 1 := by rw [hM_4]; exact wr_same
      refine lv_aload_n hx hb dX5_areAlike_25 rfl (lv_at hl 0 rfl) ?_
      refine va_get (D := D) (ci := 5) (v := .int (M_4 0 0)) (C := RX5) (T := TX5) (N := 15) hx hb hts hinX5 hown hK1 hP 0 rfl rfl 0 (by decide) (hts (.fieldLink RX5 44 "KnowledgeModelModel" "thrown" "I") (List.mem_of_getElem? (i := 1) rfl)) (fun _ h9 => h9) rfl dX5_areAlike_26 ?_
      refine xtop (y := nI 1) (hk_6) ?_
      refine lv_if_eq (tgt := 34) hx hb dX5_areAlike_29 (by decide) (fun c29 => ?_) (fun c29 => ?_)
      ·
        replace c29 : 1 = 0 := k0_eqt c29 (by omega)
        exfalso; omega
      ·
        replace c29 : ¬ 1 = 0 := k0_eqf c29 (by omega)
        refine lv_iconst (v := (nI 0)) hx hb dX5_areAlike_32 (by decide) ?_
        subst hQ
        refine W.widen (k := 1) (n := 24) (by decide) (by decide) ?_
        have hrel : (if (isIn n x && isIn n y) = true then FindL (wr M 0 0 (nI 0)) n M_4 else M_4 = wr M 0 0 (nI 1)) := by first | (rw [c6]; simp only [Bool.false_and, wr_wr, if_true, if_false, Bool.false_eq_true, Nat.one_ne_zero, c6, c14, hM_4, c29]; done) | (rw [c6, c14]; simp only [Bool.and_false, wr_wr, if_true, if_false, Bool.false_eq_true, Nat.one_ne_zero, c6, c14, hM_4, c29]; done) | (rw [if_pos (by rw [c6, c14]; rfl)]; have h9 := trivial; (try simp only [fo_0, c6, c14, hM_4, c29] at h9); exact h9)
        have hfin : (nI 0) = bI (isIn n x && isIn n y && decide (M_4 11 x.toNatClampNeg = M_4 11 y.toNatClampNeg)) := by first | (rw [c6]; rfl) | (rw [c6, c14]; rfl) | (rw [c6, c14, decide_eq_true c50]; rfl) | (rw [c6, c14, decide_eq_false c50]; rfl)
        exact W.zret (ty := .boolean) hx hb hr (by decide) (fun t ht hW => ⟨⟨_, M_4, rfl, ⟨hfin, hrel⟩, by rw [← ht] at hP; exact hP⟩, hS.F ht⟩) hS.2.2 dX5_areAlike_33
    ·
      replace c14 := bI_n0 c14
      refine lv_iconst (v := (nI 0)) hx hb dX5_areAlike_17 (by decide) ?_
      refine lv_goto (tgt := 22) hx hb dX5_areAlike_18 (by decide) ?_
      refine xput (D := D) (ci := 5) (v := .int (nI 0)) (ty := .int) (C := RX5) (T := TX5) (N := 15) (ws' := rc cs b (wr M 0 0 (nI 0))) hx hb hts hinX5 tyX5 tyX5_ok nmX5 hown hK1 hP (rD hI) hS 0 rfl rfl 0 (by decide) (hts (.fieldLink RX5 44 "KnowledgeModelModel" "thrown" "I") (List.mem_of_getElem? (i := 1) rfl)) (fun _ h9 => h9) rfl (by decide +kernel) rfl rfl (Nat.le_of_ble_eq_true rfl) rfl dX5_areAlike_22 (fun H locs hP hS => ?_)
      obtain ⟨M_7, hM_7⟩ : ∃ z, z = wr M 0 0 (nI 0) := ⟨_, rfl⟩
      rw [← hM_7] at hP
      have hk_8 : M_7 0 1 = nI n := by rw [hM_7]; exact (wr_ne (Or.inr (by decide))).trans hn
      have hk_9 : M_7 0 0 = nI 0 := by rw [hM_7]; exact wr_same
      refine lv_aload_n hx hb dX5_areAlike_25 rfl (lv_at hl 0 rfl) ?_
      refine va_get (D := D) (ci := 5) (v := .int (M_7 0 0)) (C := RX5) (T := TX5) (N := 15) hx hb hts hinX5 hown hK1 hP 0 rfl rfl 0 (by decide) (hts (.fieldLink RX5 44 "KnowledgeModelModel" "thrown" "I") (List.mem_of_getElem? (i := 1) rfl)) (fun _ h9 => h9) rfl dX5_areAlike_26 ?_
      refine xtop (y := nI 0) (hk_9) ?_
      refine lv_if_eq (tgt := 34) hx hb dX5_areAlike_29 (by decide) (fun c29 => ?_) (fun c29 => ?_)
      ·
        replace c29 : 0 = 0 := k0_eqt c29 (by omega)
        obtain ⟨hlt_x, heq_x⟩ := isIn_eq (by omega) c6
        have hl : lv_has ls 3 [(0, .ref (b 0)), (1, .int (nI x.toNatClampNeg)), (2, .int y)] := (lcons (lcons (lcons (lzero hl) hl 2 rfl rfl) hl 1 rfl (congrArg Value.int heq_x)) hl 0 rfl rfl)
        obtain ⟨hlt_y, heq_y⟩ := isIn_eq (by omega) c14
        have hl : lv_has ls 3 [(0, .ref (b 0)), (1, .int (nI x.toNatClampNeg)), (2, .int (nI y.toNatClampNeg))] := (lcons (lcons (lcons (lzero hl) hl 2 rfl (congrArg Value.int heq_y)) hl 1 rfl rfl) hl 0 rfl rfl)
        refine lv_aload_n hx hb dX5_areAlike_34 rfl (lv_at hl 0 rfl) ?_
        refine xcallwv (va_runV (As := []) (rest := []) ⟨hx, hb, hml, hown, hts⟩ (c_X5_findLikes l D cs b M_7 _ hI n hk_8 (by omega)) (cwV 0 hts gX5_areAlike_X5_findLikes rfl rfl rfl (by decide +kernel) ⟨Nat.le_of_ble_eq_true rfl, Nat.le_of_ble_eq_true rfl⟩) (xpreVs hP hK (ci := 5) 0 rfl rfl) rfl rfl hl.1 rfl (lv_room (Nat.le_of_ble_eq_true rfl)) dX5_areAlike_35 ⟨Nat.le_of_ble_eq_true rfl, Nat.le_of_ble_eq_true rfl⟩) hS (kAle hS.1) (fun u_10 H locs hu_10 hP _ _ hS => ?_)
        refine W.widen (k := 1) (n := 24) (by decide) (by decide) ?_
        have hP : va_P D vwCl (rc cs b u_10) H := hP
        refine lv_aload_n hx hb dX5_areAlike_38 rfl (lv_at hl 0 rfl) ?_
        refine va_get (D := D) (ci := 5) (v := .ref (b 11)) (C := RX5) (T := TX5) (N := 15) hx hb hts hinX5 hown hK1 hP 0 rfl rfl 14 (by decide) (hts (.fieldLink RX5 41 "KnowledgeModelModel" "likes" "[I") (List.mem_of_getElem? (i := 2) rfl)) (fun _ h9 => h9) rfl dX5_areAlike_39 ?_
        refine lv_iload_n hx hb dX5_areAlike_42 rfl (lv_at hl 1 rfl) ?_
        refine xiald (j := x.toNatClampNeg) (q0 := 11) (t0 := 0) hx hb hK1 hP rfl rfl (by omega) (by decide) dX5_areAlike_43 ?_
        refine lv_aload_n hx hb dX5_areAlike_44 rfl (lv_at hl 0 rfl) ?_
        refine va_get (D := D) (ci := 5) (v := .ref (b 11)) (C := RX5) (T := TX5) (N := 15) hx hb hts hinX5 hown hK1 hP 0 rfl rfl 14 (by decide) (hts (.fieldLink RX5 41 "KnowledgeModelModel" "likes" "[I") (List.mem_of_getElem? (i := 2) rfl)) (fun _ h9 => h9) rfl dX5_areAlike_45 ?_
        refine lv_iload_n hx hb dX5_areAlike_48 rfl (lv_at hl 2 rfl) ?_
        refine xiald (j := y.toNatClampNeg) (q0 := 11) (t0 := 0) hx hb hK1 hP rfl rfl (by omega) (by decide) dX5_areAlike_49 ?_
        refine lv_icmp_ne (tgt := 57) hx hb dX5_areAlike_50 (by decide) (fun c50 => ?_) (fun c50 => ?_)
        ·
          refine lv_iconst (v := (nI 0)) hx hb dX5_areAlike_57 (by decide) ?_
          subst hQ
          have hrel : (if (isIn n x && isIn n y) = true then FindL (wr M 0 0 (nI 0)) n u_10 else u_10 = wr M 0 0 (nI 1)) := by first | (rw [c6]; simp only [Bool.false_and, wr_wr, if_true, if_false, Bool.false_eq_true, Nat.one_ne_zero, c6, c14, hM_7, c29, c50]; done) | (rw [c6, c14]; simp only [Bool.and_false, wr_wr, if_true, if_false, Bool.false_eq_true, Nat.one_ne_zero, c6, c14, hM_7, c29, c50]; done) | (rw [if_pos (by rw [c6, c14]; rfl)]; have h9 := hu_10; (try simp only [fo_0, c6, c14, hM_7, c29, c50] at h9); exact h9)
          have hfin : (nI 0) = bI (isIn n x && isIn n y && decide (u_10 11 x.toNatClampNeg = u_10 11 y.toNatClampNeg)) := by first | (rw [c6]; rfl) | (rw [c6, c14]; rfl) | (rw [c6, c14, decide_eq_true c50]; rfl) | (rw [c6, c14, decide_eq_false c50]; rfl)
          exact W.zret (ty := .boolean) hx hb hr (by decide) (fun t ht hW => ⟨⟨_, u_10, rfl, ⟨hfin, hrel⟩, by rw [← ht] at hP; exact hP⟩, hS.F ht⟩) hS.2.2 dX5_areAlike_58
        ·
          refine lv_iconst (v := (nI 1)) hx hb dX5_areAlike_53 (by decide) ?_
          refine lv_goto (tgt := 58) hx hb dX5_areAlike_54 (by decide) ?_
          subst hQ
          have hrel : (if (isIn n x && isIn n y) = true then FindL (wr M 0 0 (nI 0)) n u_10 else u_10 = wr M 0 0 (nI 1)) := by first | (rw [c6]; simp only [Bool.false_and, wr_wr, if_true, if_false, Bool.false_eq_true, Nat.one_ne_zero, c6, c14, hM_7, c29, c50]; done) | (rw [c6, c14]; simp only [Bool.and_false, wr_wr, if_true, if_false, Bool.false_eq_true, Nat.one_ne_zero, c6, c14, hM_7, c29, c50]; done) | (rw [if_pos (by rw [c6, c14]; rfl)]; have h9 := hu_10; (try simp only [fo_0, c6, c14, hM_7, c29, c50] at h9); exact h9)
          have hfin : (nI 1) = bI (isIn n x && isIn n y && decide (u_10 11 x.toNatClampNeg = u_10 11 y.toNatClampNeg)) := by first | (rw [c6]; rfl) | (rw [c6, c14]; rfl) | (rw [c6, c14, decide_eq_true c50]; rfl) | (rw [c6, c14, decide_eq_false c50]; rfl)
          exact W.zret (ty := .boolean) hx hb hr (by decide) (fun t ht hW => ⟨⟨_, u_10, rfl, ⟨hfin, hrel⟩, by rw [← ht] at hP; exact hP⟩, hS.F ht⟩) hS.2.2 dX5_areAlike_58
      ·
        replace c29 : ¬ 0 = 0 := k0_eqf c29 (by omega)
        exfalso; omega


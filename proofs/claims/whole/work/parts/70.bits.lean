/-! Bits of folds, and iterations that come to rest. -/
theorem b_exi {x y : Int32} (h : ∀ i, i < 32 → (bt x i = true ↔ bt y i = true)) : x = y := b_ext (fun i hi => Bool.eq_iff_iff.mpr (h i hi))
theorem bt_lt {x : Int32} {j : Nat} (h : bt x j = true) : j < 32 := Nat.not_le.mp (fun q => by rw [b_big q] at h; cases h)
theorem b_or_i {x y : Int32} {j : Nat} : bt (x ||| y) j = true ↔ bt x j = true ∨ bt y j = true := by rw [b_or, Bool.or_eq_true]
theorem b_and_i {x y : Int32} {j : Nat} : bt (x &&& y) j = true ↔ bt x j = true ∧ bt y j = true := by rw [b_and, Bool.and_eq_true]
theorem b_not_i {x : Int32} {j : Nat} (hj : j < 32) : bt (x ^^^ (-1)) j = true ↔ ¬ bt x j = true := by
  rw [b_xor, b_m1 j hj]
  cases bt x j <;> simp
theorem b_sg_i {i j : Nat} (hi : i < 32) : bt (sg i) j = true ↔ j = i := by
  by_cases hj : j < 32
  · rw [bt_sg hi hj, decide_eq_true_eq]; exact eq_comm
  · rw [b_big (by omega)]; exact ⟨fun h => absurd h Bool.false_ne_true, fun h => by omega⟩
theorem b_all_i {n j : Nat} (hn : n < 32) : bt (sg n - nI 1) j = true ↔ j < n := by
  by_cases hj : j < 32
  · rw [bt_all n hn j hj, decide_eq_true_eq]
  · rw [b_big (by omega)]; exact ⟨fun h => absurd h Bool.false_ne_true, fun h => by omega⟩
theorem b_n0_i {j : Nat} : bt (nI 0) j = true ↔ False := by rw [bt_n0]; exact ⟨fun h => absurd h Bool.false_ne_true, False.elim⟩
theorem b_zero_i {x : Int32} : x = 0 ↔ ∀ j, ¬ bt x j = true := by
  constructor
  · rintro rfl j h; rw [b_0] at h; cases h
  · intro h
    exact b_exi (fun i hi => ⟨fun q => absurd q (h i), fun q => by rw [b_0] at q; cases q⟩)
theorem fo_un {P : Nat → Bool} {f : Nat → Int32} {x : Int32} {j : Nat} : ∀ {n : Nat}, bt (fo (fun i r => if P i then r ||| f i else r) x n) j = true ↔ bt x j = true ∨ ∃ i, i < n ∧ P i = true ∧ bt (f i) j = true
  | 0 => by
    rw [fo_0]
    exact ⟨Or.inl, fun h => h.elim id (fun ⟨i, hi, _⟩ => absurd hi (by omega))⟩
  | n + 1 => by
    rw [fo_s]
    by_cases h : P n = true
    · rw [if_pos h, b_or_i, fo_un (n := n)]
      constructor
      · rintro ((h1 | ⟨i, hi, h2⟩) | h1)
        · exact Or.inl h1
        · exact Or.inr ⟨i, by omega, h2⟩
        · exact Or.inr ⟨n, by omega, h, h1⟩
      · rintro (h1 | ⟨i, hi, h2, h3⟩)
        · exact Or.inl (Or.inl h1)
        · by_cases e : i = n
          · subst e; exact Or.inr h3
          · exact Or.inl (Or.inr ⟨i, by omega, h2, h3⟩)
    · rw [if_neg h, fo_un (n := n)]
      constructor
      · rintro (h1 | ⟨i, hi, h2⟩)
        · exact Or.inl h1
        · exact Or.inr ⟨i, by omega, h2⟩
      · rintro (h1 | ⟨i, hi, h2, h3⟩)
        · exact Or.inl h1
        · by_cases e : i = n
          · subst e; exact absurd h2 h
          · exact Or.inr ⟨i, by omega, h2, h3⟩
theorem fo_in {P : Nat → Bool} {f : Nat → Int32} {x : Int32} {j : Nat} : ∀ {n : Nat}, bt (fo (fun i r => if P i then r &&& f i else r) x n) j = true ↔ bt x j = true ∧ ∀ i, i < n → P i = true → bt (f i) j = true
  | 0 => by
    rw [fo_0]
    exact ⟨fun h => ⟨h, fun i hi => absurd hi (by omega)⟩, fun h => h.1⟩
  | n + 1 => by
    rw [fo_s]
    by_cases h : P n = true
    · rw [if_pos h, b_and_i, fo_in (n := n)]
      constructor
      · rintro ⟨⟨h1, h2⟩, h3⟩
        refine ⟨h1, fun i hi hp => ?_⟩
        by_cases e : i = n
        · subst e; exact h3
        · exact h2 i (by omega) hp
      · rintro ⟨h1, h2⟩
        exact ⟨⟨h1, fun i hi hp => h2 i (by omega) hp⟩, h2 n (by omega) h⟩
    · rw [if_neg h, fo_in (n := n)]
      constructor
      · rintro ⟨h1, h2⟩
        refine ⟨h1, fun i hi hp => ?_⟩
        by_cases e : i = n
        · subst e; exact absurd hp h
        · exact h2 i (by omega) hp
      · rintro ⟨h1, h2⟩
        exact ⟨h1, fun i hi hp => h2 i (by omega) hp⟩
theorem fo_im {P : Nat → Bool} {c : Nat → Nat} {n j : Nat} (hc : ∀ w, w < n → c w < 32) : bt (fo (fun w r => if P w then r ||| sg (c w) else r) (nI 0) n) j = true ↔ ∃ w, w < n ∧ P w = true ∧ j = c w := by
  rw [fo_un, b_n0_i, false_or]
  constructor
  · rintro ⟨i, hi, h1, h2⟩; exact ⟨i, hi, h1, (b_sg_i (hc i hi)).mp h2⟩
  · rintro ⟨i, hi, h1, h2⟩; exact ⟨i, hi, h1, (b_sg_i (hc i hi)).mpr h2⟩
theorem fo_or {P : Nat → Bool} {n j : Nat} (hn : n ≤ 32) : bt (fo (fun w r => if P w then r ||| sg w else r) (nI 0) n) j = true ↔ j < n ∧ P j = true := by
  have := fo_im (P := P) (c := fun w => w) (n := n) (j := j) (fun w hw => by omega)
  rw [this]
  constructor
  · rintro ⟨w, hw, h1, rfl⟩; exact ⟨hw, h1⟩
  · rintro ⟨h1, h2⟩; exact ⟨j, h1, h2, rfl⟩
theorem fo_nest {P : Nat → Nat → Bool} {f : Nat → Nat → Int32} {n j : Nat} {x : Int32} : ∀ {m : Nat}, bt (fo (fun i r => fo (fun w r => if P i w then r ||| f i w else r) r n) x m) j = true ↔ bt x j = true ∨ ∃ i, i < m ∧ ∃ w, w < n ∧ P i w = true ∧ bt (f i w) j = true
  | 0 => by
    rw [fo_0]
    exact ⟨Or.inl, fun h => h.elim id (fun ⟨i, hi, _⟩ => absurd hi (by omega))⟩
  | m + 1 => by
    rw [fo_s, fo_un, fo_nest (m := m)]
    constructor
    · rintro ((h1 | ⟨i, hi, h2⟩) | ⟨w, hw, h2⟩)
      · exact Or.inl h1
      · exact Or.inr ⟨i, by omega, h2⟩
      · exact Or.inr ⟨m, by omega, w, hw, h2⟩
    · rintro (h1 | ⟨i, hi, h2⟩)
      · exact Or.inl (Or.inl h1)
      · by_cases e : i = m
        · subst e; exact Or.inr h2
        · exact Or.inl (Or.inr ⟨i, by omega, h2⟩)
/-- an iteration that only adds, within n members, rests after n rounds -/
theorem it_fix {F : Int32 → Int32} (hF : ∀ x j, bt x j = true → bt (F x) j = true) {x : Int32} {n : Nat} (hB : ∀ k j, n ≤ j → bt (fo (fun _ => F) x k) j = false) {m : Nat} (hm : n ≤ m) : F (fo (fun _ => F) x m) = fo (fun _ => F) x m := by
  have key : ∀ k, (∃ j, j < k ∧ F (fo (fun _ => F) x j) = fo (fun _ => F) x j) ∨ k ≤ fb_ct (bt (fo (fun _ => F) x k)) n := by
    intro k
    induction k with
    | zero => exact Or.inr (Nat.zero_le _)
    | succ k ih =>
      rcases ih with ⟨j, hj, h⟩ | ih
      · exact Or.inl ⟨j, by omega, h⟩
      · by_cases e : F (fo (fun _ => F) x k) = fo (fun _ => F) x k
        · exact Or.inl ⟨k, by omega, e⟩
        · refine Or.inr ?_
          rcases Nat.lt_or_ge (fb_ct (bt (fo (fun _ => F) x k)) n) (fb_ct (bt (fo (fun _ => F) x (k + 1))) n) with h | h
          · omega
          · exfalso
            apply e
            have hs := ct_same (p := bt (fo (fun _ => F) x k)) (q := bt (fo (fun _ => F) x (k + 1))) (n := n) (fun i _ hi => hF _ _ hi) h
            refine b_exi (fun i _ => ⟨fun hi => ?_, fun hi => hF _ _ hi⟩)
            rcases Nat.lt_or_ge i n with q | q
            · exact hs i q hi
            · have := hB (k + 1) i q
              rw [show fo (fun _ => F) x (k + 1) = F (fo (fun _ => F) x k) from rfl, hi] at this
              cases this
  rcases key n with ⟨j, hj, h⟩ | h
  · rw [fo_fixn F x (show j ≤ m by omega) h]; exact h
  · have hfull := fb_ct_all.mp (Nat.le_antisymm (fb_ct_le _ n) h)
    have hfix : F (fo (fun _ => F) x n) = fo (fun _ => F) x n := by
      refine b_exi (fun i _ => ⟨fun hi => ?_, fun hi => hF _ _ hi⟩)
      rcases Nat.lt_or_ge i n with q | q
      · exact hfull i q
      · have := hB (n + 1) i q
        rw [show fo (fun _ => F) x (n + 1) = F (fo (fun _ => F) x n) from rfl, hi] at this
        cases this
    rw [fo_fixn F x hm hfix]; exact hfix
/-! The two models, side by side. -/
def Bd (M : Nat → Nat → Int32) (n : Nat) : Prop := ∀ i, i < 4 → ∀ w, w < n → ∀ j, bt (M (2 + i) w) j = true → j < n
def Ar (M R : Nat → Nat → Int32) (n : Nat) : Prop := ∀ i, i < 4 → ∀ w, w < n → R 2 (24 * i + w) = M (2 + i) w
theorem seen_i {M : Nat → Nat → Int32} {g : Int32} {w j : Nat} : bt (seenSome M g w) j = true ↔ ∃ i, i < 4 ∧ bt g i = true ∧ bt (M (2 + i) w) j = true := by
  unfold seenSome
  rw [fo_un, b_n0_i, false_or]
theorem seen_lt {M : Nat → Nat → Int32} {n : Nat} (hB : Bd M n) {g : Int32} {w j : Nat} (hw : w < n) (h : bt (seenSome M g w) j = true) : j < n := by
  obtain ⟨i, hi, _, h2⟩ := seen_i.mp h
  exact hB i hi w hw j h2
theorem step_i {M R : Nat → Nat → Int32} {n : Nat} (hA : Ar M R n) {g fm : Int32} {j : Nat} : bt (stepR R n g fm) j = true ↔ ∃ w, w < n ∧ bt fm w = true ∧ bt (seenSome M g w) j = true := by
  unfold stepR
  rw [fo_nest, b_n0_i, false_or]
  constructor
  · rintro ⟨i, hi, w, hw, h1, h2⟩
    rw [Bool.and_eq_true] at h1
    exact ⟨w, hw, h1.2, seen_i.mpr ⟨i, hi, h1.1, by rw [← hA i hi w hw]; exact h2⟩⟩
  · rintro ⟨w, hw, h1, h2⟩
    obtain ⟨i, hi, h3, h4⟩ := seen_i.mp h2
    exact ⟨i, hi, w, hw, by rw [Bool.and_eq_true]; exact ⟨h3, h1⟩, by rw [hA i hi w hw]; exact h4⟩
theorem every_eq {M R : Nat → Nat → Int32} {n : Nat} (hA : Ar M R n) {g : Int32} {w : Nat} (hw : w < n) : everyR R n g w = seenEvery M n g w := by
  unfold everyR seenEvery
  exact fo_cong (fun i hi r => by rw [hA i hi w hw])
/-- what is reached, as a closure -/
theorem rY_s {R : Nat → Nat → Int32} {n : Nat} {g y0 wi : Int32} {k j : Nat} : bt (reachY R n g y0 wi (k + 1)) j = true ↔ bt (reachY R n g y0 wi k) j = true ∨ bt (stepR R n g (reachY R n g y0 wi k)) j = true ∧ bt wi j = true := by
  show bt (reachY R n g y0 wi k ||| (stepR R n g (reachY R n g y0 wi k) &&& wi)) j = true ↔ _
  rw [b_or_i, b_and_i]
theorem rR_fix (R : Nat → Nat → Int32) (n : Nat) (g y0 wi : Int32) : reachY R n g y0 wi 33 ||| (stepR R n g (reachY R n g y0 wi 33) &&& wi) = reachY R n g y0 wi 33 :=
  it_fix (F := fun y => y ||| (stepR R n g y &&& wi)) (n := 32) (fun x j h => b_or_i.mpr (Or.inl h)) (fun k j hj => b_big hj) (m := 33) (by decide)
theorem reach_0 {M R : Nat → Nat → Int32} {n : Nat} (hA : Ar M R n) {g wi : Int32} {fr v : Nat} (hfr : fr < n) (hn : n ≤ 24) (h : bt (seenSome M g fr) v = true) (hv : bt wi v = true) : bt (reachR R n g fr wi) v = true := by
  have h0 : bt (stepR R n g (sg fr) &&& wi) v = true := b_and_i.mpr ⟨(step_i hA).mpr ⟨fr, hfr, (b_sg_i (by omega)).mpr rfl, h⟩, hv⟩
  have mono : ∀ k, bt (reachY R n g (stepR R n g (sg fr) &&& wi) wi k) v = true := by
    intro k
    induction k with
    | zero => exact h0
    | succ k ih => exact rY_s.mpr (Or.inl ih)
  exact mono 33
theorem reach_c {M R : Nat → Nat → Int32} {n : Nat} (hA : Ar M R n) {g wi : Int32} {fr u v : Nat} (hu : bt (reachR R n g fr wi) u = true) (hun : u < n) (h : bt (seenSome M g u) v = true) (hv : bt wi v = true) : bt (reachR R n g fr wi) v = true := by
  have h1 := rR_fix R n g (stepR R n g (sg fr) &&& wi) wi
  show bt (reachY R n g (stepR R n g (sg fr) &&& wi) wi 33) v = true
  rw [← h1, b_or_i, b_and_i]
  exact Or.inr ⟨(step_i hA).mpr ⟨u, hun, hu, h⟩, hv⟩
/-- what holds of the first step and is kept by each step holds of all that is reached -/
theorem reach_ind {M R : Nat → Nat → Int32} {n : Nat} (hA : Ar M R n) {g wi : Int32} {fr : Nat} (hfr : fr < n) (hn : n ≤ 24) {P : Nat → Prop} (h0 : ∀ v, bt (seenSome M g fr) v = true → bt wi v = true → P v) (hs : ∀ u v, u < n → P u → bt (reachR R n g fr wi) u = true → bt (seenSome M g u) v = true → bt wi v = true → P v) : ∀ v, bt (reachR R n g fr wi) v = true → P v := by
  have mono : ∀ k d v, bt (reachY R n g (stepR R n g (sg fr) &&& wi) wi k) v = true → bt (reachY R n g (stepR R n g (sg fr) &&& wi) wi (k + d)) v = true := by
    intro k d v h
    induction d with
    | zero => exact h
    | succ d ih => exact rY_s.mpr (Or.inl ih)
  have key : ∀ k, k ≤ 33 → ∀ v, bt (reachY R n g (stepR R n g (sg fr) &&& wi) wi k) v = true → P v := by
    intro k
    induction k with
    | zero =>
      intro _ v h
      obtain ⟨h1, h2⟩ := b_and_i.mp (show bt (stepR R n g (sg fr) &&& wi) v = true from h)
      obtain ⟨w, hw, h3, h4⟩ := (step_i hA).mp h1
      have : w = fr := (b_sg_i (by omega)).mp h3
      subst this
      exact h0 v h4 h2
    | succ k ih =>
      intro hk v h
      rcases rY_s.mp h with h1 | ⟨h1, h2⟩
      · exact ih (by omega) v h1
      · obtain ⟨w, hw, h3, h4⟩ := (step_i hA).mp h1
        have h5 := mono k (33 - k) w h3
        rw [show k + (33 - k) = 33 by omega] at h5
        exact hs w v hw (ih (by omega) w h3) h5 h4 h2
  exact key 33 (Nat.le_refl _)
theorem reach_in {M R : Nat → Nat → Int32} {n : Nat} (hA : Ar M R n) {g wi : Int32} {fr : Nat} (hfr : fr < n) (hn : n ≤ 24) {v : Nat} (h : bt (reachR R n g fr wi) v = true) : bt wi v = true :=
  reach_ind hA hfr hn (P := fun v => bt wi v = true) (fun _ _ h => h) (fun _ _ _ _ _ _ h => h) v h
theorem reach_t {M R : Nat → Nat → Int32} {n : Nat} (hA : Ar M R n) {g wi : Int32} {w v u : Nat} (hw : w < n) (hv : v < n) (hn : n ≤ 24) (h : bt (seenSome M g w) v = true) (hvi : bt wi v = true) (hu : bt (reachR R n g v wi) u = true) : bt (reachR R n g w wi) u = true :=
  reach_ind hA hv hn (P := fun u => bt (reachR R n g w wi) u = true) (fun x h1 h2 => reach_c hA (reach_0 hA hw hn h hvi) hv h1 h2) (fun x y hx hP _ h1 h2 => reach_c hA hP hx h1 h2) u hu
/-! Forward sweeps. -/
theorem sw_i {M : Nat → Nat → Int32} {n : Nat} {g x : Int32} {j : Nat} (h : bt x j = true) : ∀ m, bt (fo (fun w r => if bt r w then r ||| seenSome M g w else r) x m) j = true
  | 0 => h
  | m + 1 => by
    rw [fo_s]
    have ih := sw_i (M := M) (n := n) (g := g) h m
    by_cases e : bt (fo (fun w r => if bt r w then r ||| seenSome M g w else r) x m) m = true
    · rw [if_pos e]; exact b_or_i.mpr (Or.inl ih)
    · rw [if_neg e]; exact ih
theorem sw_m {M : Nat → Nat → Int32} {g x : Int32} {j : Nat} {m : Nat} : ∀ d, bt (fo (fun w r => if bt r w then r ||| seenSome M g w else r) x m) j = true → bt (fo (fun w r => if bt r w then r ||| seenSome M g w else r) x (m + d)) j = true
  | 0, h => h
  | d + 1, h => by
    have ih := sw_m (M := M) (g := g) d h
    rw [show m + (d + 1) = (m + d) + 1 from rfl, fo_s]
    by_cases e : bt (fo (fun w r => if bt r w then r ||| seenSome M g w else r) x (m + d)) (m + d) = true
    · rw [if_pos e]; exact b_or_i.mpr (Or.inl ih)
    · rw [if_neg e]; exact ih
/-- a sweep keeps what is closed -/
theorem sw_P {M : Nat → Nat → Int32} {g x : Int32} {P : Nat → Prop} (h0 : ∀ j, bt x j = true → P j) : ∀ m, (∀ w, w < m → P w → ∀ v, bt (seenSome M g w) v = true → P v) → ∀ j, bt (fo (fun w r => if bt r w then r ||| seenSome M g w else r) x m) j = true → P j
  | 0, _, j, h => h0 j h
  | m + 1, hs, j, h => by
    rw [fo_s] at h
    have ih := sw_P (M := M) (g := g) h0 m (fun w hw => hs w (by omega))
    by_cases e : bt (fo (fun w r => if bt r w then r ||| seenSome M g w else r) x m) m = true
    · rw [if_pos e] at h
      rcases b_or_i.mp h with h | h
      · exact ih j h
      · exact hs m (by omega) (ih m e) j h
    · rw [if_neg e] at h
      exact ih j h
theorem reachF_P {M : Nat → Nat → Int32} {n : Nat} {g : Int32} {fr : Nat} {P : Nat → Prop} (h0 : ∀ j, bt (seenSome M g fr) j = true → P j) (hs : ∀ w, w < n → P w → ∀ v, bt (seenSome M g w) v = true → P v) : ∀ m j, bt (fo (fun _ x => sweep M n g x) (seenSome M g fr) m) j = true → P j
  | 0, j, h => h0 j h
  | m + 1, j, h => sw_P (reachF_P h0 hs m) n hs j h
theorem reachF_eq {M R : Nat → Nat → Int32} {n : Nat} (hA : Ar M R n) (hB : Bd M n) (hn : n ≤ 24) {g : Int32} {fr : Nat} (hfr : fr < n) : reachF M n g fr = reachR R n g fr (sg n - nI 1) := by
  have hlt : ∀ k j, bt (fo (fun _ x => sweep M n g x) (seenSome M g fr) k) j = true → j < n := fun k j h => reachF_P (P := fun j => j < n) (fun j h => seen_lt hB hfr h) (fun w hw _ v hv => seen_lt hB hw hv) k j h
  have hfix : sweep M n g (reachF M n g fr) = reachF M n g fr := it_fix (F := fun x => sweep M n g x) (n := n) (fun x j h => sw_i (n := n) h n) (fun k j hj => by
    cases hb : bt (fo (fun _ x => sweep M n g x) (seenSome M g fr) k) j with
    | false => rfl
    | true => exact absurd (hlt k j hb) (by omega)) (m := n) (Nat.le_refl n)
  have hcl : ∀ w, w < n → bt (reachF M n g fr) w = true → ∀ v, bt (seenSome M g w) v = true → bt (reachF M n g fr) v = true := by
    intro w hw h v hv
    rw [← hfix]
    have h1 : bt (fo (fun w r => if bt r w then r ||| seenSome M g w else r) (reachF M n g fr) w) w = true := sw_i (n := n) h w
    have h2 : bt (fo (fun w r => if bt r w then r ||| seenSome M g w else r) (reachF M n g fr) (w + 1)) v = true := by
      rw [fo_s, if_pos h1]; exact b_or_i.mpr (Or.inr hv)
    have h3 := sw_m (M := M) (g := g) (n - (w + 1)) h2
    rw [show w + 1 + (n - (w + 1)) = n by omega] at h3
    exact h3
  have hst : ∀ j, bt (seenSome M g fr) j = true → bt (reachF M n g fr) j = true := by
    intro j h
    have : ∀ k, bt (fo (fun _ x => sweep M n g x) (seenSome M g fr) k) j = true := by
      intro k
      induction k with
      | zero => exact h
      | succ k ih => exact sw_i (n := n) ih n
    exact this n
  refine b_exi (fun i _ => ⟨fun h => ?_, fun h => ?_⟩)
  · exact reachF_P (P := fun j => bt (reachR R n g fr (sg n - nI 1)) j = true) (fun j h => reach_0 hA hfr hn h ((b_all_i (by omega)).mpr (seen_lt hB hfr h))) (fun w hw hP v hv => reach_c hA hP hw hv ((b_all_i (by omega)).mpr (seen_lt hB hw hv))) n i h
  · exact reach_ind hA hfr hn (P := fun j => bt (reachF M n g fr) j = true) (fun v h _ => hst v h) (fun u v hu hP _ h _ => hcl u hu hP v h) i h
/-! Backward sweeps. -/
theorem sb_i {M : Nat → Nat → Int32} {g mo out x : Int32} {j : Nat} {m : Nat} : ∀ d, bt (fo (fun w f => if bt mo w && !decide ((seenSome M g w &&& (out ||| f)) = 0) then f ||| sg w else f) x m) j = true → bt (fo (fun w f => if bt mo w && !decide ((seenSome M g w &&& (out ||| f)) = 0) then f ||| sg w else f) x (m + d)) j = true
  | 0, h => h
  | d + 1, h => by
    have ih := sb_i (M := M) (g := g) (mo := mo) (out := out) d h
    rw [show m + (d + 1) = (m + d) + 1 from rfl, fo_s]
    split
    · exact b_or_i.mpr (Or.inl ih)
    · exact ih
theorem sb_0 {M : Nat → Nat → Int32} {g mo out x : Int32} {j m : Nat} (h : bt x j = true) : bt (fo (fun w f => if bt mo w && !decide ((seenSome M g w &&& (out ||| f)) = 0) then f ||| sg w else f) x m) j = true := by
  have := sb_i (M := M) (g := g) (mo := mo) (out := out) (x := x) (m := 0) m h
  rw [Nat.zero_add] at this
  exact this
theorem meet_i {x y : Int32} : (!decide ((x &&& y) = 0)) = true ↔ ∃ j, bt x j = true ∧ bt y j = true := by
  rw [Bool.not_eq_true', decide_eq_false_iff_not, b_zero_i]
  constructor
  · intro h
    apply Classical.byContradiction
    intro q
    exact h (fun j hj => q ⟨j, b_and_i.mp hj⟩)
  · rintro ⟨j, h1, h2⟩ h
    exact h j (b_and_i.mpr ⟨h1, h2⟩)
theorem sb_P {M : Nat → Nat → Int32} {g mo out x : Int32} {P : Nat → Prop} (h0 : ∀ j, bt x j = true → P j) : ∀ m, m ≤ 32 → (∀ w, w < m → bt mo w = true → ∀ v, bt (seenSome M g w) v = true → (bt out v = true ∨ P v) → P w) → ∀ j, bt (fo (fun w f => if bt mo w && !decide ((seenSome M g w &&& (out ||| f)) = 0) then f ||| sg w else f) x m) j = true → P j
  | 0, _, _, j, h => h0 j h
  | m + 1, hm, hs, j, h => by
    rw [fo_s] at h
    have ih := sb_P (M := M) (g := g) (mo := mo) (out := out) h0 m (by omega) (fun w hw => hs w (by omega))
    split at h
    · rename_i hc
      rcases b_or_i.mp h with h | h
      · exact ih j h
      · have hj := (b_sg_i (by omega)).mp h
        subst hj
        rw [Bool.and_eq_true] at hc
        obtain ⟨v, h1, h2⟩ := meet_i.mp hc.2
        exact hs j (by omega) hc.1 v h1 ((b_or_i.mp h2).imp id (ih v))
    · exact ih j h
theorem wReach_i {M R : Nat → Nat → Int32} {n : Nat} (hA : Ar M R n) (hB : Bd M n) (hn : n ≤ 24) {set g mo : Int32} (hmo : ∀ j, bt mo j = true → j < n) {w : Nat} : bt (wReach M n set g mo) w = true ↔ bt mo w = true ∧ ∀ v, bt (reachR R n g w mo) v = true → bt set v = true := by
  have houtd : ∀ v, bt (mo &&& (set ^^^ (-1))) v = true ↔ bt mo v = true ∧ ¬ bt set v = true := fun v => by
    rw [b_and_i]
    constructor
    · rintro ⟨h1, h2⟩; exact ⟨h1, (b_not_i (bt_lt h1)).mp h2⟩
    · rintro ⟨h1, h2⟩; exact ⟨h1, (b_not_i (bt_lt h1)).mpr h2⟩
  obtain ⟨out, hout⟩ : ∃ z, z = mo &&& (set ^^^ (-1)) := ⟨_, rfl⟩
  rw [← hout] at houtd
  obtain ⟨F, hF⟩ : ∃ z, z = fo (fun _ x => swB M n g mo out x) (nI 0) (n + 1) := ⟨_, rfl⟩
  have hstep : ∀ (P : Nat → Prop), (∀ w, w < n → bt mo w = true → ∀ v, bt (seenSome M g w) v = true → (bt out v = true ∨ P v) → P w) → ∀ k j, bt (fo (fun _ x => swB M n g mo out x) (nI 0) k) j = true → P j := by
    intro P hs k
    induction k with
    | zero => intro j h; exact absurd h (by rw [fo_0, bt_n0]; exact Bool.false_ne_true)
    | succ k ih => exact sb_P ih n (by omega) hs
  have hlt : ∀ k j, bt (fo (fun _ x => swB M n g mo out x) (nI 0) k) j = true → bt mo j = true := hstep (fun j => bt mo j = true) (fun w _ h _ _ _ => h)
  have hfix : swB M n g mo out F = F := by
    rw [hF]
    exact it_fix (F := fun x => swB M n g mo out x) (n := n) (fun x j h => sb_0 h) (fun k j hj => by
      cases hb : bt (fo (fun _ x => swB M n g mo out x) (nI 0) k) j with
      | false => rfl
      | true => exact absurd (hmo j (hlt k j hb)) (by omega)) (m := n + 1) (by omega)
  have hcl : ∀ w, w < n → bt mo w = true → ∀ v, bt (seenSome M g w) v = true → (bt out v = true ∨ bt F v = true) → bt F w = true := by
    intro w hw h1 v hv h2
    rw [← hfix]
    have h3 : bt (fo (fun w f => if bt mo w && !decide ((seenSome M g w &&& (out ||| f)) = 0) then f ||| sg w else f) F (w + 1)) w = true := by
      rw [fo_s, if_pos]
      · exact b_or_i.mpr (Or.inr ((b_sg_i (by omega)).mpr rfl))
      · rw [Bool.and_eq_true]
        exact ⟨h1, meet_i.mpr ⟨v, hv, b_or_i.mpr (h2.imp id (fun h => sb_0 h))⟩⟩
    have h4 := sb_i (M := M) (g := g) (mo := mo) (out := out) (n - (w + 1)) h3
    rw [show w + 1 + (n - (w + 1)) = n by omega] at h4
    exact h4
  have hsound : ∀ j, bt F j = true → ∃ v, bt (reachR R n g j mo) v = true ∧ bt out v = true := by
    intro j hj
    rw [hF] at hj
    have := hstep (fun j => bt mo j = true ∧ ∃ v, bt (reachR R n g j mo) v = true ∧ bt out v = true) (fun w hw h1 v hv h2 => by
      have hvn := seen_lt hB hw hv
      rcases h2 with h2 | ⟨hvm, x, h3, h4⟩
      · exact ⟨h1, v, reach_0 hA hw hn hv ((houtd v).mp h2).1, h2⟩
      · exact ⟨h1, x, reach_t hA hw hvn hn hv hvm h3, h4⟩) (n + 1) j hj
    exact this.2
  unfold wReach
  rw [← hout, ← hF, b_and_i]
  constructor
  · rintro ⟨h1, h2⟩
    have hwn := hmo w h1
    refine ⟨h1, fun v hv => ?_⟩
    have h3 : ¬ bt F w = true := (b_not_i (bt_lt h1)).mp h2
    apply Classical.byContradiction
    intro hs
    apply h3
    have hvm := reach_in hA hwn hn hv
    have key := reach_ind hA hwn hn (P := fun v => (bt out v = true ∨ bt F v = true) → bt F w = true) (fun v h _ hq => hcl w hwn h1 v h hq) (fun u v hu hP hur h hvm2 hq => hP (Or.inr (hcl u hu (reach_in hA hwn hn hur) v h hq))) v hv
    exact key (Or.inl ((houtd v).mpr ⟨hvm, hs⟩))
  · rintro ⟨h1, h2⟩
    refine ⟨h1, (b_not_i (bt_lt h1)).mpr (fun hf => ?_)⟩
    obtain ⟨v, h3, h4⟩ := hsound w hf
    exact ((houtd v).mp h4).2 (h2 v h3)

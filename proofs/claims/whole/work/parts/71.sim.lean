/-! Where formulas are true: class and reference. -/
theorem off_i {x mo s : Int32} : (x &&& mo &&& (s ^^^ (-1))) = 0 ↔ ∀ v, bt x v = true → bt mo v = true → bt s v = true := by
  rw [b_zero_i]
  constructor
  · intro h v h1 h2
    apply Classical.byContradiction
    intro q
    exact h v (b_and_i.mpr ⟨b_and_i.mpr ⟨h1, h2⟩, (b_not_i (bt_lt h1)).mpr q⟩)
  · intro h v hv
    obtain ⟨h1, h2⟩ := b_and_i.mp hv
    obtain ⟨h3, h4⟩ := b_and_i.mp h1
    exact (b_not_i (bt_lt h3)).mp h2 (h v h3 h4)
theorem off2_i {x mo s : Int32} : (x &&& (mo &&& (s ^^^ (-1)))) = 0 ↔ ∀ v, bt x v = true → bt mo v = true → bt s v = true := by
  rw [b_zero_i]
  constructor
  · intro h v h1 h2
    apply Classical.byContradiction
    intro q
    exact h v (b_and_i.mpr ⟨h1, b_and_i.mpr ⟨h2, (b_not_i (bt_lt h1)).mpr q⟩⟩)
  · intro h v hv
    obtain ⟨h1, h2⟩ := b_and_i.mp hv
    obtain ⟨h3, h4⟩ := b_and_i.mp h2
    exact (b_not_i (bt_lt h1)).mp h4 (h v h1 h3)
theorem wSeen_i {M : Nat → Nat → Int32} {n : Nat} (hn : n ≤ 24) {set g mo : Int32} {w : Nat} : bt (wSeen M n set g mo) w = true ↔ w < n ∧ bt mo w = true ∧ ∀ v, bt (seenEvery M n g w) v = true → bt mo v = true → bt set v = true := by
  unfold wSeen
  rw [fo_or (P := fun w => bt mo w && decide ((seenEvery M n g w &&& (mo &&& (set ^^^ (-1)))) = 0)) (by omega), Bool.and_eq_true, decide_eq_true_eq, off2_i]
theorem every_one {M : Nat → Nat → Int32} {n : Nat} (hB : Bd M n) (hn : n ≤ 24) {a w : Nat} (ha : a < 4) (hw : w < n) : seenEvery M n (sg a) w = M (2 + a) w := by
  refine b_exi (fun j hj => ?_)
  unfold seenEvery
  rw [fo_in, b_all_i (by omega)]
  constructor
  · rintro ⟨_, h2⟩; exact h2 a ha ((b_sg_i (by omega)).mpr rfl)
  · intro h
    refine ⟨hB a ha w hw j h, fun i hi hp => ?_⟩
    have : i = a := (b_sg_i (by omega)).mp hp
    subst this; exact h
theorem sem_sub {M : Nat → Nat → Int32} {n : Nat} (hn : n ≤ 24) {kd p1 p2 sb : Nat → Nat} : ∀ (k f : Nat) (mo : Int32) (j : Nat), bt (semV M n kd p1 p2 sb k mo f) j = true → bt mo j = true := by
  intro k
  induction k with
  | zero => intro f mo j h; exact absurd h (by show ¬ bt (nI 0) j = true; rw [bt_n0]; exact Bool.false_ne_true)
  | succ k ih =>
    intro f mo j h
    unfold semV at h
    split at h
    · exact (b_and_i.mp h).1
    split at h
    · exact (b_and_i.mp h).1
    split at h
    · exact ih _ _ _ (b_and_i.mp h).1
    split at h
    · unfold wReach at h; exact (b_and_i.mp h).1
    split at h
    · rcases b_or_i.mp h with h | h
      · exact (b_and_i.mp h).1
      · exact ih _ _ _ (ih _ _ _ h)
    · exact ((wSeen_i hn).mp h).2.1
theorem sem_eqV {M R : Nat → Nat → Int32} {n nf : Nat} {kd p1 p2 sb ag : Nat → Nat} (hn : n ≤ 24) (hA : Ar M R n) (hB : Bd M n) (hat : ∀ w, w < n → R 1 w = M 1 w) (hp : WFp nf kd p1 p2) (h7 : ∀ f, f < nf → kd f < 7) (h3 : ∀ f, f < nf → kd f = 3 → M 7 f = sg (ag f) ∧ ag f < 4) (h45 : ∀ f, f < nf → (kd f = 4 ∨ kd f = 5) → R 4 f = M 7 f) : ∀ (k f : Nat) (mo : Int32), f < nf → (∀ j, bt mo j = true → j < n) → semV M n kd p1 p2 sb k mo f = semRV R n kd p1 p2 sb ag k mo f := by
  intro k
  induction k with
  | zero => intro f mo _ _; rfl
  | succ k ih =>
    intro f mo hf hmo
    unfold semV semRV
    have hp1 : kd f ≠ 0 → p1 f < nf := fun h => Nat.lt_trans ((hp f hf).1 h) hf
    have hp2 : kd f = 2 ∨ kd f = 6 → p2 f < nf := fun h => Nat.lt_trans ((hp f hf).2 h) hf
    by_cases e0 : kd f = 0
    · rw [if_pos e0, if_pos e0]
      refine b_exi (fun j hj => ?_)
      rw [b_and_i, fo_or (P := fun w => bt mo w && bt (R 1 w) (sb f)) (by omega), Bool.and_eq_true]
      unfold worldsWith
      rw [fo_or (P := fun w => bt (M 1 w) (sb f)) (by omega)]
      constructor
      · rintro ⟨h1, h2, h4⟩; exact ⟨h2, h1, by rw [hat j h2]; exact h4⟩
      · rintro ⟨h1, h2, h4⟩; exact ⟨h2, h1, by rw [← hat j h1]; exact h4⟩
    rw [if_neg e0, if_neg e0]
    have i1 := ih (p1 f) mo (hp1 e0) hmo
    by_cases e1 : kd f = 1
    · rw [if_pos e1, if_pos e1, i1]
    rw [if_neg e1, if_neg e1]
    by_cases e2 : kd f = 2
    · rw [if_pos e2, if_pos e2, i1, ih (p2 f) mo (hp2 (Or.inl e2)) hmo]
    rw [if_neg e2, if_neg e2]
    by_cases e6 : kd f = 6
    · rw [if_neg (by omega), if_pos e6, if_pos e6, i1, ih (p2 f) _ (hp2 (Or.inr e6)) (fun j hj => hmo j (sem_sub hn k (p1 f) mo j (by rw [i1]; exact hj)))]
    rw [if_neg e6, if_neg e6]
    rw [i1]
    obtain ⟨s, hs⟩ : ∃ z, z = semRV R n kd p1 p2 sb ag k mo (p1 f) := ⟨_, rfl⟩
    rw [← hs]
    refine b_exi (fun j hj => ?_)
    rw [fo_or (P := fun w => bt mo w && decide ((askR R n kd ag f w mo &&& mo &&& (s ^^^ (-1))) = 0)) (by omega), Bool.and_eq_true, decide_eq_true_eq, off_i]
    unfold askR
    by_cases e4 : kd f = 4
    · rw [if_pos e4, if_neg (by omega), if_pos e4, wReach_i hA hB hn hmo, h45 f hf (Or.inl e4)]
      constructor
      · rintro ⟨h1, h2⟩; exact ⟨hmo j h1, h1, fun v h4 _ => h2 v h4⟩
      · rintro ⟨h1, h2, h4⟩; exact ⟨h2, fun v h5 => h4 v h5 (reach_in hA h1 hn h5)⟩
    · rw [if_neg e4, if_neg e4, wSeen_i hn]
      have hk := h7 f hf
      by_cases e3 : kd f = 3
      · obtain ⟨g1, g2⟩ := h3 f hf e3
        rw [if_pos e3, g1]
        constructor
        · rintro ⟨h1, h2, h4⟩
          rw [every_one hB hn g2 h1] at h4
          exact ⟨h1, h2, by rw [hA (ag f) g2 j h1]; exact h4⟩
        · rintro ⟨h1, h2, h4⟩
          rw [hA (ag f) g2 j h1] at h4
          exact ⟨h1, h2, by rw [every_one hB hn g2 h1]; exact h4⟩
      · rw [if_neg e3, h45 f hf (Or.inr (by omega))]
        constructor
        · rintro ⟨h1, h2, h4⟩; exact ⟨h1, h2, by rw [every_eq hA h1]; exact h4⟩
        · rintro ⟨h1, h2, h4⟩; rw [every_eq hA h1] at h4; exact ⟨h1, h2, h4⟩
/-! The two models are alike. -/
def Zr (M : Nat → Nat → Int32) (n : Nat) : Prop := ∀ i, i < 4 → ∀ w, n ≤ w → w < 24 → M (2 + i) w = nI 0
def SimW (M R : Nat → Nat → Int32) (n act : Nat) : Prop :=
  (n ≤ 24 ∧ (0 < n → act < n) ∧ (n = 0 → act = 0 ∧ M 15 0 = nI 0)) ∧ (M 0 0 = nI n ∧ M 0 1 = nI act) ∧ (R 0 1 = nI n ∧ R 0 2 = nI act) ∧ (∀ w, w < n → R 1 w = M 1 w) ∧ Ar M R n ∧ Bd M n ∧ Zr M n
def SimF (M : Nat → Nat → Int32) (N : Nat → Int64) (R : Nat → Nat → Int32) (nf : Nat) (kd p1 p2 ns sb ag : Nat → Nat) : Prop :=
  nf ≤ 40 ∧ M 0 2 = nI nf ∧ R 0 3 = nI nf ∧ WFX M N nf kd p1 p2 ns sb ∧ WFR R nf kd p1 p2 ns sb ag ∧ ∀ f, f < nf → R 6 f = M 10 f ∧ R 7 f = M 11 f ∧ (kd f = 3 → M 7 f = sg (ag f)) ∧ (kd f = 4 ∨ kd f = 5 → R 4 f = M 7 f) ∧ (∀ g, nb (N f) g = true → g ≤ f) ∧ ∃ e, e ≤ f ∧ M 10 f = nI e
def SimE (M : Nat → Nat → Int32) (N : Nat → Int64) (R : Nat → Nat → Int32) : Prop := ∃ (n act nf : Nat) (kd p1 p2 ns sb ag : Nat → Nat), SimW M R n act ∧ SimF M N R nf kd p1 p2 ns sb ag
theorem sim_sem {M R : Nat → Nat → Int32} {N : Nat → Int64} {n act nf : Nat} {kd p1 p2 ns sb ag : Nat → Nat} (hW : SimW M R n act) (hF : SimF M N R nf kd p1 p2 ns sb ag) {f : Nat} (hf : f < nf) : sem M n kd p1 p2 sb (sg n - nI 1) f = semR R n kd p1 p2 sb ag (sg n - nI 1) f := by
  obtain ⟨⟨hn, -, -⟩, -, -, hat, hA, hB, -⟩ := hW
  obtain ⟨h40, -, -, hX, hR, hl⟩ := hF
  exact sem_eqV hn hA hB hat hX.1 (fun f hf => (hX.2 f hf).1.1) (fun f hf e => ⟨(hl f hf).2.2.1 e, (((hR.2 f hf).2.2.2.2.1) e).2⟩) (fun f hf e => (hl f hf).2.2.2.1 e) _ f _ hf (fun j hj => (b_all_i (by omega)).mp hj)
theorem sem_all {M : Nat → Nat → Int32} {n : Nat} (hn : n ≤ 24) {kd p1 p2 sb : Nat → Nat} {f j : Nat} (h : bt (sem M n kd p1 p2 sb (sg n - nI 1) f) j = true) : j < n := (b_all_i (by omega)).mp (sem_sub hn _ _ _ _ h)
theorem SimW_m {M R u v : Nat → Nat → Int32} {n act : Nat} (h : SimW M R n act) (hu : ∀ i x, i < 6 → ¬ (i = 0 ∧ x = 2) → u i x = M i x) (hv : ∀ i x, i < 3 → ¬ (i = 0 ∧ (x = 0 ∨ x = 3)) → v i x = R i x) (h15 : n = 0 → u 15 0 = M 15 0) : SimW u v n act := by
  obtain ⟨h0, ⟨a1, a2⟩, ⟨b1, b2⟩, hat, hA, hB, hZ⟩ := h
  refine ⟨⟨h0.1, h0.2.1, fun h => ⟨(h0.2.2 h).1, (h15 h).trans (h0.2.2 h).2⟩⟩, ⟨(hu 0 0 (by decide) (by decide)).trans a1, (hu 0 1 (by decide) (by decide)).trans a2⟩, ⟨(hv 0 1 (by decide) (by decide)).trans b1, (hv 0 2 (by decide) (by decide)).trans b2⟩, fun w hw => ?_, fun i hi w hw => ?_, fun i hi w hw j hj => ?_, fun i hi w h1 h2 => ?_⟩
  · rw [hv 1 w (by decide) (by omega), hu 1 w (by decide) (by omega)]; exact hat w hw
  · rw [hv 2 _ (by decide) (by omega), hu (2 + i) w (by omega) (by omega)]; exact hA i hi w hw
  · rw [hu (2 + i) w (by omega) (by omega)] at hj; exact hB i hi w hw j hj
  · rw [hu (2 + i) w (by omega) (by omega)]; exact hZ i hi w h1 h2
theorem SimF_m {M R u v : Nat → Nat → Int32} {N : Nat → Int64} {nf : Nat} {kd p1 p2 ns sb ag : Nat → Nat} (h : SimF M N R nf kd p1 p2 ns sb ag) (hu : ∀ i x, (6 ≤ i ∧ i < 12 ∨ i = 0 ∧ x = 2) → u i x = M i x) (hv : ∀ i x, (3 ≤ i ∧ i < 8 ∨ i = 0 ∧ x = 3) → v i x = R i x) : SimF u N v nf kd p1 p2 ns sb ag := by
  obtain ⟨h0, h1, h2, hX, hR, hl⟩ := h
  have u6 : u 6 = M 6 := funext fun x => hu 6 x (by omega)
  have u7 : u 7 = M 7 := funext fun x => hu 7 x (by omega)
  have u8 : u 8 = M 8 := funext fun x => hu 8 x (by omega)
  have u9 : u 9 = M 9 := funext fun x => hu 9 x (by omega)
  have u11 : u 11 = M 11 := funext fun x => hu 11 x (by omega)
  refine ⟨h0, (hu 0 2 (by omega)).trans h1, (hv 0 3 (by omega)).trans h2, ?_, WFR_g (funext fun x => hv 3 x (by omega)) (funext fun x => hv 4 x (by omega)) (funext fun x => hv 5 x (by omega)) hR, fun f hf => ?_⟩
  · unfold WFX at hX ⊢
    rw [u6, u7, u8, u9, u11]; exact hX
  · rw [hv 6 f (by omega), hv 7 f (by omega), hu 10 f (by omega), hu 11 f (by omega), hu 7 f (by omega), hv 4 f (by omega)]
    exact hl f hf
theorem simT {M R u v : Nat → Nat → Int32} {N : Nat → Int64} {n act nf : Nat} {kd p1 p2 ns sb ag : Nat → Nat} (hW : SimW M R n act) (hF : SimF M N R nf kd p1 p2 ns sb ag) (hu : TX M u) (hv : ∀ i x, i < 8 → ¬ (i = 0 ∧ x = 0) → v i x = R i x) : SimE u N v :=
  ⟨n, act, nf, kd, p1, p2, ns, sb, ag, SimW_m hW (fun i x hi h => hu i x (by omega)) (fun i x hi h => hv i x (by omega) (by omega)) (fun _ => hu 15 0 (by omega)), SimF_m hF (fun i x h => hu i x (by omega)) (fun i x h => hv i x (by omega) (by omega))⟩
theorem simL {M R u v : Nat → Nat → Int32} {N : Nat → Int64} {n act nf : Nat} {kd p1 p2 ns sb ag : Nat → Nat} (hW : SimW M R n act) (hF : SimF M N R nf kd p1 p2 ns sb ag) (hn0 : 0 < n) (hu : ∀ i x, ¬ (12 ≤ i ∧ i < 21) → u i x = M i x) (hv : ∀ i x, i < 8 → ¬ (i = 0 ∧ x = 0) → v i x = R i x) : SimE u N v :=
  ⟨n, act, nf, kd, p1, p2, ns, sb, ag, SimW_m hW (fun i x hi h => hu i x (by omega)) (fun i x hi h => hv i x (by omega) (by omega)) (fun h => absurd h (by omega)), SimF_m hF (fun i x h => hu i x (by omega)) (fun i x h => hv i x (by omega) (by omega))⟩

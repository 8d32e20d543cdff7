/-! Likeness: the classes of the class and the smallest worlds of the reference. -/
def Ker (n : Nat) (c d : Nat → Nat) : Prop := ∀ v w, v < n → w < n → (c v = c w ↔ d v = d w)
theorem cls_i {n : Nat} {cl : Nat → Nat} {set : Int32} {j : Nat} (hc : ∀ w, w < n → cl w < 32) : bt (clsIn n cl set) j = true ↔ ∃ w, w < n ∧ bt set w = true ∧ j = cl w := fo_im (P := fun w => bt set w) (c := cl) hc
theorem cls_c {n : Nat} {cl : Nat → Nat} {A B : Int32} (hc : ∀ w, w < n → cl w < 32) : clsIn n cl A = clsIn n cl B ↔ (∀ w, w < n → bt A w = true → ∃ y, y < n ∧ bt B y = true ∧ cl w = cl y) ∧ (∀ w, w < n → bt B w = true → ∃ y, y < n ∧ bt A y = true ∧ cl w = cl y) := by
  constructor
  · intro h
    refine ⟨fun w hw hb => ?_, fun w hw hb => ?_⟩
    · have h1 : bt (clsIn n cl A) (cl w) = true := (cls_i hc).mpr ⟨w, hw, hb, rfl⟩
      rw [h] at h1
      exact (cls_i hc).mp h1
    · have h1 : bt (clsIn n cl B) (cl w) = true := (cls_i hc).mpr ⟨w, hw, hb, rfl⟩
      rw [← h] at h1
      exact (cls_i hc).mp h1
  · rintro ⟨h1, h2⟩
    refine b_exi (fun j _ => ?_)
    rw [cls_i hc, cls_i hc]
    constructor
    · rintro ⟨w, hw, hb, rfl⟩; exact h1 w hw hb
    · rintro ⟨w, hw, hb, rfl⟩; exact h2 w hw hb
theorem cls_k {n : Nat} {c d : Nat → Nat} {A B : Int32} (hc : ∀ w, w < n → c w < 32) (hd : ∀ w, w < n → d w < 32) (hk : Ker n c d) : clsIn n c A = clsIn n c B ↔ clsIn n d A = clsIn n d B := by
  rw [cls_c hc, cls_c hd]
  constructor
  · rintro ⟨h1, h2⟩
    refine ⟨fun w hw hb => ?_, fun w hw hb => ?_⟩
    · obtain ⟨y, hy, h3, h4⟩ := h1 w hw hb; exact ⟨y, hy, h3, (hk w y hw hy).mp h4⟩
    · obtain ⟨y, hy, h3, h4⟩ := h2 w hw hb; exact ⟨y, hy, h3, (hk w y hw hy).mp h4⟩
  · rintro ⟨h1, h2⟩
    refine ⟨fun w hw hb => ?_, fun w hw hb => ?_⟩
    · obtain ⟨y, hy, h3, h4⟩ := h1 w hw hb; exact ⟨y, hy, h3, (hk w y hw hy).mpr h4⟩
    · obtain ⟨y, hy, h3, h4⟩ := h2 w hw hb; exact ⟨y, hy, h3, (hk w y hw hy).mpr h4⟩
theorem cls_g {n : Nat} {c d : Nat → Nat} {A : Int32} (h : ∀ w, w < n → c w = d w) : clsIn n c A = clsIn n d A := fo_cong (fun w hw r => by rw [h w hw])
theorem twin_same {M R : Nat → Nat → Int32} {n : Nat} (hA : Ar M R n) (hat : ∀ w, w < n → R 1 w = M 1 w) {c d : Nat → Nat} (hc : ∀ w, w < n → c w < 32) (hd : ∀ w, w < n → d w < 32) (hk : Ker n c d) {v w : Nat} (hv : v < n) (hw : w < n) : twinP M n c v w = sameP R n d v w := by
  unfold twinP sameP
  rw [hat v hv, hat w hw, decide_eq_decide.mpr (hk v w hv hw)]
  congr 1
  refine allB_cong (fun i hi => decide_eq_decide.mpr ?_)
  rw [hA i hi v hv, hA i hi w hw]
  exact cls_k hc hd hk
theorem tw_cf {M R : Nat → Nat → Int32} {n : Nat} (hA : Ar M R n) (hat : ∀ w, w < n → R 1 w = M 1 w) {c d : Nat → Nat} (hc : ∀ w, w < n → c w < 32) (hd : ∀ w, w < n → d w < 32) (hk : Ker n c d) {w : Nat} (hw : w < n) : twP M n c w = cf R n d w := fst_cong (fun v hv => twin_same hA hat hc hd hk (by omega) hw)
theorem fin_ct {M R : Nat → Nat → Int32} {n : Nat} (hA : Ar M R n) (hat : ∀ w, w < n → R 1 w = M 1 w) {c d : Nat → Nat} (hc : ∀ w, w < n → c w < 32) (hd : ∀ w, w < n → d w < 32) (hk : Ker n c d) : ∀ j, j ≤ n → ∀ x, x < j → finP M n c j x = fb_ct (repP M n c) (cf R n d x)
  | 0, _, x, h => absurd h (by omega)
  | j + 1, hj, x, hx => by
    rw [show finP M n c (j + 1) x = (if x = j then (if twP M n c j = j then fb_ct (repP M n c) j else finP M n c j (twP M n c j)) else finP M n c j x) from rfl]
    by_cases e : x = j
    · subst e
      have ht := tw_cf hA hat hc hd hk (show x < n by omega)
      rw [if_pos rfl, ht]
      by_cases e2 : cf R n d x = x
      · rw [if_pos e2, e2]
      · have hl := cf_le R n d x
        rw [if_neg e2, fin_ct hA hat hc hd hk x (by omega) _ (by omega), cf_cf]
    · rw [if_neg e]
      exact fin_ct hA hat hc hd hk j (by omega) x (by omega)
theorem rep_cf {M R : Nat → Nat → Int32} {n : Nat} (hA : Ar M R n) (hat : ∀ w, w < n → R 1 w = M 1 w) {c d : Nat → Nat} (hc : ∀ w, w < n → c w < 32) (hd : ∀ w, w < n → d w < 32) (hk : Ker n c d) {w : Nat} (hw : w < n) : repP M n c w = decide (cf R n d w = w) := by
  unfold repP
  rw [tw_cf hA hat hc hd hk hw]
/-- the number of a world's class among the smallest worlds -/
def num (L : Nat → Nat) (x : Nat) : Nat := fb_ct (fun w => decide (L w = w)) (L x)
theorem clk_lkk {M R : Nat → Nat → Int32} {n : Nat} (hn : n ≤ 24) (hA : Ar M R n) (hat : ∀ w, w < n → R 1 w = M 1 w) : ∀ k, Ker n (clk M n k) (lkk R n k) ∧ (0 < k → ∀ x, x < n → clk M n k x = num (lkk R n k) x)
  | 0 => ⟨fun v w _ _ => ⟨fun _ => rfl, fun _ => rfl⟩, fun h => absurd h (by decide)⟩
  | k + 1 => by
    have ih := (clk_lkk hn hA hat k).1
    have hc : ∀ w, w < n → clk M n k w < 32 := fun w hw => by have := clk_le M n k w; omega
    have hd : ∀ w, w < n → lkk R n k w < 32 := fun w hw => by have := lkk_le R n k w; omega
    have hnum : ∀ x, x < n → clk M n (k + 1) x = num (lkk R n (k + 1)) x := fun x hx => by
      show finP M n (clk M n k) n x = fb_ct (fun w => decide (cf R n (lkk R n k) w = w)) (cf R n (lkk R n k) x)
      rw [fin_ct hA hat hc hd ih n (Nat.le_refl n) x hx]
      exact fb_ct_cong (fun w hw => rep_cf hA hat hc hd ih (by have := cf_le R n (lkk R n k) x; omega))
    refine ⟨fun v w hv hw => ?_, fun _ => hnum⟩
    rw [hnum v hv, hnum w hw]
    constructor
    · intro h
      exact fb_ct_kth_one (p := fun w => decide (lkk R n (k + 1) w = w)) (decide_eq_true (lkk_id R n (k + 1) v)) (decide_eq_true (lkk_id R n (k + 1) w)) h
    · intro h
      unfold num
      rw [h]
theorem cc_rcn {M R : Nat → Nat → Int32} {n : Nat} (hn : n ≤ 24) (hn0 : 0 < n) (hA : Ar M R n) (hat : ∀ w, w < n → R 1 w = M 1 w) : ∀ k, cc M n k = rcn R n k
  | 0 => by
    show 1 = fb_ct (fun w => decide (0 = w)) n
    have h := fb_ct_split (fun w => decide (0 = w)) 1 (n - 1)
    rw [show 1 + (n - 1) = n by omega] at h
    have hz : fb_ct (fun k => decide (0 = 1 + k)) (n - 1) = 0 := fb_ct_zero.mpr (fun k _ => decide_eq_false (by omega))
    rw [h, hz]
    rfl
  | k + 1 => by
    have ih := (clk_lkk hn hA hat k).1
    have hc : ∀ w, w < n → clk M n k w < 32 := fun w hw => by have := clk_le M n k w; omega
    have hd : ∀ w, w < n → lkk R n k w < 32 := fun w hw => by have := lkk_le R n k w; omega
    exact fb_ct_cong (fun w hw => rep_cf hA hat hc hd ih hw)
theorem chg_f {R : Nat → Nat → Int32} {n k : Nat} : chgB R n k = false ↔ ∀ w, w < n → lkk R n k w = lkk R n (k + 1) w := by
  unfold chgB
  rw [Bool.not_eq_false', allB_iff]
  exact ⟨fun h w hw => of_decide_eq_true (h w hw), fun h w hw => decide_eq_true (h w hw)⟩
theorem cf_g {R : Nat → Nat → Int32} {n : Nat} {c d : Nat → Nat} (h : ∀ w, w < n → c w = d w) {w : Nat} (hw : w < n) : cf R n c w = cf R n d w := by
  refine fst_cong (fun v hv => ?_)
  show sameP R n c v w = sameP R n d v w
  unfold sameP
  rw [h v (by omega), h w hw]
  congr 1
  exact allB_cong (fun i hi => by rw [cls_g h, cls_g h])
theorem lkk_st {R : Nat → Nat → Int32} {n j : Nat} (h : chgB R n j = false) : ∀ d w, w < n → lkk R n (j + d) w = lkk R n j w
  | 0, w, _ => rfl
  | d + 1, w, hw => by
    show cf R n (lkk R n (j + d)) w = lkk R n j w
    rw [cf_g (d := lkk R n j) (fun x hx => lkk_st h d x hx) hw]
    exact ((chg_f.mp h) w hw).symm
theorem lkk_two {R : Nat → Nat → Int32} {n a b : Nat} (ha : chgB R n a = false) (hb : chgB R n b = false) {w : Nat} (hw : w < n) : lkk R n a w = lkk R n b w := by
  rcases Nat.le_total a b with h | h
  · have := lkk_st ha (b - a) w hw
    rw [show a + (b - a) = b by omega] at this
    exact this.symm
  · have := lkk_st hb (a - b) w hw
    rw [show b + (a - b) = a by omega] at this
    exact this
theorem chg_some {R : Nat → Nat → Int32} {n : Nat} (hn0 : 0 < n) : ∃ j, j < n ∧ chgB R n j = false := by
  apply Classical.byContradiction
  intro h
  have h1 : ∀ j, j < n → chgB R n j = true := fun j hj => by
    cases hb : chgB R n j with
    | true => rfl
    | false => exact absurd ⟨j, hj, hb⟩ h
  have h2 : ∀ j, j ≤ n → rcn R n 0 + j ≤ rcn R n j := by
    intro j
    induction j with
    | zero => intro _; exact Nat.le_refl _
    | succ j ih => intro hj; have := ih (by omega); have := rcn_grow (h1 j (by omega)); omega
  have h3 := h2 n (Nat.le_refl n)
  have h4 := rcn_le R n n
  have h5 : 0 < rcn R n 0 := fb_ct_pos.mpr ⟨0, hn0, rfl⟩
  omega
theorem chg_on {R : Nat → Nat → Int32} {n j d : Nat} (h : chgB R n j = false) : chgB R n (j + d) = false := chg_f.mpr (fun w hw => (lkk_st h d w hw).trans (lkk_st h (d + 1) w hw).symm)
theorem num_g {c d : Nat → Nat} {n : Nat} (h : ∀ w, w < n → c w = d w) (hl : ∀ w, d w ≤ w) {x : Nat} (hx : x < n) : num c x = num d x := by
  unfold num
  rw [h x hx]
  exact fb_ct_cong (fun w hw => by have := hl x; rw [h w (by omega)])
/-- what findClasses leaves, in words of the reference's smallest worlds -/
theorem find_L {M R u : Nat → Nat → Int32} {n K : Nat} (hn : n ≤ 24) (hn0 : 0 < n) (hA : Ar M R n) (hat : ∀ w, w < n → R 1 w = M 1 w) (hu : FindF M n u) (hK : chgB R n K = false) : (∀ x, x < n → u 15 x = nI (num (lkk R n (K + 1)) x)) ∧ (∀ i, i < 4 → ∀ x, x < n → u (16 + i) x = clsIn n (num (lkk R n (K + 1))) (M (2 + i) x)) ∧ ∀ i x, ¬ (15 ≤ i ∧ i < 21) → u i x = M i x := by
  obtain ⟨k, hk, ⟨f1, f2, f3, -⟩, hst⟩ := hu
  have hk0 : 0 < k := by rcases hst with h | ⟨h, -⟩ <;> omega
  have hch : chgB R n (k - 1) = false := by
    rcases hst with h | ⟨-, h⟩
    · obtain ⟨j, hj, h1⟩ := chg_some (R := R) hn0
      have := chg_on (d := k - 1 - j) h1
      rw [show j + (k - 1 - j) = k - 1 by omega] at this
      exact this
    · rw [cc_rcn hn hn0 hA hat, cc_rcn hn hn0 hA hat] at h
      cases hb : chgB R n (k - 1) with
      | false => rfl
      | true =>
        have := rcn_grow hb
        rw [show k - 1 + 1 = k by omega] at this
        omega
  have hK1 : chgB R n (K + 1) = false := chg_on (d := 1) hK
  have hkk : chgB R n k = false := by
    have := chg_on (d := 1) hch
    rw [show k - 1 + 1 = k by omega] at this
    exact this
  have e1 : ∀ x, x < n → clk M n k x = num (lkk R n (K + 1)) x := fun x hx => by
    rw [(clk_lkk hn hA hat k).2 hk0 x hx]
    exact num_g (fun w hw => lkk_two hkk hK1 hw) (lkk_le R n (K + 1)) hx
  have e2 : ∀ x, x < n → clk M n (k - 1) x = num (lkk R n (K + 1)) x := fun x hx => by
    by_cases h : 0 < k - 1
    · rw [(clk_lkk hn hA hat (k - 1)).2 h x hx]
      exact num_g (fun w hw => lkk_two hch hK1 hw) (lkk_le R n (K + 1)) hx
    · have h0 : k - 1 = 0 := by omega
      rw [h0] at hch ⊢
      show 0 = num (lkk R n (K + 1)) x
      unfold num
      rw [show lkk R n (K + 1) x = 0 from lkk_two hK1 hch hx]
      rfl
  refine ⟨fun x hx => by rw [f1 x hx, e1 x hx], fun i hi x hx => by rw [f3 hk0 i hi x hx, cls_g e2], f2⟩
theorem num_le {R : Nat → Nat → Int32} {n k x : Nat} : num (lkk R n k) x ≤ x := Nat.le_trans (fb_ct_le _ _) (lkk_le R n k x)
theorem num_eq {R : Nat → Nat → Int32} {n k x y : Nat} : num (lkk R n k) x = num (lkk R n k) y ↔ lkk R n k x = lkk R n k y := by
  constructor
  · intro h
    exact fb_ct_kth_one (p := fun w => decide (lkk R n k w = w)) (decide_eq_true (lkk_id R n k x)) (decide_eq_true (lkk_id R n k y)) h
  · intro h
    unfold num
    rw [h]

theorem op_areAlike {M R : Nat → Nat → Int32} {N : Nat → Int64} {n act nf : Nat} {kd p1 p2 ns sb ag : Nat → Nat} (hW : SimW M R n act) (hF : SimF M N R nf kd p1 p2 ns sb ag) (x : Int32) (y : Int32) {u : (Nat → Nat → Int32) × (Nat → Int64)} (hu : ((if (isIn n x) = true then (if (isIn n y) = true then 0 else 1) else 1) = 0 → FindF M n u.1 ∧ u.2 0 = (if (decide (u.1 15 x.toNatClampNeg = u.1 15 y.toNatClampNeg)) = true then (1 : Int64) else 0)) ∧ (¬ (if (isIn n x) = true then (if (isIn n y) = true then 0 else 1) else 1) = 0 → TX M u.1)) {v : Nat → Nat → Int32} (hv : (if (isIn n x && isIn n y) = true then FindL (wr R 0 0 (nI 0)) n v else v = wr R 0 0 (nI 1))) : v 0 0 = nI (if (isIn n x) = true then (if (isIn n y) = true then 0 else 1) else 1) ∧ ((if (isIn n x) = true then (if (isIn n y) = true then 0 else 1) else 1) = 0 → u.2 0 = (if (isIn n x && isIn n y && decide (v 11 x.toNatClampNeg = v 11 y.toNatClampNeg)) = true then (1 : Int64) else 0)) ∧ SimE u.1 N v := by
  obtain ⟨hu0, hu1⟩ := hu
  have hno : (isIn n x && isIn n y) = false → (if isIn n x = true then (if isIn n y = true then 0 else 1) else 1) = 1 := by
    cases isIn n x <;> cases isIn n y <;> simp
  by_cases h1 : (isIn n x && isIn n y) = true
  · have h2 := h1
    rw [Bool.and_eq_true] at h2
    obtain ⟨hx, hy⟩ := h2
    obtain ⟨hx1, -⟩ := isIn_eq (by have := hW.1.1; omega) hx
    obtain ⟨hy1, -⟩ := isIn_eq (by have := hW.1.1; omega) hy
    simp only [hx, hy, if_true, Bool.true_and, Bool.and_self] at hu0 hu1 hv ⊢
    obtain ⟨e1, e2⟩ := hu0 trivial
    obtain ⟨K, ⟨l1, l2⟩, hK⟩ := hv
    have hn := hW.1.1
    have hn0 : 0 < n := by omega
    have hA : Ar M (wr R 0 0 (nI 0)) n := fun i hi w hw => (wr_ne (by omega)).trans (hW.2.2.2.2.1 i hi w hw)
    have hat : ∀ w, w < n → wr R 0 0 (nI 0) 1 w = M 1 w := fun w hw => (wr_ne (by omega)).trans (hW.2.2.2.1 w hw)
    obtain ⟨g1, -, g3⟩ := find_L hn hn0 hA hat e1 hK
    refine ⟨(l2 0 0 (by decide)).trans wr_same, fun _ => ?_, simL hW hF hn0 (fun i x h => g3 i x (by omega)) (fun i x h1 h2 => (l2 i x (by omega)).trans (wr_ne (by omega)))⟩
    rw [e2, g1 _ hx1, g1 _ hy1, l1 _ hx1, l1 _ hy1]
    have b1 := num_le (R := wr R 0 0 (nI 0)) (n := n) (k := K + 1) (x := x.toNatClampNeg)
    have b2 := num_le (R := wr R 0 0 (nI 0)) (n := n) (k := K + 1) (x := y.toNatClampNeg)
    have b3 := lkk_le (wr R 0 0 (nI 0)) n (K + 1) x.toNatClampNeg
    have b4 := lkk_le (wr R 0 0 (nI 0)) n (K + 1) y.toNatClampNeg
    have : (nI (num (lkk (wr R 0 0 (nI 0)) n (K + 1)) x.toNatClampNeg) = nI (num (lkk (wr R 0 0 (nI 0)) n (K + 1)) y.toNatClampNeg)) ↔ (nI (lkk (wr R 0 0 (nI 0)) n (K + 1) x.toNatClampNeg) = nI (lkk (wr R 0 0 (nI 0)) n (K + 1) y.toNatClampNeg)) := by
      rw [nI_eq (by omega) (by omega), nI_eq (by omega) (by omega)]; exact num_eq
    rw [decide_eq_decide.mpr this]
  · rw [Bool.not_eq_true] at h1
    rw [hno h1] at hu0 hu1 ⊢
    simp only [h1, if_false, Bool.false_eq_true] at hv
    subst hv
    exact ⟨wr_same, fun h => absurd h (by decide), simQ hW hF (hu1 (by decide))⟩

theorem repS_i {L : Nat → Nat} {n j : Nat} (hn : n ≤ 24) (hl : ∀ w, L w ≤ w) (hi : ∀ w, L (L w) = L w) : bt (repS L n) j = true ↔ j < n ∧ L j = j := by
  have e : repS L n = fo (fun w r => if (fun _ => true) w then r ||| sg (L w) else r) (nI 0) n := rfl
  rw [e, fo_im (P := fun _ => true) (c := L) (fun w hw => by have := hl w; omega)]
  constructor
  · rintro ⟨w, hw, -, rfl⟩; exact ⟨by have := hl w; omega, hi w⟩
  · rintro ⟨h1, h2⟩; exact ⟨j, h1, rfl, h2.symm⟩
theorem repS_rk {L : Nat → Nat} {n w : Nat} (hn : n ≤ 24) (hl : ∀ w, L w ≤ w) (hi : ∀ w, L (L w) = L w) (hw : w ≤ n) : rk (repS L n) w = fb_ct (fun w => decide (L w = w)) w := by
  refine fb_ct_cong (fun y hy => Bool.eq_iff_iff.mpr ?_)
  rw [repS_i hn hl hi, decide_eq_true_eq]
  exact ⟨fun h => h.2, fun h => ⟨by omega, h⟩⟩
theorem nx_ct {M : Nat → Nat → Int32} {L : Nat → Nat} {n : Nat} (hn : n ≤ 24) (hl : ∀ w, L w ≤ w) (hi : ∀ w, L (L w) = L w) (h15 : ∀ w, w < n → M 15 w = nI (num L w)) : ∀ j, j ≤ n → nx M j = fb_ct (fun w => decide (L w = w)) j
  | 0, _ => rfl
  | j + 1, hj => by
    have ih := nx_ct hn hl hi h15 j (by omega)
    have hnl : num L j ≤ j := Nat.le_trans (fb_ct_le _ _) (hl j)
    have hcl := fb_ct_le (fun w => decide (L w = w)) j
    by_cases e : L j = j
    · rw [nx_s (by rw [h15 j (by omega), ih]; unfold num; rw [e]), ih, fb_ct_succ, if_pos (decide_eq_true e)]
    · rw [nx_n (by
        rw [h15 j (by omega), ih, nI_eq (by omega) (by omega)]
        intro q
        have h1 := hl j
        have h2 := fb_ct_mono (fun w => decide (L w = w)) (show L j + 1 ≤ j by omega)
        rw [fb_ct_succ, if_pos (decide_eq_true (hi j))] at h2
        unfold num at q
        omega), ih, fb_ct_succ, if_neg (by rw [decide_eq_true_eq]; exact e)]
      rfl
theorem con_W {M R u v u1 z : Nat → Nat → Int32} {n act : Nat} {L : Nat → Nat} (hW : SimW M R n act) (hn0 : 0 < n) (hl : ∀ w, L w ≤ w) (hi : ∀ w, L (L w) = L w) (f1 : ∀ x, x < n → u1 15 x = nI (num L x)) (f2 : ∀ i, i < 4 → ∀ x, x < n → u1 (16 + i) x = clsIn n (num L) (M (2 + i) x)) (f3 : ∀ i x, ¬ (15 ≤ i ∧ i < 21) → u1 i x = M i x) (hu : MergF u1 n act u) (z1 : ∀ w, w < n → z 1 w = R 1 w) (z2 : ∀ i, i < 4 → ∀ w, w < n → z 2 (24 * i + w) = clsIn n L (R 2 (24 * i + w))) (hv : KeepRF z n (L act) (repS L n) v) : SimW u v (rk (repS L n) n) (rk (repS L n) (L act)) ∧ (∀ i x, (6 ≤ i ∧ i < 12 ∨ i = 0 ∧ x = 2) → u i x = M i x) ∧ u 0 0 = nI (rk (repS L n) n) ∧ v 0 1 = nI (rk (repS L n) n) := by
  obtain ⟨h0, ⟨a1, a2⟩, ⟨b1, b2⟩, hat, hA, hB, hZ⟩ := hW
  obtain ⟨w0, ⟨m1, m2⟩, hue⟩ := hu
  have hn := h0.1
  have hact := h0.2.1 hn0
  obtain ⟨-, v2, v3, v4⟩ := keep_v hn0 hv
  have hnx : ∀ j, j ≤ n → nx u1 j = rk (repS L n) j := fun j hj => by rw [nx_ct hn hl hi f1 j hj, repS_rk hn hl hi hj]
  have hrn := rk_le (repS L n) n
  have hnum : ∀ x, x < n → num L x = rk (repS L n) (L x) := fun x hx => by rw [repS_rk hn hl hi (by have := hl x; omega)]; rfl
  have hlt : ∀ x, x < n → rk (repS L n) (L x) < rk (repS L n) n := fun x hx => rk_lt (by have := hl x; omega) ((repS_i hn hl hi).mpr ⟨by have := hl x; omega, hi x⟩)
  rw [hnx n (Nat.le_refl n), f1 act hact, hnum act hact] at hue
  have sh : ∀ i x, ¬ (i = 0 ∧ x = 0) → ¬ (i = 0 ∧ x = 1) → ¬ ((1 ≤ i ∧ i < 6) ∧ rk (repS L n) n ≤ x ∧ x < n) → u i x = w0 i x := fun i x g1 g2 g3 => by
    rw [hue]
    unfold shrZ
    rw [wr_ne (by omega)]
    unfold shrA
    rw [if_neg g3, wr_ne (by omega)]
  have mm : ∀ w, w < n → bt (repS L n) w = true → u 1 (rk (repS L n) w) = M 1 w ∧ ∀ i, i < 4 → u (2 + i) (rk (repS L n) w) = clsIn n (num L) (M (2 + i) w) := fun w hw hb => by
    have hLw := ((repS_i hn hl hi).mp hb).2
    have hr := rk_lt hw hb
    have e1 := hnx w (by omega)
    obtain ⟨g1, g2⟩ := m1 w hw (by rw [f1 w hw, e1, hnum w hw, hLw])
    rw [e1] at g1 g2
    exact ⟨by rw [sh 1 _ (by omega) (by omega) (by omega), g1]; exact f3 1 w (by omega), fun i hi' => by rw [sh (2 + i) _ (by omega) (by omega) (by omega), g2 i hi']; exact f2 i hi' w hw⟩
  have hcn : ∀ w, w < n → num L w < 32 := fun w hw => by have := hlt w hw; rw [hnum w hw]; omega
  have ucount : u 0 0 = nI (rk (repS L n) n) := by rw [hue]; exact wr_same
  refine ⟨⟨⟨by omega, fun _ => hlt act hact, fun h => absurd (hlt act hact) (by omega)⟩, ⟨ucount, ?_⟩, ⟨v2, v3⟩, fun q hq => ?_, fun i hi' q hq => ?_, fun i hi' q hq j hj => ?_, fun i hi' q g1 g2 => ?_⟩, fun i x h => by rw [sh i x (by omega) (by omega) (by omega), m2 i x (by omega)]; exact f3 i x (by omega), ucount, v2⟩
  · rw [hue]
    unfold shrZ
    rw [wr_ne (by decide)]
    unfold shrA
    rw [if_neg (by omega)]
    exact wr_same
  · obtain ⟨w, hw, hb, rfl⟩ := kth hq
    rw [(v4 w hw hb).1, (mm w hw hb).1, z1 w hw]; exact hat w hw
  · obtain ⟨w, hw, hb, rfl⟩ := kth hq
    rw [(v4 w hw hb).2 i hi', (mm w hw hb).2 i hi', z2 i hi' w hw, hA i hi' w hw]
    refine b_exi (fun j _ => ?_)
    rw [renR_i hn, cls_i hcn]
    constructor
    · rintro ⟨r, hr, h1, rfl⟩
      obtain ⟨h2, h3⟩ := b_and_i.mp h1
      obtain ⟨y, hy, h4, rfl⟩ := (cls_i (fun w hw => by have := hl w; omega)).mp h2
      exact ⟨y, hy, h4, (hnum y hy).symm⟩
    · rintro ⟨y, hy, h4, rfl⟩
      have := hl y
      exact ⟨L y, by omega, b_and_i.mpr ⟨(cls_i (fun w hw => by have := hl w; omega)).mpr ⟨y, hy, h4, rfl⟩, (repS_i hn hl hi).mpr ⟨by omega, hi y⟩⟩, hnum y hy⟩
  · obtain ⟨w, hw, hb, rfl⟩ := kth hq
    rw [(mm w hw hb).2 i hi'] at hj
    obtain ⟨y, hy, -, rfl⟩ := (cls_i hcn).mp hj
    rw [hnum y hy]; exact hlt y hy
  · by_cases e : q < n
    · rw [hue]
      unfold shrZ
      rw [wr_ne (by omega)]
      unfold shrA
      rw [if_pos (by omega)]
    · rw [sh (2 + i) q (by omega) (by omega) (by omega), m2 (2 + i) q (Or.inr (by rw [hnx n (Nat.le_refl n)]; exact g1)), f3 (2 + i) q (by omega)]
      exact hZ i hi' q (by omega) g2
theorem op_contract {M R : Nat → Nat → Int32} {N : Nat → Int64} {n act nf : Nat} {kd p1 p2 ns sb ag : Nat → Nat} (hW : SimW M R n act) (hF : SimF M N R nf kd p1 p2 ns sb ag) {u v : Nat → Nat → Int32} (hu : (∃ v, FindF M n v ∧ MergF v n act u)) (hv : ConF R n act v) : u 0 0 = v 0 1 ∧ SimE u N v := by
  obtain ⟨u1, hu1, hu2⟩ := hu
  obtain ⟨K, x1, ⟨l1, l2⟩, hK, hv⟩ := hv
  by_cases h0 : n = 0
  · rw [if_pos h0, if_pos h0] at hv
    subst h0
    obtain ⟨k, hk, ⟨-, -, -, f4⟩, -⟩ := hu1
    have hk0 : k = 0 := by omega
    have f5 := f4 hk0
    obtain ⟨w0, ⟨-, m2⟩, hue⟩ := hu2
    obtain ⟨y0, ⟨-, r2, r3, r4⟩, hve⟩ := hv
    rw [if_pos rfl] at hve
    obtain ⟨h0, ⟨a1, a2⟩, ⟨b1, b2⟩, hat, hA, hB, hZ⟩ := hW
    have hm : ∀ i x, u i x = (if i = 0 ∧ x = 0 then nI 0 else if i = 0 ∧ x = 1 then nI 0 else M i x) := fun i x => by
      rw [hue]
      unfold shrZ
      rw [show nx u1 0 = 0 from rfl, wr_eq]
      by_cases e1 : i = 0 ∧ x = 0
      · rw [if_pos e1, if_pos e1]
      · rw [if_neg e1, if_neg e1]
        unfold shrA
        rw [if_neg (by omega), wr_eq]
        by_cases e2 : i = 0 ∧ x = 1
        · rw [if_pos e2, if_pos e2, (h0.2.2 rfl).1, f5 15 0 (by omega)]; exact (h0.2.2 rfl).2
        · rw [if_neg e2, if_neg e2, m2 i x (Or.inr (Nat.zero_le _)), f5 i x (by omega)]
    have hr : ∀ i x, i ≠ 1 → i ≠ 2 → i < 8 → ¬ (i = 0 ∧ x = 1) → v i x = wr R 0 0 (nI 0) i x := fun i x e1 e2 e3 e4 => by
      rw [hve, wr_ne (by omega), r2 i x e1 e2, conC_o e2]
      exact l2 i x (by omega)
    refine ⟨by rw [hm 0 0, if_pos ⟨rfl, rfl⟩, hve]; exact wr_same.symm, ?_⟩
    refine simC (n := 0) (act := act) (n2 := 0) (act2 := act) ⟨⟨by omega, fun h => absurd h (by omega), fun _ => ⟨(h0.2.2 rfl).1, by rw [hm 15 0, if_neg (by omega), if_neg (by omega)]; exact (h0.2.2 rfl).2⟩⟩, ⟨by rw [hm 0 0, if_pos ⟨rfl, rfl⟩], by rw [hm 0 1, if_neg (by omega), if_pos ⟨rfl, rfl⟩, (h0.2.2 rfl).1]⟩, ⟨by rw [hve]; exact wr_same, by rw [hr 0 2 (by decide) (by decide) (by decide) (by decide)]; exact (wr_ne (by omega)).trans b2⟩, fun w hw => absurd hw (by omega), fun i hi w hw => absurd hw (by omega), fun i hi w hw => absurd hw (by omega), fun i hi w g1 g2 => by rw [hm (2 + i) w, if_neg (by omega), if_neg (by omega)]; exact hZ i hi w g1 g2⟩ hF (fun i x h => by rw [hm i x, if_neg (by omega), if_neg (by omega)]) (fun i x h => (hr i x (by omega) (by omega) (by omega) (by omega)).trans (wr_ne (by omega)))
  · rw [if_neg h0, if_neg h0] at hv
    have hn := hW.1.1
    have hn0 : 0 < n := by omega
    have hA : Ar M (wr R 0 0 (nI 0)) n := fun i hi w hw => (wr_ne (by omega)).trans (hW.2.2.2.2.1 i hi w hw)
    have hat : ∀ w, w < n → wr R 0 0 (nI 0) 1 w = M 1 w := fun w hw => (wr_ne (by omega)).trans (hW.2.2.2.1 w hw)
    obtain ⟨g1, g2, g3⟩ := find_L hn hn0 hA hat hu1 hK
    have hl := lkk_le (wr R 0 0 (nI 0)) n (K + 1)
    have hi := lkk_id (wr R 0 0 (nI 0)) n (K + 1)
    obtain ⟨L, hL⟩ : ∃ L, L = lkk (wr R 0 0 (nI 0)) n (K + 1) := ⟨_, rfl⟩
    rw [← hL] at hv g1 g2 hl hi
    obtain ⟨c1, c2, c3, c4⟩ := con_W hW hn0 hl hi g1 g2 g3 hu2 (fun w hw => by rw [wr_ne (by omega), conC_o (by decide), l2 1 w (by decide)]; exact wr_ne (by omega)) (fun i hi' w hw => by
      rw [wr_ne (by omega)]
      unfold conC
      rw [show (24 * i + w) / 24 = i by omega, show (24 * i + w) % 24 = w by omega, if_pos ⟨rfl, by omega⟩, l2 2 _ (by decide), wr_ne (by omega)]) hv
    refine ⟨c3.trans c4.symm, simC (n := n) (act := act) c1 hF c2 (fun i x h => ?_)⟩
    rw [(keep_v hn0 hv).1 i x (by omega), wr_ne (by omega), conC_o (by omega), l2 i x (by omega)]
    exact wr_ne (by omega)
theorem op_digest {M R : Nat → Nat → Int32} {N : Nat → Int64} {n act nf : Nat} {kd p1 p2 ns sb ag : Nat → Nat} (hW : SimW M R n act) (hF : SimF M N R nf kd p1 p2 ns sb ag) : digF M (digW M n act 127 * 31 + (nI nf).toInt64) nf = digR R n act nf := by
  have e1 : digA M (127 * 31 + (nI n).toInt64) n = digAR R (3937 + (nI n).toInt64) n := by
    unfold digA digAR
    rw [show (127 * 31 : Int64) = 3937 from by decide]
    refine fo_cong (fun w hw d => ?_)
    rw [hW.2.2.2.1 w hw]
    exact fo_cong (fun i hi d => by rw [hW.2.2.2.2.1 i hi w hw])
  unfold digW digR
  rw [e1]
  unfold digF digFR
  refine fo_cong (fun f hf d => ?_)
  obtain ⟨-, -, -, hX, hR, hl⟩ := hF
  rw [(hX.2 f hf).1.2.1, (hR.2 f hf).1.2.1, (hl f hf).1, (hl f hf).2.1]


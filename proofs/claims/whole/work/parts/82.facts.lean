/-! What the law starts from. -/
abbrev AOI : Cond := .arrayOver (.array .int)
theorem str_ref {own tx : String} {k : Nat} {A : Array Value} {s : State} (w : (Cond.stringRef own k tx).before A s = true) : ∃ a, vk_R own k tx a s := by
  cases hc : s.vm.findClass own with
  | none => simp [Cond.before, Cond.holds, Cond.value, hc] at w
  | some cc =>
    obtain ⟨k1, cf, i, a, hk, hcf, hp, -, hr, -⟩ := Cond.stringRef_spec hc w
    exact ⟨a, vk_R.of w (by simp [Term.eval, hc, hk, hr])⟩
theorem arr_of {A : Array Value} {s : State} {ty : FieldType} (h : (Cond.arrayClass ty).before A s = true) : ∃ cA, ArrOfT s cA ty ∧ s.vm.findClass ("[" ++ ty.toString) = some cA := by
  obtain ⟨cA, kA, comp, h1, h2, h3⟩ := Cond.arrayClass_spec h
  exact ⟨cA, fun n z => ⟨fun k h => (by cases h), kA, h2, comp, h3⟩, h1⟩
theorem arr_over {A : Array Value} {s : State} {ty : FieldType} (h : (Cond.arrayOver (.array ty)).before A s = true) : ∃ cA, ArrOfT s cA (.array ty) ∧ s.vm.findClass ("[" ++ (FieldType.array ty).toString) = some cA := by
  simp only [Cond.before, Cond.holds, Cond.value, beq_iff_eq] at h
  cases hc : s.vm.findClass (FieldType.array ty).toString with
  | none => simp [hc] at h
  | some comp =>
    simp only [hc, Option.bind_some, Option.bind_eq_some_iff, Option.map_eq_some_iff] at h
    obtain ⟨cA, -, kA, hk, hb⟩ := h
    cases hkind : kA.kind with
    | array component t =>
      rw [hkind] at hb
      simp at hb
      exact ⟨cA, fun n z => ⟨fun k h => (by cases h), kA, hk, component, by rw [hkind, hb.1]⟩, hb.2⟩
    | _ => rw [hkind] at hb; simp at hb
section LawF
variable {p : Program} {s : State} {m : MethodId} {meth : Method} {c : Code} {b L : Nat} {xs : Nat → Int32}
set_option maxHeartbeats 4000000 in
set_option maxRecDepth 100000 in
theorem law_K (C0 : lw_At p s m meth c b L xs) : ∃ (D : va_G) (cs : Nat → ClassId), xK D cs s := by
  obtain ⟨hx, hb, hr, hml, hown, hts, hX, hbl, hlocks, hgv⟩ := C0
  obtain ⟨c0, i0, h0⟩ := u_known (C := RX0) (T := TX0) (N := 8) (n := 8) hts lw_inX0 (hts (Cond.instantiable RX0 8) (List.mem_of_getElem? (i := 91) (by decide +kernel)))
  obtain ⟨c1, i1, h1⟩ := u_known (C := RX1) (T := TX1) (N := 4) (n := 4) hts lw_inX1 (hts (Cond.instantiable RX1 4) (List.mem_of_getElem? (i := 148) (by decide +kernel)))
  obtain ⟨c2, i2, h2⟩ := u_known (C := RX2) (T := TX2) (N := 3) (n := 3) hts lw_inX2 (hts (Cond.instantiable RX2 3) (List.mem_of_getElem? (i := 131) (by decide +kernel)))
  obtain ⟨c3, i3, h3⟩ := u_known (C := RX3) (T := TX3) (N := 4) (n := 4) hts lw_inX3 (hts (Cond.instantiable RX3 4) (List.mem_of_getElem? (i := 61) (by decide +kernel)))
  obtain ⟨c4, i4, h4⟩ := u_known (C := RX4) (T := TX4) (N := 4) (n := 4) hts lw_inX4 (hts (Cond.instantiable RX4 4) (List.mem_of_getElem? (i := 53) (by decide +kernel)))
  obtain ⟨c5, i5, h5⟩ := u_known (C := RX5) (T := TX5) (N := 15) (n := 15) hts lw_inX5 (hts (Cond.instantiable RX5 15) (List.mem_of_getElem? (i := 713) (by decide +kernel)))
  obtain ⟨a0, g0, f0⟩ := arr_of (hts (Cond.arrayClass .int) (List.mem_of_getElem? (i := 89) (by decide +kernel)))
  obtain ⟨a1, g1, f1⟩ := arr_of (hts (Cond.arrayClass .long) (List.mem_of_getElem? (i := 129) (by decide +kernel)))
  obtain ⟨a2, g2, f2⟩ := arr_over (hts (Cond.arrayOver (.array .int)) (List.mem_of_getElem? (i := 67) (by decide +kernel)))
  obtain ⟨a3, g3, f3⟩ := arr_of (hts (Cond.arrayClass .boolean) (List.mem_of_getElem? (i := 764) (by decide +kernel)))
  obtain ⟨a4, g4, f4⟩ := arr_of (hts (Cond.arrayClass .double) (List.mem_of_getElem? (i := 973) (by decide +kernel)))
  refine ⟨(fun k => match k with | 0 => c0 | 1 => c1 | 2 => c2 | 3 => c3 | 4 => c4 | _ => c5, fun k => match k with | 0 => i0 | 1 => i1 | 2 => i2 | 3 => i3 | 4 => i4 | _ => i5), fun k => match k with | 0 => a0 | 1 => a1 | 2 => a2 | 3 => a3 | _ => a4, ⟨fun k q hq => ?_, fun k q hq => ?_⟩, ?_⟩
  · match k, hq with
    | 0, hq => cases hq; exact h0
    | 1, hq => cases hq; exact h1
    | 2, hq => cases hq; exact h2
    | 3, hq => cases hq; exact h3
    | 4, hq => cases hq; exact h4
    | 5, hq => cases hq; exact h5
    | k + 6, hq => cases hq
  · match k, hq with
    | 0, hq => cases hq; exact ⟨g0, f0⟩
    | 1, hq => cases hq; exact ⟨g1, f1⟩
    | 2, hq => cases hq; exact ⟨g2, f2⟩
    | 3, hq => cases hq; exact ⟨g3, f3⟩
    | 4, hq => cases hq; exact ⟨g4, f4⟩
    | k + 5, hq => cases hq
  · exact ⟨va_Nw.of rfl (hts (.methodLinkNest RX0 52 yX4_mixed RX4) (List.mem_of_getElem? (i := 286) (by decide +kernel))), va_Nw.of rfl (hts (.methodLinkNest RX1 47 yX4_contains RX4) (List.mem_of_getElem? (i := 207) (by decide +kernel))), va_Nw.of rfl (hts (.methodLinkNest RX1 51 yX4_single RX4) (List.mem_of_getElem? (i := 210) (by decide +kernel))), va_Nw.of rfl (hts (.methodLinkNest RX2 70 yX4_contains RX4) (List.mem_of_getElem? (i := 625) (by decide +kernel))), va_Nw.of rfl (hts (.methodLinkNest RX2 78 yX4_single RX4) (List.mem_of_getElem? (i := 631) (by decide +kernel))), va_Nw.of rfl (hts (.methodLinkNest RX3 45 yX4_single RX4) (List.mem_of_getElem? (i := 620) (by decide +kernel))), va_Nw.of rfl (hts (.methodLinkNest RX3 27 yX4_contains RX4) (List.mem_of_getElem? (i := 248) (by decide +kernel))), va_Nw.of rfl (hts (.methodLinkNest RX3 48 yX4_renumbered RX4) (List.mem_of_getElem? (i := 260) (by decide +kernel))), va_Nw.of rfl (hts (.methodLinkNest RX3 51 yX4_rankIn RX4) (List.mem_of_getElem? (i := 268) (by decide +kernel))), va_Nw.of rfl (hts (.methodLinkNest RX3 69 yX4_mixed RX4) (List.mem_of_getElem? (i := 278) (by decide +kernel)))⟩
set_option maxHeartbeats 4000000 in
set_option maxRecDepth 100000 in
theorem law_T (C0 : lw_At p s m meth c b L xs) : ∃ sa : Nat → Nat, xT sa s := by
  obtain ⟨hx, hb, hr, hml, hown, hts, hX, hbl, hlocks, hgv⟩ := C0
  obtain ⟨s51, h51⟩ := str_ref (hts (Cond.stringRef RX4 51 "there are 24 worlds") (List.mem_of_getElem? (i := 377) (by decide +kernel)))
  obtain ⟨s87, h87⟩ := str_ref (hts (Cond.stringRef RX4 87 "the set contains something that is no world") (List.mem_of_getElem? (i := 439) (by decide +kernel)))
  obtain ⟨s115, h115⟩ := str_ref (hts (Cond.stringRef RX4 115 "the atom is not 0 to 5") (List.mem_of_getElem? (i := 514) (by decide +kernel)))
  obtain ⟨s138, h138⟩ := str_ref (hts (Cond.stringRef RX4 138 "the nesting would be greater than 2") (List.mem_of_getElem? (i := 581) (by decide +kernel)))
  obtain ⟨s173, h173⟩ := str_ref (hts (Cond.stringRef RX4 173 "there would be more than 24 worlds") (List.mem_of_getElem? (i := 706) (by decide +kernel)))
  obtain ⟨s190, h190⟩ := str_ref (hts (Cond.stringRef RX4 190 "the atoms are not 0 to 63") (List.mem_of_getElem? (i := 341) (by decide +kernel)))
  obtain ⟨s192, h192⟩ := str_ref (hts (Cond.stringRef RX4 192 "the agent is not 0 to 3") (List.mem_of_getElem? (i := 427) (by decide +kernel)))
  obtain ⟨s194, h194⟩ := str_ref (hts (Cond.stringRef RX4 194 "the group is not 1 to 15") (List.mem_of_getElem? (i := 572) (by decide +kernel)))
  obtain ⟨s196, h196⟩ := str_ref (hts (Cond.stringRef RX4 196 "there is no such world") (List.mem_of_getElem? (i := 409) (by decide +kernel)))
  obtain ⟨s198, h198⟩ := str_ref (hts (Cond.stringRef RX4 198 "there are no worlds") (List.mem_of_getElem? (i := 462) (by decide +kernel)))
  obtain ⟨s200, h200⟩ := str_ref (hts (Cond.stringRef RX4 200 "the formula is false at the actual world") (List.mem_of_getElem? (i := 687) (by decide +kernel)))
  obtain ⟨s202, h202⟩ := str_ref (hts (Cond.stringRef RX4 202 "there is no such formula") (List.mem_of_getElem? (i := 546) (by decide +kernel)))
  obtain ⟨s204, h204⟩ := str_ref (hts (Cond.stringRef RX4 204 "there are 40 formulas") (List.mem_of_getElem? (i := 519) (by decide +kernel)))
  exact ⟨fun k => if k = 51 then s51 else if k = 87 then s87 else if k = 115 then s115 else if k = 138 then s138 else if k = 173 then s173 else if k = 190 then s190 else if k = 192 then s192 else if k = 194 then s194 else if k = 196 then s196 else if k = 198 then s198 else if k = 200 then s200 else if k = 202 then s202 else if k = 204 then s204 else 0, va_Nw.of rfl (hts (Cond.castable "java/lang/IllegalStateException" "java/lang/IllegalStateException") (List.mem_of_getElem? (i := 370) (by decide +kernel))), va_Nw.of rfl (hts (Cond.castable "java/lang/IllegalArgumentException" "java/lang/IllegalArgumentException") (List.mem_of_getElem? (i := 302) (by decide +kernel))), va_Nw.of rfl (hts (Cond.castable "java/lang/IndexOutOfBoundsException" "java/lang/IndexOutOfBoundsException") (List.mem_of_getElem? (i := 402) (by decide +kernel))), h51, h87, h115, h138, h173, h190, h192, h194, h196, h198, h200, h202, h204, va_Nw.of rfl (hts (Cond.declares (Bundle.initS "java/lang/RuntimeException")) (List.mem_of_getElem? (i := 304) (by decide +kernel))), va_Nw.of rfl (hts (Cond.declares (Bundle.initS "java/lang/Exception")) (List.mem_of_getElem? (i := 306) (by decide +kernel))), va_Nw.of rfl (hts (Cond.declares (Bundle.initS Bundle.tN)) (List.mem_of_getElem? (i := 308) (by decide +kernel)))⟩
set_option maxHeartbeats 4000000 in
set_option maxRecDepth 100000 in
theorem law_Z (C0 : lw_At p s m meth c b L xs) : xNc s ∧ ZT (fun q : Nat => s.heap.size ≤ q) s s.heap ∧ va_Nw AOI s := by
  obtain ⟨hx, hb, hr, hml, hown, hts, hX, hbl, hlocks, hgv⟩ := C0
  have hs := flat_of_before _ hgv
  have ho := (hts (Cond.arrayOver (.array .int)) (List.mem_of_getElem? (i := 67) (by decide +kernel)))
  exact ⟨⟨va_Nc.of (hs (Cond.not (.castable "java/lang/IllegalStateException" "java/lang/IllegalArgumentException")) (by decide +kernel)), va_Nc.of (hs (Cond.not (.castable "java/lang/IllegalStateException" "java/lang/IndexOutOfBoundsException")) (by decide +kernel)), va_Nc.of (hs (Cond.not (.castable "java/lang/IllegalArgumentException" "java/lang/IndexOutOfBoundsException")) (by decide +kernel)), va_Nc.of (hs (Cond.not (.castable "java/lang/IndexOutOfBoundsException" "java/lang/IllegalArgumentException")) (by decide +kernel))⟩, ⟨vx_Zqof (hts (Cond.laysStatic Bundle.tN "UNASSIGNED_STACK" Bundle.steD) (List.mem_of_getElem? (i := 327) (by decide +kernel))) (hts (Cond.initialized Bundle.tN) (List.mem_of_getElem? (i := 43) (by decide +kernel))) (hs (Cond.isRef (.static Bundle.tN "UNASSIGNED_STACK" Bundle.steD)) (by decide +kernel)) (fun a h => Nat.not_le.mpr h), vx_Zqof (hts (Cond.laysStatic Bundle.tN "SUPPRESSED_SENTINEL" Bundle.listD) (List.mem_of_getElem? (i := 329) (by decide +kernel))) (hts (Cond.initialized Bundle.tN) (List.mem_of_getElem? (i := 43) (by decide +kernel))) (hs (Cond.isRef (.static Bundle.tN "SUPPRESSED_SENTINEL" Bundle.listD)) (by decide +kernel)) (fun a h => Nat.not_le.mpr h)⟩, by first | exact ho | simpa [va_Nw, Cond.before, Cond.holds, Cond.value] using ho⟩
end LawF

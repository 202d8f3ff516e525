/-! AT THE START: what the tables and the Statement say of it -/
set_option maxHeartbeats 1000000 in
set_option maxRecDepth 20000 in
theorem kStart {s : State} {b : Nat} (hts : ∀ w ∈ lw_tbl, w.before #[Value.ref b] s = true) (hgv : (Jvm.Cond.and given_1 narrow_1).before #[Value.ref b] s = true) : ∃ (D : va_G) (cA cB : ClassId) (ad : Nat → Nat), ad 999 = b ∧ va_K D vwCl (zT cA cB) s ∧ zX ad (fun q => s.heap.size ≤ q) s s.heap ∧ kAO s := by
  have hb : ∀ w ∈ zBig, w.before #[Value.ref b] s = true := fun w hw => hts w (List.mem_filter.mp hw).1
  have hs := flat_of_before _ hgv
  have hA : ∀ a : Nat, a < s.heap.size → ¬ (fun q : Nat => s.heap.size ≤ q) a := fun a h => Nat.not_le.mpr h
  obtain ⟨c0, i0, n0⟩ := u_known (ws := zBig) (C := RX0) (T := TX0) (N := 10) (n := 10) hb bX0 (hts (.instantiable RX0 10) (List.mem_append_right _ (List.mem_of_getElem? (i := 109) (by decide +kernel))))
  obtain ⟨c1, i1, n1⟩ := u_known (ws := zBig) (C := RX1) (T := TX1) (N := 6) (n := 6) hb bX1 (hts (.instantiable RX1 6) (List.mem_append_right _ (List.mem_of_getElem? (i := 22) (by decide +kernel))))
  obtain ⟨c2, i2, n2⟩ := u_known (ws := zBig) (C := RX2) (T := TX2) (N := 12) (n := 12) hb bX2 (hts (.instantiable RX2 12) (List.mem_append_right _ (List.mem_of_getElem? (i := 48) (by decide +kernel))))
  obtain ⟨c3, i3, n3⟩ := u_known (ws := zBig) (C := RX3) (T := TX3) (N := 11) (n := 11) hb bX3 (hts (.instantiable RX3 11) (List.mem_append_right _ (List.mem_of_getElem? (i := 14) (by decide +kernel))))
  obtain ⟨c4, i4, n4⟩ := u_known (ws := zBig) (C := RX4) (T := TX4) (N := 18) (n := 18) hb bX4 (hts (.instantiable RX4 18) (List.mem_append_right _ (List.mem_of_getElem? (i := 580) (by decide +kernel))))
  obtain ⟨dC, dI, hKc⟩ : ∃ (dC : Nat → ClassId) (dI : Nat → Nat → Nat), ∀ (k : Nat) (q : vw_C), vwCl[k]? = some q → u_Kn s q.1 q.2.1 q.2.2 (dC k) (dI k) := by
    refine ⟨fun k => if k = 0 then c0 else if k = 1 then c1 else if k = 2 then c2 else if k = 3 then c3 else c4, fun k => if k = 0 then i0 else if k = 1 then i1 else if k = 2 then i2 else if k = 3 then i3 else i4, ?_⟩
    intro k q hq
    match k, hq with
    | 0, hq => cases hq; exact n0
    | 1, hq => cases hq; exact n1
    | 2, hq => cases hq; exact n2
    | 3, hq => cases hq; exact n3
    | 4, hq => cases hq; exact n4
    | k + 5, hq => simp [vwCl] at hq
  have hov : (Cond.arrayOver (.array .int)).before #[Value.ref b] s = true := hts _ (List.mem_append_right _ (List.mem_of_getElem? (i := 115) (by decide +kernel)))
  obtain ⟨cA, kA, pA, a1, a2, a3⟩ := Cond.arrayClass_spec (hts (.arrayClass .int) (List.mem_append_right _ (List.mem_of_getElem? (i := 46) (by decide +kernel))))
  obtain ⟨pB, cB, kB, b0, b1, b2, b3⟩ := Jvm.Cond.arrayOver_specA hov
  obtain ⟨adK, adV, g1, g2⟩ := vk_Sof (N := 1) (tm := fun _ => .string "LockedInByNext$Reader" 59) (len := [6]) (byt := [[112, 113, 115, 116, 98, 104]]) (args := #[Value.ref b]) (s := s) (A := fun q => s.heap.size ≤ q)
    (fun i hi => by obtain rfl : i = 0 := by omega
                    decide)
    (fun i hi => hs _ (by decide +kernel)) (fun i hi => hs _ (by decide +kernel)) (fun i hi => hs _ (by decide +kernel))
    (fun i hi => by obtain rfl : i = 0 := by omega
                    exact hs _ (by decide +kernel))
    (fun i hi j hj => by
      obtain rfl : i = 0 := by omega
      have hj : j < 6 := hj
      rcases (by omega : j = 0 ∨ j = 1 ∨ j = 2 ∨ j = 3 ∨ j = 4 ∨ j = 5) with rfl | rfl | rfl | rfl | rfl | rfl <;> exact hs _ (by decide +kernel))
    (fun i j hi hj hne => absurd (by omega : i = j) hne) hA
  obtain ⟨v, v1, v2⟩ := Cond.isRef_spec (hs (.isRef (.static "jdk/internal/util/Preconditions" "SIOOBE_FORMATTER" "Ljava/util/function/BiFunction;")) (by decide +kernel))
  have hz := va_Zof (A := fun q => s.heap.size ≤ q) (hts (.laysStatic "jdk/internal/util/Preconditions" "SIOOBE_FORMATTER" "Ljava/util/function/BiFunction;") (List.mem_append_right _ (List.mem_of_getElem? (i := 248) (by decide +kernel)))) (hts (.initialized "jdk/internal/util/Preconditions") (List.mem_append_right _ (List.mem_of_getElem? (i := 10) (by decide +kernel)))) v1 hA
  have hv : ∃ x : Nat, v = .null ∨ v = .ref x := by
    cases v with
    | null => exact ⟨0, Or.inl rfl⟩
    | ref x => exact ⟨x, Or.inr rfl⟩
    | _ => cases v2
  obtain ⟨x, hv⟩ := hv
  refine ⟨(dC, dI), cA, cB, fun k => if k = 999 then b else if k = 1000 then adK 0 else if k = 1001 then adV 0 else x, rfl, ⟨hKc, fun k q hq => ?_⟩, ⟨fun w hw => ?_, ⟨fun i hi => ?_, fun i j hi hj _ => by omega⟩, ?_, ?_, ?_⟩, kAO_mv (Vm.Alike.refl s.vm) hov⟩
  · match k, hq with
    | 0, hq => cases hq; exact ⟨fun n z => ⟨fun q hq => (by cases hq), kA, a2, pA, a3⟩, a1⟩
    | 1, hq => cases hq; exact ⟨fun n z => ⟨fun q hq => (by cases hq), kB, b1, pB, b2⟩, b3⟩
    | k + 2, hq => simp at hq
  · have h9 := hts w (List.mem_append_right _ (List.mem_filter.mp hw).1)
    obtain ⟨p1, p2, p3, p4, p5, p6, rfl⟩ := zNests_is hw
    exact va_Nw.of rfl h9
  · obtain rfl : i = 0 := by omega
    exact g1.1 0 hi
  · exact vk_R.of (hts _ (List.mem_append_right _ (List.mem_of_getElem? (i := 222) (by decide +kernel)))) (g2 0 (by omega))
  · exact va_Zof (hts _ (List.mem_append_right _ (List.mem_of_getElem? (i := 232) (by decide +kernel)))) (hts (.initialized "java/lang/String") (List.mem_append_right _ (List.mem_of_getElem? (i := 8) (by decide +kernel)))) (va_eqi (hs _ (by decide +kernel))) hA
  · rcases hv with rfl | rfl
    · exact ⟨.null, Or.inl rfl, hz⟩
    · exact ⟨.ref 1002, Or.inr rfl, hz⟩

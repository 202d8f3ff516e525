/-! BOTH SIDES: one call after the other -/
def zBoth (YX YM : zM) (dx dm : Nat) (As : List Value) (t : zMod) (u : zCls) : Prop := Mi YX dx (.ref 11 :: As) (hA t u) (fun r h1 => ∃ u' : zCls, h1 = hA t u' ∧ Mi YM dm (.ref 0 :: As) (hA t u') (fun r' h2 => r' = r ∧ ∃ t' : zMod, h2 = hA t' u' ∧ zINV t' u'))
theorem zre {f g : Nat → Nat} (h : f = g) (c : Nat) : va_up f c (f c + 1) = va_up g c (g c + 1) := by rw [h]
theorem zsp4 (x : Int32) {a n : Nat} (hn : n < 2 ^ 31) (ha : a ≤ n) : x < nI a ∨ (nI a ≤ x ∧ nI n < x) ∨ ∃ j : Nat, a ≤ j ∧ j ≤ n ∧ x = nI j := by
  by_cases h : x < nI a
  · exact Or.inl h
  · have h1 : ¬ x < 0 := fun z => h (by
      rw [Int32.lt_iff_toInt_lt] at z ⊢
      rw [nI_toInt (by omega)]
      have e0 : (0 : Int32).toInt = 0 := by decide
      omega)
    obtain ⟨j, hj, rfl⟩ := nI_of h1
    have h2 : a ≤ j := Nat.not_lt.mp fun z => h (nI_lt z (by omega))
    by_cases h3 : j ≤ n
    · exact Or.inr (Or.inr ⟨j, h2, h3, rfl⟩)
    · exact Or.inr (Or.inl ⟨nI_le h2 hj, nI_lt (by omega) hj⟩)
theorem zsw (x : Int32) (n : Nat) (hn : n < 2 ^ 31) : (x.toInt < 0 ∨ (n : Int) < x.toInt) ∨ ∃ k : Nat, k ≤ n ∧ x = nI k := by
  by_cases h : x.toInt < 0
  · exact Or.inl (Or.inl h)
  · have h1 : ¬ x < 0 := fun z => h (by
      rw [Int32.lt_iff_toInt_lt] at z
      have e0 : (0 : Int32).toInt = 0 := by decide
      omega)
    obtain ⟨j, hj, rfl⟩ := nI_of h1
    by_cases h3 : j ≤ n
    · exact Or.inr ⟨j, h3, rfl⟩
    · exact Or.inl (Or.inr (by rw [nI_toInt hj]; omega))
theorem tUp_eq {T X : zTown} {p : Nat} (he : tEq T X) (hp : p < tg_people T) : tUp T p = tUp X p := by
  obtain ⟨f1, f2, -⟩ := he.2.2.2.2.2.1 p hp
  unfold tUp
  rw [f1, f2]
theorem tNd_eq {T X : zTown} {p : Nat} (he : tEq T X) (hp : p < tg_people T) : tNd T p = tNd X p := by
  obtain ⟨f1, f2, f3, -⟩ := he.2.2.2.2.2.1 p hp
  unfold tNd
  rw [f1, f3]
set_option maxHeartbeats 1000000 in
set_option maxRecDepth 100000 in
theorem b_letter {t : zMod} {u : zCls} (h : zINV t u) (c : Int32) : zBoth mX3_letter mX4_letter 2 4 [.int c] t u := by
  have hm := h.mOk
  obtain ⟨i1, i2, i3, i4, i5, i6, i7, i8⟩ := id h
  obtain ⟨a1, a2, a3, a4, a5, a6⟩ := id i1
  obtain ⟨b1, b2, b3, b4, b5, b6, b7⟩ := id a6
  obtain ⟨n1, n2, n3, n4⟩ := id i2
  have hc := i1.cT
  have ho := i1.ok
  have hk9 : tg_keys (cg_now u) ≤ 10 := by rw [← b2]; exact a3
  rcases zsp3 c (n := 255) (by decide) with hc9 | ⟨h0, hc9⟩ | ⟨j, hj, rfl⟩
  · skip
    exact Mi.mono (s3_letter_b hc9) (fun r h1 hq => ⟨_, hq.2, Mi.mono (s4_letter_b hc9) (fun r2 h2 hp => ⟨hp.1.trans hq.1.symm, _, hp.2, i1, i2, i3, i4, i5, i6, zre i7 4, i8⟩)⟩)
  · skip
    exact Mi.mono (s3_letter_r h0 hc9) (fun r h1 hq => ⟨_, hq.2, Mi.mono (s4_letter_r h0 hc9) (fun r2 h2 hp => ⟨hp.1.trans hq.1.symm, _, hp.2, i1, i2, i3, i4, i5, i6, zre i7 6, i8⟩)⟩)
  · obtain ⟨e1, e2, e3, e4⟩ := id i5
    by_cases hf : mg_ta t = 80
    · skip
      exact Mi.mono (s3_letter_f hj (by rw [← e1]; exact hf)) (fun r h1 hq => ⟨_, hq.2, Mi.mono (s4_letter_f hj hf) (fun r2 h2 hp => ⟨hp.1.trans hq.1.symm, _, hp.2, i1, i2, i3, i4, i5, i6, zre i7 6, i8⟩)⟩)
    · skip
      exact Mi.mono (s3_letter_k hj (by rw [← e1]; omega)) (fun r h1 hq => ⟨_, hq.2, Mi.mono (s4_letter_k hj (by omega)) (fun r2 h2 hp => ⟨hp.1.trans (Eq.trans (congrArg nI (congrArg (· + 1) e1)) hq.1.symm), _, hp.2, i1, i2, i3, i4, ⟨congrArg (· + 1) e1, by show mg_ta t + 1 ≤ 80; omega, by show va_up (mg_tp t) (mg_ta t) j = va_up (cg_let u) (cg_lc u) j; rw [e1, e3], fun i => by show va_up (mg_tp t) (mg_ta t) j i ≤ 255; unfold va_up; split; exact hj; exact e4 i⟩, i6, i7, i8⟩)⟩)
set_option maxHeartbeats 1000000 in
set_option maxRecDepth 100000 in
theorem b_row {t : zMod} {u : zCls} (h : zINV t u) (c : Int32) : zBoth mX3_row mX4_row 2 4 [.int c] t u := by
  have hm := h.mOk
  obtain ⟨i1, i2, i3, i4, i5, i6, i7, i8⟩ := id h
  obtain ⟨a1, a2, a3, a4, a5, a6⟩ := id i1
  obtain ⟨b1, b2, b3, b4, b5, b6, b7⟩ := id a6
  obtain ⟨n1, n2, n3, n4⟩ := id i2
  have hc := i1.cT
  have ho := i1.ok
  have hk9 : tg_keys (cg_now u) ≤ 10 := by rw [← b2]; exact a3
  rcases zsp3 c (n := 999) (by decide) with hc9 | ⟨h0, hc9⟩ | ⟨j, hj, rfl⟩
  · skip
    exact Mi.mono (s3_row_b hc9) (fun r h1 hq => ⟨_, hq.2, Mi.mono (s4_row_b hc9) (fun r2 h2 hp => ⟨hp.1.trans hq.1.symm, _, hp.2, i1, i2, i3, i4, i5, i6, zre i7 4, i8⟩)⟩)
  · skip
    exact Mi.mono (s3_row_r h0 hc9) (fun r h1 hq => ⟨_, hq.2, Mi.mono (s4_row_r h0 hc9) (fun r2 h2 hp => ⟨hp.1.trans hq.1.symm, _, hp.2, i1, i2, i3, i4, i5, i6, zre i7 6, i8⟩)⟩)
  · obtain ⟨e1, e2, e3, e4⟩ := id i6
    by_cases hf : mg_rc t = 7
    · skip
      exact Mi.mono (s3_row_f hj (by rw [← e1]; exact hf)) (fun r h1 hq => ⟨_, hq.2, Mi.mono (s4_row_f hj hf) (fun r2 h2 hp => ⟨hp.1.trans hq.1.symm, _, hp.2, i1, i2, i3, i4, i5, i6, zre i7 6, i8⟩)⟩)
    · skip
      exact Mi.mono (s3_row_k hj (by rw [← e1]; omega)) (fun r h1 hq => ⟨_, hq.2, Mi.mono (s4_row_k hj (by omega)) (fun r2 h2 hp => ⟨hp.1.trans (Eq.trans (congrArg nI (congrArg (· + 1) e1)) hq.1.symm), _, hp.2, i1, i2, i3, i4, i5, ⟨congrArg (· + 1) e1, by show mg_rc t + 1 ≤ 7; omega, by show va_up (mg_rw t) (mg_rc t) j = va_up (cg_se u) (cg_sc u) j; rw [e1, e3], fun i => by show va_up (mg_rw t) (mg_rc t) j i ≤ 1000; unfold va_up; split; omega; exact e4 i⟩, i7, i8⟩)⟩)
set_option maxHeartbeats 1000000 in
set_option maxRecDepth 100000 in
theorem b_town {t : zMod} {u : zCls} (h : zINV t u)  : zBoth mX3_town mX4_town 11 10 [] t u := by
  have hm := h.mOk
  obtain ⟨i1, i2, i3, i4, i5, i6, i7, i8⟩ := id h
  obtain ⟨a1, a2, a3, a4, a5, a6⟩ := id i1
  obtain ⟨b1, b2, b3, b4, b5, b6, b7⟩ := id a6
  obtain ⟨n1, n2, n3, n4⟩ := id i2
  have hc := i1.cT
  have ho := i1.ok
  have hk9 : tg_keys (cg_now u) ≤ 10 := by rw [← b2]; exact a3
  obtain ⟨e1, e2, e3, e4⟩ := i5
  have hX : zTo (mg_s t) (zbec (cg_now u) (cg_dra u)) := i1.eq (zbec_eq ho.1 hk9)
  have hw9 : mg_s t 2 < 128 := Nat.lt_of_lt_of_le a4.2.2.2.1 (Nat.pow_le_pow_right (by omega) a2 : 2 ^ mg_s t 0 ≤ 2 ^ 7)
  have hrel := zRead_rel (f := mg_tp t) (n := mg_ta t) (D := mg_rd t) hX i3 e2
  have hTR : tRead (mg_tp t) (mg_ta t) (zbec (cg_now u) (cg_dra u)) = tRead (cg_let u) (cg_lc u) (zbec (cg_now u) (cg_dra u)) := by rw [e1, e3]
  rw [hTR] at hrel
  obtain ⟨g1, g2⟩ := hrel
  refine Mi.mono (s3_town hc (by rw [← e1]; exact e2) (by rw [← e3]; exact e4)) (fun r h1 hq => ?_)
  obtain ⟨A', F', N', C', D', q1, q2⟩ := hq
  rcases q2 with ⟨q2, q3⟩ | ⟨q2, q3, q4⟩
  · refine ⟨_, q3, Mi.mono (s4_town e2 e4 ⟨a1, a2, a3, hw9⟩ i3) (fun r2 h2 hp => ?_)⟩
    obtain ⟨L2, A2, D2, p1, p2, p3⟩ := hp
    refine ⟨p2.trans (g1.trans q1.symm), _, p3, ?_, i2, p1, i4, ⟨rfl, Nat.zero_le _, e3, e4⟩, i6, i7, i8⟩
    rcases g2 with ⟨k1, k2⟩ | ⟨k1, k2⟩
    · show zTo (sRead (mg_tp t) (mg_ta t) (mg_s t) (mg_rd t)).2 (cg_now u)
      rw [k2]; exact i1
    · exact absurd k1 (Int32.not_le.mpr q2)
  · refine ⟨_, q4, Mi.mono (s4_town e2 e4 ⟨a1, a2, a3, hw9⟩ i3) (fun r2 h2 hp => ?_)⟩
    obtain ⟨L2, A2, D2, p1, p2, p3⟩ := hp
    refine ⟨p2.trans (g1.trans q1.symm), _, p3, ?_, i2, p1, i4, ⟨rfl, Nat.zero_le _, e3, e4⟩, i6, i7, i8⟩
    rcases g2 with ⟨k1, k2⟩ | ⟨k1, k2⟩
    · exact absurd q2 (Int32.not_le.mpr k1)
    · exact k2.eq (zbec_eq q3.1.1 q3.2.1)
set_option maxHeartbeats 1000000 in
set_option maxRecDepth 100000 in
theorem b_person {t : zMod} {u : zCls} (h : zINV t u) (v : Int32) (x : Int32) : zBoth mX3_person mX4_person 2 4 [.int v, .int x] t u := by
  have hm := h.mOk
  obtain ⟨i1, i2, i3, i4, i5, i6, i7, i8⟩ := id h
  obtain ⟨a1, a2, a3, a4, a5, a6⟩ := id i1
  obtain ⟨b1, b2, b3, b4, b5, b6, b7⟩ := id a6
  obtain ⟨n1, n2, n3, n4⟩ := id i2
  have hc := i1.cT
  have ho := i1.ok
  have hk9 : tg_keys (cg_now u) ≤ 10 := by rw [← b2]; exact a3
  rcases zsp v (n := mg_s t 0) (by omega) with hv | ⟨j, hv, rfl⟩
  · skip
    exact Mi.mono (s3_person_n (by rw [← b1]; exact hv)) (fun r h1 hq => ⟨_, hq.2, Mi.mono (s4_person_n hm hv) (fun r2 h2 hp => ⟨hp.1.trans hq.1.symm, _, hp.2, i1, i2, i3, i4, i5, i6, zre i7 1, i8⟩)⟩)
  · have hv3 : j < tg_people (cg_now u) := by rw [← b1]; exact hv
    obtain ⟨f1, f2, f3, f4, f5⟩ := b6 j hv
    rcases zsw x 7 (by decide) with hx | ⟨k, hk, rfl⟩
    · skip
      exact Mi.mono (s3_person_o ho hv3 hx) (fun r h1 hq => ⟨_, hq.2, Mi.mono (s4_person_o hm hv hx) (fun r2 h2 hp => ⟨hp.1.trans hq.1.symm, _, hp.2, i1, i2, i3, i4, i5, i6, zre i7 2, i8⟩)⟩)
    · rcases (by omega : k = 0 ∨ k = 1 ∨ k = 2 ∨ k = 3 ∨ k = 4 ∨ k = 5 ∨ k = 6 ∨ k = 7) with rfl | rfl | rfl | rfl | rfl | rfl | rfl | rfl
      · skip
        exact Mi.mono (s3_person_0 ho hv3) (fun r h1 hq => ⟨_, hq.2, Mi.mono (s4_person_0 hm hv) (fun r2 h2 hp => ⟨hp.1.trans (Eq.trans (congrArg nI f1) hq.1.symm), _, hp.2, h⟩)⟩)
      · skip
        exact Mi.mono (s3_person_1 ho hv3) (fun r h1 hq => ⟨_, hq.2, Mi.mono (s4_person_1 hm hv) (fun r2 h2 hp => ⟨hp.1.trans (Eq.trans (congrArg nI f2) hq.1.symm), _, hp.2, h⟩)⟩)
      · skip
        exact Mi.mono (s3_person_2 ho hv3) (fun r h1 hq => ⟨_, hq.2, Mi.mono (s4_person_2 hm hv) (fun r2 h2 hp => ⟨hp.1.trans (Eq.trans (congrArg nI f3) hq.1.symm), _, hp.2, h⟩)⟩)
      · skip
        exact Mi.mono (s3_person_3 ho hv3) (fun r h1 hq => ⟨_, hq.2, Mi.mono (s4_person_3 hm hv) (fun r2 h2 hp => ⟨hp.1.trans (Eq.trans (congrArg nI f4) hq.1.symm), _, hp.2, h⟩)⟩)
      · skip
        exact Mi.mono (s3_person_4 ho hv3) (fun r h1 hq => ⟨_, hq.2, Mi.mono (s4_person_4 hm hv) (fun r2 h2 hp => ⟨hp.1.trans (Eq.trans (congrArg nI f5) hq.1.symm), _, hp.2, h⟩)⟩)
      · skip
        exact Mi.mono (s3_person_5 ho hv3) (fun r h1 hq => ⟨_, hq.2, Mi.mono (s4_person_5 hm hv) (fun r2 h2 hp => ⟨hp.1.trans (Eq.trans (congrArg nI (tUp_eq a6 hv)) hq.1.symm), _, hp.2, h⟩)⟩)
      · skip
        exact Mi.mono (s3_person_6 ho hv3) (fun r h1 hq => ⟨_, hq.2, Mi.mono (s4_person_6 hm hv) (fun r2 h2 hp => ⟨hp.1.trans (Eq.trans (congrArg nI (tNd_eq a6 hv)) hq.1.symm), _, hp.2, h⟩)⟩)
      · skip
        exact Mi.mono (s3_person_7 ho hv3) (fun r h1 hq => ⟨_, hq.2, Mi.mono (s4_person_7 hm hv) (fun r2 h2 hp => ⟨hp.1.trans (Eq.trans (congrArg (fun z => nI (z / 2 ^ j &&& 1)) b3) hq.1.symm), _, hp.2, h⟩)⟩)
set_option maxHeartbeats 1000000 in
set_option maxRecDepth 100000 in
theorem b_key {t : zMod} {u : zCls} (h : zINV t u) (v : Int32) (x : Int32) : zBoth mX3_key mX4_key 2 4 [.int v, .int x] t u := by
  have hm := h.mOk
  obtain ⟨i1, i2, i3, i4, i5, i6, i7, i8⟩ := id h
  obtain ⟨a1, a2, a3, a4, a5, a6⟩ := id i1
  obtain ⟨b1, b2, b3, b4, b5, b6, b7⟩ := id a6
  obtain ⟨n1, n2, n3, n4⟩ := id i2
  have hc := i1.cT
  have ho := i1.ok
  have hk9 : tg_keys (cg_now u) ≤ 10 := by rw [← b2]; exact a3
  rcases zsp v (n := mg_s t 1) (by omega) with hv | ⟨j, hv, rfl⟩
  · skip
    exact Mi.mono (s3_key_n (by rw [← b2]; exact hv)) (fun r h1 hq => ⟨_, hq.2, Mi.mono (s4_key_n hm hv) (fun r2 h2 hp => ⟨hp.1.trans hq.1.symm, _, hp.2, i1, i2, i3, i4, i5, i6, zre i7 1, i8⟩)⟩)
  · have hv3 : j < tg_keys (cg_now u) := by rw [← b2]; exact hv
    obtain ⟨f1, f2⟩ := b7 j hv
    rcases zsp x (n := 2) (by decide) with hx | ⟨k, hk, rfl⟩
    · skip
      exact Mi.mono (s3_key_o ho hk9 hv3 hx) (fun r h1 hq => ⟨_, hq.2, Mi.mono (s4_key_o hm hv hx) (fun r2 h2 hp => ⟨hp.1.trans hq.1.symm, _, hp.2, i1, i2, i3, i4, i5, i6, zre i7 2, i8⟩)⟩)
    · rcases (by omega : k = 0 ∨ k = 1) with rfl | rfl
      · skip
        exact Mi.mono (s3_key_0 ho hk9 hv3) (fun r h1 hq => ⟨_, hq.2, Mi.mono (s4_key_k hm hv (x := 0) (by decide)) (fun r2 h2 hp => ⟨hp.1.trans (Eq.trans (congrArg nI f1) hq.1.symm), _, hp.2, h⟩)⟩)
      · skip
        exact Mi.mono (s3_key_1 ho hk9 hv3) (fun r h1 hq => ⟨_, hq.2, Mi.mono (s4_key_k hm hv (x := 1) (by decide)) (fun r2 h2 hp => ⟨hp.1.trans (Eq.trans (congrArg nI f2) hq.1.symm), _, hp.2, h⟩)⟩)
set_option maxHeartbeats 1000000 in
set_option maxRecDepth 100000 in
theorem b_give {t : zMod} {u : zCls} (h : zINV t u) (v : Int32) (x : Int32) : zBoth mX3_give mX4_give 2 4 [.int v, .int x] t u := by
  have hm := h.mOk
  obtain ⟨i1, i2, i3, i4, i5, i6, i7, i8⟩ := id h
  obtain ⟨a1, a2, a3, a4, a5, a6⟩ := id i1
  obtain ⟨b1, b2, b3, b4, b5, b6, b7⟩ := id a6
  obtain ⟨n1, n2, n3, n4⟩ := id i2
  have hc := i1.cT
  have ho := i1.ok
  have hk9 : tg_keys (cg_now u) ≤ 10 := by rw [← b2]; exact a3
  rcases zsp v (n := mg_s t 1) (by omega) with hv | ⟨j, hv, rfl⟩
  · skip
    exact Mi.mono (s3_give_n1 (by rw [← b2]; exact hv)) (fun r h1 hq => ⟨_, hq.2, Mi.mono (s4_give_n1 hm hv) (fun r2 h2 hp => ⟨hp.1.trans hq.1.symm, _, hp.2, i1, i2, i3, i4, i5, i6, zre i7 1, i8⟩)⟩)
  · have hv3 : j < tg_keys (cg_now u) := by rw [← b2]; exact hv
    rcases zsp x (n := mg_s t 0) (by omega) with hx | ⟨k, hx, rfl⟩
    · skip
      exact Mi.mono (s3_give_n2 ho hk9 hv3 (by rw [← b1]; exact hx)) (fun r h1 hq => ⟨_, hq.2, Mi.mono (s4_give_n2 hm hv hx) (fun r2 h2 hp => ⟨hp.1.trans hq.1.symm, _, hp.2, i1, i2, i3, i4, i5, i6, zre i7 1, i8⟩)⟩)
    · skip
      exact Mi.mono (s3_give_k ho hk9 hv3 (by rw [← b1]; exact hx)) (fun r h1 hq => ⟨_, hq.2, Mi.mono (s4_give_k hm hv hx) (fun r2 h2 hp => ⟨hp.1.trans (Eq.trans (congrArg nI (b7 j hv).2) hq.1.symm), _, hp.2, zTo_give i1 hv hx, i2, i3, i4, i5, i6, i7, i8⟩)⟩)
set_option maxHeartbeats 1000000 in
set_option maxRecDepth 100000 in
theorem b_cast {t : zMod} {u : zCls} (h : zINV t u) (v : Int32) (x : Int32) : zBoth mX3_cast mX4_cast 4 4 [.int v, .int x] t u := by
  have hm := h.mOk
  obtain ⟨i1, i2, i3, i4, i5, i6, i7, i8⟩ := id h
  obtain ⟨a1, a2, a3, a4, a5, a6⟩ := id i1
  obtain ⟨b1, b2, b3, b4, b5, b6, b7⟩ := id a6
  obtain ⟨n1, n2, n3, n4⟩ := id i2
  have hc := i1.cT
  have ho := i1.ok
  have hk9 : tg_keys (cg_now u) ≤ 10 := by rw [← b2]; exact a3
  rcases zsp v (n := mg_s t 0) (by omega) with hv | ⟨j, hv, rfl⟩
  · skip
    exact Mi.mono (s3_cast_n1 (by rw [← b1]; exact hv)) (fun r h1 hq => ⟨_, hq.2, Mi.mono (s4_cast_n1 hm hv) (fun r2 h2 hp => ⟨hp.1.trans hq.1.symm, _, hp.2, i1, i2, i3, i4, i5, i6, zre i7 1, i8⟩)⟩)
  · have hv3 : j < tg_people (cg_now u) := by rw [← b1]; exact hv
    rcases zsp x (n := mg_s t 0) (by omega) with hx | ⟨k, hx, rfl⟩
    · skip
      exact Mi.mono (s3_cast_n2 ho hv3 (by rw [← b1]; exact hx)) (fun r h1 hq => ⟨_, hq.2, Mi.mono (s4_cast_n2 hm hv hx) (fun r2 h2 hp => ⟨hp.1.trans hq.1.symm, _, hp.2, i1, i2, i3, i4, i5, i6, zre i7 1, i8⟩)⟩)
    · have hx3 : k < tg_people (cg_now u) := by rw [← b1]; exact hx
      by_cases hf : mg_s t 1 = 10
      · skip
        exact Mi.mono (s3_cast_f ho hv3 hk9 hx3 (by rw [← b2]; exact hf)) (fun r h1 hq => ⟨_, hq.2, Mi.mono (s4_cast_f hm hv hx hf) (fun r2 h2 hp => ⟨hp.1.trans hq.1.symm, _, hp.2, i1, i2, i3, i4, i5, i6, zre i7 6, i8⟩)⟩)
      · have hf2 : mg_s t 1 < 10 := by omega
        exact Mi.mono (s3_cast_k ho hv3 hk9 hx3 (by rw [← b2]; exact hf2)) (fun r h1 hq => ⟨_, hq.2, Mi.mono (s4_cast_k hm hv hx hf2) (fun r2 h2 hp => ⟨hp.1.trans (Eq.trans (congrArg nI b2) hq.1.symm), _, hp.2, zTo_cast i1 hv hx hf2, i2, i3, i4, i5, i6, i7, i8⟩)⟩)
set_option maxHeartbeats 1000000 in
set_option maxRecDepth 100000 in
theorem b_lose {t : zMod} {u : zCls} (h : zINV t u) (v : Int32) : zBoth mX3_lose mX4_lose 4 4 [.int v] t u := by
  have hm := h.mOk
  obtain ⟨i1, i2, i3, i4, i5, i6, i7, i8⟩ := id h
  obtain ⟨a1, a2, a3, a4, a5, a6⟩ := id i1
  obtain ⟨b1, b2, b3, b4, b5, b6, b7⟩ := id a6
  obtain ⟨n1, n2, n3, n4⟩ := id i2
  have hc := i1.cT
  have ho := i1.ok
  have hk9 : tg_keys (cg_now u) ≤ 10 := by rw [← b2]; exact a3
  rcases zsp v (n := mg_s t 1) (by omega) with hv | ⟨j, hv, rfl⟩
  · skip
    exact Mi.mono (s3_lose_n (by rw [← b2]; exact hv)) (fun r h1 hq => ⟨_, hq.2, Mi.mono (s4_lose_n hm hv) (fun r2 h2 hp => ⟨hp.1.trans hq.1.symm, _, hp.2, i1, i2, i3, i4, i5, i6, zre i7 1, i8⟩)⟩)
  · skip
    exact Mi.mono (s3_lose_k ho hk9 (by rw [← b2]; exact hv)) (fun r h1 hq => ⟨_, hq.2, Mi.mono (s4_lose_k hm hv) (fun r2 h2 hp => ⟨hp.1.trans (Eq.trans (congrArg (fun z => nI (z - 1)) b2) hq.1.symm), _, hp.2, zTo_lose i1 hv, i2, i3, i4, i5, i6, i7, i8⟩)⟩)
set_option maxHeartbeats 1000000 in
set_option maxRecDepth 100000 in
theorem b_watch {t : zMod} {u : zCls} (h : zINV t u) (v : Int32) : zBoth mX3_watch mX4_watch 2 4 [.int v] t u := by
  have hm := h.mOk
  obtain ⟨i1, i2, i3, i4, i5, i6, i7, i8⟩ := id h
  obtain ⟨a1, a2, a3, a4, a5, a6⟩ := id i1
  obtain ⟨b1, b2, b3, b4, b5, b6, b7⟩ := id a6
  obtain ⟨n1, n2, n3, n4⟩ := id i2
  have hc := i1.cT
  have ho := i1.ok
  have hk9 : tg_keys (cg_now u) ≤ 10 := by rw [← b2]; exact a3
  have hp9 : 2 ^ mg_s t 0 ≤ 2 ^ 7 := Nat.pow_le_pow_right (by omega) a2
  rcases zsp3 v (n := 2 ^ mg_s t 0 - 1) (by omega) with hv | ⟨h0, hv⟩ | ⟨j, hv, rfl⟩
  · skip
    exact Mi.mono (s3_watch_n ho (Or.inl hv)) (fun r h1 hq => ⟨_, hq.2, Mi.mono (s4_watch_n hm (Or.inl hv)) (fun r2 h2 hp => ⟨hp.1.trans hq.1.symm, _, hp.2, i1, i2, i3, i4, i5, i6, zre i7 1, i8⟩)⟩)
  · skip
    exact Mi.mono (s3_watch_n ho (Or.inr (by rw [← b1]; exact hv))) (fun r h1 hq => ⟨_, hq.2, Mi.mono (s4_watch_n hm (Or.inr hv)) (fun r2 h2 hp => ⟨hp.1.trans hq.1.symm, _, hp.2, i1, i2, i3, i4, i5, i6, zre i7 1, i8⟩)⟩)
  · skip
    exact Mi.mono (s3_watch_k ho (by rw [← b1]; exact hv)) (fun r h1 hq => ⟨_, hq.2, Mi.mono (s4_watch_k hm hv) (fun r2 h2 hp => ⟨hp.1.trans (Eq.trans (congrArg nI b3) hq.1.symm), _, hp.2, zTo_watch i1 hv, i2, i3, i4, i5, i6, i7, i8⟩)⟩)
set_option maxHeartbeats 1000000 in
set_option maxRecDepth 100000 in
theorem b_wake {t : zMod} {u : zCls} (h : zINV t u) (v : Int32) (x : Int32) : zBoth mX3_wake mX4_wake 2 4 [.int v, .int x] t u := by
  have hm := h.mOk
  obtain ⟨i1, i2, i3, i4, i5, i6, i7, i8⟩ := id h
  obtain ⟨a1, a2, a3, a4, a5, a6⟩ := id i1
  obtain ⟨b1, b2, b3, b4, b5, b6, b7⟩ := id a6
  obtain ⟨n1, n2, n3, n4⟩ := id i2
  have hc := i1.cT
  have ho := i1.ok
  have hk9 : tg_keys (cg_now u) ≤ 10 := by rw [← b2]; exact a3
  rcases zsp v (n := mg_s t 0) (by omega) with hv | ⟨j, hv, rfl⟩
  · skip
    exact Mi.mono (s3_wake_n (by rw [← b1]; exact hv)) (fun r h1 hq => ⟨_, hq.2, Mi.mono (s4_wake_n hm hv) (fun r2 h2 hp => ⟨hp.1.trans hq.1.symm, _, hp.2, i1, i2, i3, i4, i5, i6, zre i7 1, i8⟩)⟩)
  · have hv3 : j < tg_people (cg_now u) := by rw [← b1]; exact hv
    rcases zsp3 x (n := 99) (by decide) with hx | ⟨h0, hx⟩ | ⟨k, hx, rfl⟩
    · skip
      exact Mi.mono (s3_wake_b ho hv3 hx) (fun r h1 hq => ⟨_, hq.2, Mi.mono (s4_wake_b hm hv hx) (fun r2 h2 hp => ⟨hp.1.trans hq.1.symm, _, hp.2, i1, i2, i3, i4, i5, i6, zre i7 4, i8⟩)⟩)
    · skip
      exact Mi.mono (s3_wake_r ho hv3 h0 hx) (fun r h1 hq => ⟨_, hq.2, Mi.mono (s4_wake_r hm hv h0 hx) (fun r2 h2 hp => ⟨hp.1.trans hq.1.symm, _, hp.2, i1, i2, i3, i4, i5, i6, zre i7 6, i8⟩)⟩)
    · skip
      exact Mi.mono (s3_wake_k ho hv3 hx) (fun r h1 hq => ⟨_, hq.2, Mi.mono (s4_wake_k hm hv hx) (fun r2 h2 hp => ⟨hp.1.trans (Eq.trans (congrArg nI (b6 j hv).2.1) hq.1.symm), _, hp.2, zTo_wake i1 hv hx, i2, i3, i4, i5, i6, i7, i8⟩)⟩)
set_option maxHeartbeats 1000000 in
set_option maxRecDepth 100000 in
theorem b_walk {t : zMod} {u : zCls} (h : zINV t u) (x : Int32) : zBoth mX3_walk mX4_walk 2 4 [.int x] t u := by
  have hm := h.mOk
  obtain ⟨i1, i2, i3, i4, i5, i6, i7, i8⟩ := id h
  obtain ⟨a1, a2, a3, a4, a5, a6⟩ := id i1
  obtain ⟨b1, b2, b3, b4, b5, b6, b7⟩ := id a6
  obtain ⟨n1, n2, n3, n4⟩ := id i2
  have hc := i1.cT
  have ho := i1.ok
  have hk9 : tg_keys (cg_now u) ≤ 10 := by rw [← b2]; exact a3
  rcases zsp3 x (n := 9) (by decide) with hx | ⟨h0, hx⟩ | ⟨k, hx, rfl⟩
  · skip
    exact Mi.mono (s3_walk_b hx) (fun r h1 hq => ⟨_, hq.2, Mi.mono (s4_walk_b hx) (fun r2 h2 hp => ⟨hp.1.trans hq.1.symm, _, hp.2, i1, i2, i3, i4, i5, i6, zre i7 4, i8⟩)⟩)
  · skip
    exact Mi.mono (s3_walk_r h0 hx) (fun r h1 hq => ⟨_, hq.2, Mi.mono (s4_walk_r h0 hx) (fun r2 h2 hp => ⟨hp.1.trans hq.1.symm, _, hp.2, i1, i2, i3, i4, i5, i6, zre i7 6, i8⟩)⟩)
  · skip
    exact Mi.mono (s3_walk_k hx) (fun r h1 hq => ⟨_, hq.2, Mi.mono (s4_walk_k hx) (fun r2 h2 hp => ⟨hp.1.trans (Eq.trans (congrArg nI b4) hq.1.symm), _, hp.2, zTo_walk i1 hx, i2, i3, i4, i5, i6, i7, i8⟩)⟩)
set_option maxHeartbeats 1000000 in
set_option maxRecDepth 100000 in
theorem b_out {t : zMod} {u : zCls} (h : zINV t u) (v : Int32) : zBoth mX3_out mX4_out 7 8 [.int v] t u := by
  have hm := h.mOk
  obtain ⟨i1, i2, i3, i4, i5, i6, i7, i8⟩ := id h
  obtain ⟨a1, a2, a3, a4, a5, a6⟩ := id i1
  obtain ⟨b1, b2, b3, b4, b5, b6, b7⟩ := id a6
  obtain ⟨n1, n2, n3, n4⟩ := id i2
  have hc := i1.cT
  have ho := i1.ok
  have hk9 : tg_keys (cg_now u) ≤ 10 := by rw [← b2]; exact a3
  rcases zsp v (n := mg_s t 0) (by omega) with hv | ⟨j, hv, rfl⟩
  · skip
    exact Mi.mono (s3_out_n (by rw [← b1]; exact hv)) (fun r h1 hq => ⟨_, hq.2, Mi.mono (s4_out_n hm hv) (fun r2 h2 hp => ⟨hp.1.trans hq.1.symm, _, hp.2, i1, i2, i3, i4, i5, i6, zre i7 1, i8⟩)⟩)
  · skip
    refine Mi.mono (s3_out_y hc i8 (v := j) hv) (fun r h1 hq => ?_)
    obtain ⟨M', R', q1, q2, q3⟩ := hq
    refine ⟨_, q1, Mi.mono (s4_out_y hm hv) (fun r2 h2 hp => ?_)⟩
    obtain ⟨O', P', p1, p2, p3, p4⟩ := hp
    exact ⟨p2.trans (Eq.trans (by rw [n1, n2]; first | done | rfl) q2.symm), _, p1, i1, ⟨n1, n2, p3, p4⟩, i3, i4, i5, i6, i7, q3⟩
set_option maxHeartbeats 1000000 in
set_option maxRecDepth 100000 in
theorem b_by {t : zMod} {u : zCls} (h : zINV t u) (v : Int32) : zBoth mX3_by mX4_by 7 8 [.int v] t u := by
  have hm := h.mOk
  obtain ⟨i1, i2, i3, i4, i5, i6, i7, i8⟩ := id h
  obtain ⟨a1, a2, a3, a4, a5, a6⟩ := id i1
  obtain ⟨b1, b2, b3, b4, b5, b6, b7⟩ := id a6
  obtain ⟨n1, n2, n3, n4⟩ := id i2
  have hc := i1.cT
  have ho := i1.ok
  have hk9 : tg_keys (cg_now u) ≤ 10 := by rw [← b2]; exact a3
  rcases zsp v (n := mg_s t 0) (by omega) with hv | ⟨j, hv, rfl⟩
  · skip
    exact Mi.mono (s3_by_n (by rw [← b1]; exact hv)) (fun r h1 hq => ⟨_, hq.2, Mi.mono (s4_by_n hm hv) (fun r2 h2 hp => ⟨hp.1.trans hq.1.symm, _, hp.2, i1, i2, i3, i4, i5, i6, zre i7 1, i8⟩)⟩)
  · skip
    refine Mi.mono (s3_by_y hc i8 (v := j) hv) (fun r h1 hq => ?_)
    obtain ⟨M', R', q1, q2, q3⟩ := hq
    refine ⟨_, q1, Mi.mono (s4_by_y hm hv a4) (fun r2 h2 hp => ?_)⟩
    obtain ⟨O', P', p1, p2, p3, p4⟩ := hp
    exact ⟨p2.trans (Eq.trans (by rw [n1, n2]; first | done | rfl) q2.symm), _, p1, i1, ⟨n1, n2, p3, p4⟩, i3, i4, i5, i6, i7, q3⟩
set_option maxHeartbeats 1000000 in
set_option maxRecDepth 100000 in
theorem b_all {t : zMod} {u : zCls} (h : zINV t u)  : zBoth mX3_all mX4_all 8 8 [] t u := by
  have hm := h.mOk
  obtain ⟨i1, i2, i3, i4, i5, i6, i7, i8⟩ := id h
  obtain ⟨a1, a2, a3, a4, a5, a6⟩ := id i1
  obtain ⟨b1, b2, b3, b4, b5, b6, b7⟩ := id a6
  obtain ⟨n1, n2, n3, n4⟩ := id i2
  have hc := i1.cT
  have ho := i1.ok
  have hk9 : tg_keys (cg_now u) ≤ 10 := by rw [← b2]; exact a3
  refine Mi.mono (s3_all hc i8) (fun r h1 hq => ?_)
  obtain ⟨M', R', q1, q2, q3⟩ := hq
  refine ⟨_, q1, Mi.mono (s4_all hm) (fun r2 h2 hp => ?_)⟩
  obtain ⟨O', P', p1, p2, p3, p4⟩ := hp
  exact ⟨p2.trans (Eq.trans (by rw [n1, n2]; first | done | rfl) q2.symm), _, p1, i1, ⟨n1, n2, p3, p4⟩, i3, i4, i5, i6, i7, q3⟩
set_option maxHeartbeats 1000000 in
set_option maxRecDepth 100000 in
theorem b_late {t : zMod} {u : zCls} (h : zINV t u)  : zBoth mX3_late mX4_late 7 6 [] t u := by
  have hm := h.mOk
  obtain ⟨i1, i2, i3, i4, i5, i6, i7, i8⟩ := id h
  obtain ⟨a1, a2, a3, a4, a5, a6⟩ := id i1
  obtain ⟨b1, b2, b3, b4, b5, b6, b7⟩ := id a6
  obtain ⟨n1, n2, n3, n4⟩ := id i2
  have hc := i1.cT
  have ho := i1.ok
  have hk9 : tg_keys (cg_now u) ≤ 10 := by rw [← b2]; exact a3
  refine Mi.mono (s3_late hc i8) (fun r h1 hq => ?_)
  obtain ⟨M', R', q1, q2, q3⟩ := hq
  refine ⟨_, q1, Mi.mono (s4_late hm) (fun r2 h2 hp => ?_)⟩
  obtain ⟨O', P', p1, p2, p3, p4⟩ := hp
  exact ⟨p2.trans (Eq.trans (by rw [n1, n2]; first | done | rfl) q2.symm), _, p1, i1, ⟨n1, n2, p3, p4⟩, i3, i4, i5, i6, i7, q3⟩
set_option maxHeartbeats 1000000 in
set_option maxRecDepth 100000 in
theorem b_fire {t : zMod} {u : zCls} (h : zINV t u) (v : Int32) (x : Int32) : zBoth mX3_fire mX4_fire 7 8 [.int v, .int x] t u := by
  have hm := h.mOk
  obtain ⟨i1, i2, i3, i4, i5, i6, i7, i8⟩ := id h
  obtain ⟨a1, a2, a3, a4, a5, a6⟩ := id i1
  obtain ⟨b1, b2, b3, b4, b5, b6, b7⟩ := id a6
  obtain ⟨n1, n2, n3, n4⟩ := id i2
  have hc := i1.cT
  have ho := i1.ok
  have hk9 : tg_keys (cg_now u) ≤ 10 := by rw [← b2]; exact a3
  rcases zsp v (n := mg_s t 0) (by omega) with hv | ⟨j, hv, rfl⟩
  · skip
    exact Mi.mono (s3_fire_n (by rw [← b1]; exact hv)) (fun r h1 hq => ⟨_, hq.2, Mi.mono (s4_fire_n hm hv) (fun r2 h2 hp => ⟨hp.1.trans hq.1.symm, _, hp.2, i1, i2, i3, i4, i5, i6, zre i7 1, i8⟩)⟩)
  · by_cases hx : x < 0
    · skip
      exact Mi.mono (s3_fire_b hc i8 (v := j) hv hx) (fun r h1 hq => ⟨_, hq.2, Mi.mono (s4_fire_b hm hv hx) (fun r2 h2 hp => ⟨hp.1.trans hq.1.symm, _, hp.2, i1, i2, i3, i4, i5, i6, zre i7 4, i8⟩)⟩)
    · have hx2 : 0 ≤ x := Int32.not_lt.mp hx
      refine Mi.mono (s3_fire_y hc i8 (v := j) hv hx2) (fun r h1 hq => ?_)
      obtain ⟨M', R', q1, q2, q3⟩ := hq
      refine ⟨_, q1, Mi.mono (s4_fire_y hm hv hx2) (fun r2 h2 hp => ?_)⟩
      obtain ⟨O', P', p1, p2, p3, p4⟩ := hp
      exact ⟨p2.trans (Eq.trans (by rw [n1, n2]; first | done | rfl) q2.symm), _, p1, i1, ⟨n1, n2, p3, p4⟩, i3, i4, i5, i6, i7, q3⟩
set_option maxHeartbeats 1000000 in
set_option maxRecDepth 100000 in
theorem b_overslept {t : zMod} {u : zCls} (h : zINV t u)  : zBoth mX3_overslept mX4_overslept 7 8 [] t u := by
  have hm := h.mOk
  obtain ⟨i1, i2, i3, i4, i5, i6, i7, i8⟩ := id h
  obtain ⟨a1, a2, a3, a4, a5, a6⟩ := id i1
  obtain ⟨b1, b2, b3, b4, b5, b6, b7⟩ := id a6
  obtain ⟨n1, n2, n3, n4⟩ := id i2
  have hc := i1.cT
  have ho := i1.ok
  have hk9 : tg_keys (cg_now u) ≤ 10 := by rw [← b2]; exact a3
  obtain ⟨e1, e2, e3, e4⟩ := i6
  by_cases hn : mg_rc t = mg_s t 0
  · skip
    refine Mi.mono (s3_overslept_k hc i8 (by rw [← e1, ← b1]; exact hn) (by rw [← e3]; exact e4)) (fun r h1 hq => ?_)
    obtain ⟨M', R', q1, q2, q3⟩ := hq
    refine ⟨_, q1, Mi.mono (s4_overslept_k hm hn e4) (fun r2 h2 hp => ?_)⟩
    obtain ⟨O', P', p1, p2, p3, p4⟩ := hp
    exact ⟨p2.trans (Eq.trans (by rw [n1, n2, e3]; first | done | rfl) q2.symm), _, p1, i1, ⟨n1, n2, p3, p4⟩, i3, i4, i5, ⟨e1, e2, e3, e4⟩, i7, q3⟩
  · skip
    exact Mi.mono (s3_overslept_n ho (by rw [← e1, ← b1]; exact hn) (by rw [← e1]; exact e2)) (fun r h1 hq => ⟨_, hq.2, Mi.mono (s4_overslept_n hm hn e2) (fun r2 h2 hp => ⟨hp.1.trans hq.1.symm, _, hp.2, i1, i2, i3, i4, i5, ⟨e1, e2, e3, e4⟩, zre i7 3, i8⟩)⟩)
set_option maxHeartbeats 1000000 in
set_option maxRecDepth 100000 in
theorem b_judge {t : zMod} {u : zCls} (h : zINV t u)  : zBoth mX3_judge mX4_judge 7 8 [] t u := by
  have hm := h.mOk
  obtain ⟨i1, i2, i3, i4, i5, i6, i7, i8⟩ := id h
  obtain ⟨a1, a2, a3, a4, a5, a6⟩ := id i1
  obtain ⟨b1, b2, b3, b4, b5, b6, b7⟩ := id a6
  obtain ⟨n1, n2, n3, n4⟩ := id i2
  have hc := i1.cT
  have ho := i1.ok
  have hk9 : tg_keys (cg_now u) ≤ 10 := by rw [← b2]; exact a3
  obtain ⟨e1, e2, e3, e4⟩ := i6
  refine Mi.mono (s3_judge hc i8 (by rw [← e3]; exact e4) (by rw [← e1]; exact e2)) (fun r h1 hq => ?_)
  obtain ⟨M', R', q1, q2, q3⟩ := hq
  refine ⟨_, q1, Mi.mono (s4_judge hm e4 e2) (fun r2 h2 hp => ?_)⟩
  obtain ⟨O', P', p1, p2, p3, p4⟩ := hp
  exact ⟨p2.trans (Eq.trans (by rw [n1, n2, e3, e1]; first | done | rfl) q2.symm), _, p1, i1, ⟨n1, n2, p3, p4⟩, i3, i4, i5, ⟨rfl, Nat.zero_le _, e3, e4⟩, i7, q3⟩
set_option maxHeartbeats 1000000 in
set_option maxRecDepth 100000 in
theorem b_fewest {t : zMod} {u : zCls} (h : zINV t u) (x : Int32) : zBoth mX3_fewest mX4_fewest 8 10 [.int x] t u := by
  have hm := h.mOk
  obtain ⟨i1, i2, i3, i4, i5, i6, i7, i8⟩ := id h
  obtain ⟨a1, a2, a3, a4, a5, a6⟩ := id i1
  obtain ⟨b1, b2, b3, b4, b5, b6, b7⟩ := id a6
  obtain ⟨n1, n2, n3, n4⟩ := id i2
  have hc := i1.cT
  have ho := i1.ok
  have hk9 : tg_keys (cg_now u) ≤ 10 := by rw [← b2]; exact a3
  rcases zsp x (n := 2) (by decide) with hx | ⟨k, hk, rfl⟩
  · skip
    exact Mi.mono (s3_fewest_o hx) (fun r h1 hq => ⟨_, hq.2, Mi.mono (s4_fewest_o hm hx) (fun r2 h2 hp => ⟨hp.1.trans hq.1.symm, _, hp.2, i1, i2, i3, i4, i5, i6, zre i7 2, i8⟩)⟩)
  · skip
    obtain ⟨g0, hg⟩ := tFew_ex (sTw (mg_s t))
    have hg4 : sFew (mg_s t) (mg_br t) = some g0 := by rw [n1, sFew_t i1]; exact hg
    have hw9 : mg_s t 2 ≤ 127 := Nat.le_of_lt_succ (Nat.lt_of_lt_of_le a4.2.2.2.1 (Nat.pow_le_pow_right (by omega) a2 : 2 ^ mg_s t 0 ≤ 2 ^ 7))
    rcases (by omega : k = 0 ∨ k = 1) with rfl | rfl
    · skip
      refine Mi.mono (s3_fewest_0 hc i8 hg) (fun r h1 hq => ?_)
      obtain ⟨M', R', q1, q2, q3⟩ := hq
      refine ⟨_, q1, Mi.mono (s4_fewest_0 hm hg4 hw9) (fun r2 h2 hp => ?_)⟩
      obtain ⟨O', P', p1, p2, p3, p4⟩ := hp
      exact ⟨p2.trans (Eq.trans (rfl) q2.symm), _, p1, i1, ⟨n1, rfl, p3, p4⟩, i3, i4, i5, i6, i7, q3⟩
    · skip
      refine Mi.mono (s3_fewest_1 hc i8 hg) (fun r h1 hq => ?_)
      obtain ⟨M', R', q1, q2, q3⟩ := hq
      refine ⟨_, q1, Mi.mono (s4_fewest_1 hm hg4 hw9) (fun r2 h2 hp => ?_)⟩
      obtain ⟨O', P', p1, p2, p3, p4⟩ := hp
      exact ⟨p2.trans (Eq.trans (rfl) q2.symm), _, p1, i1, ⟨n1, rfl, p3, p4⟩, i3, i4, i5, i6, i7, q3⟩
set_option maxHeartbeats 1000000 in
set_option maxRecDepth 100000 in
theorem b_soonest {t : zMod} {u : zCls} (h : zINV t u) (x : Int32) : zBoth mX3_soonest mX4_soonest 8 10 [.int x] t u := by
  have hm := h.mOk
  obtain ⟨i1, i2, i3, i4, i5, i6, i7, i8⟩ := id h
  obtain ⟨a1, a2, a3, a4, a5, a6⟩ := id i1
  obtain ⟨b1, b2, b3, b4, b5, b6, b7⟩ := id a6
  obtain ⟨n1, n2, n3, n4⟩ := id i2
  have hc := i1.cT
  have ho := i1.ok
  have hk9 : tg_keys (cg_now u) ≤ 10 := by rw [← b2]; exact a3
  rcases zsp x (n := 2) (by decide) with hx | ⟨k, hk, rfl⟩
  · skip
    exact Mi.mono (s3_soonest_o hx) (fun r h1 hq => ⟨_, hq.2, Mi.mono (s4_soonest_o hm hx) (fun r2 h2 hp => ⟨hp.1.trans hq.1.symm, _, hp.2, i1, i2, i3, i4, i5, i6, zre i7 2, i8⟩)⟩)
  · skip
    obtain ⟨g0, hg⟩ := tFew_ex (sTw (mg_s t))
    have hg4 : sFew (mg_s t) (mg_br t) = some g0 := by rw [n1, sFew_t i1]; exact hg
    have hw9 : mg_s t 2 ≤ 127 := Nat.le_of_lt_succ (Nat.lt_of_lt_of_le a4.2.2.2.1 (Nat.pow_le_pow_right (by omega) a2 : 2 ^ mg_s t 0 ≤ 2 ^ 7))
    obtain ⟨b0, hb⟩ := tSoo_ex hg
    have hb4 : zsoo (zcnt 7 g0) (fun s => sAll (va_up (mg_s t) 2 s) 0 (mg_br t)) (2 ^ mg_s t 0) = some b0 := by rw [n1, sSoo_t i1]; exact hb
    have hbl : b0 < 2 ^ mg_s t 0 := zsoo_lt hb
    rcases (by omega : k = 0 ∨ k = 1) with rfl | rfl
    · skip
      refine Mi.mono (s3_soonest_0 hc i8 hg hb) (fun r h1 hq => ?_)
      obtain ⟨M', R', q1, q2, q3⟩ := hq
      refine ⟨_, q1, Mi.mono (s4_soonest_0 hm hg4 hw9 hb4) (fun r2 h2 hp => ?_)⟩
      obtain ⟨O', P', p1, p2, p3, p4⟩ := hp
      exact ⟨p2.trans (Eq.trans (rfl) q2.symm), _, p1, i1, ⟨n1, rfl, p3, p4⟩, i3, i4, i5, i6, i7, q3⟩
    · skip
      refine Mi.mono (s3_soonest_1 hc i8 hg hb) (fun r h1 hq => ?_)
      obtain ⟨M', R', q1, q2, q3⟩ := hq
      refine ⟨_, q1, Mi.mono (s4_soonest_1 hm hg4 hw9 hb4) (fun r2 h2 hp => ?_)⟩
      obtain ⟨O', P', p1, p2, p3, p4⟩ := hp
      exact ⟨p2.trans (Eq.trans (by rw [n1]; exact congrArg (zon 1000000) (tAll_eq (tWt_ok a4 hbl) (tWt_eqS a2)).symm) q2.symm), _, p1, i1, ⟨n1, rfl, p3, p4⟩, i3, i4, i5, i6, i7, q3⟩
set_option maxHeartbeats 1000000 in
set_option maxRecDepth 100000 in
theorem b_breaking {t : zMod} {u : zCls} (h : zINV t u) (x : Int32) : zBoth mX3_breaking mX4_breaking 6 10 [.int x] t u := by
  have hm := h.mOk
  obtain ⟨i1, i2, i3, i4, i5, i6, i7, i8⟩ := id h
  obtain ⟨a1, a2, a3, a4, a5, a6⟩ := id i1
  obtain ⟨b1, b2, b3, b4, b5, b6, b7⟩ := id a6
  obtain ⟨n1, n2, n3, n4⟩ := id i2
  have hc := i1.cT
  have ho := i1.ok
  have hk9 : tg_keys (cg_now u) ≤ 10 := by rw [← b2]; exact a3
  rcases zsp x (n := 2) (by decide) with hx | ⟨k, hk, rfl⟩
  · skip
    exact Mi.mono (s3_breaking_o hx) (fun r h1 hq => ⟨_, hq.2, Mi.mono (s4_breaking_o hm hx) (fun r2 h2 hp => ⟨hp.1.trans hq.1.symm, _, hp.2, i1, i2, i3, i4, i5, i6, zre i7 2, i8⟩)⟩)
  · skip
    obtain ⟨g0, hg⟩ := tBrk_ex a4
    have hg4 : sBrk (mg_s t) (mg_nw t) = some g0 := by rw [n2, sBrk_t]; exact hg
    rcases (by omega : k = 0 ∨ k = 1) with rfl | rfl
    · skip
      refine Mi.mono (s3_breaking_0 hc i8 hg) (fun r h1 hq => ?_)
      obtain ⟨M', R', q1, q2, q3⟩ := hq
      refine ⟨_, q1, Mi.mono (s4_breaking_0 hm hg4) (fun r2 h2 hp => ?_)⟩
      obtain ⟨O', P', p1, p2, p3, p4⟩ := hp
      exact ⟨p2.trans (Eq.trans (rfl) q2.symm), _, p1, i1, ⟨rfl, n2, p3, p4⟩, i3, i4, i5, i6, i7, q3⟩
    · skip
      refine Mi.mono (s3_breaking_1 hc i8 hg) (fun r h1 hq => ?_)
      obtain ⟨M', R', q1, q2, q3⟩ := hq
      refine ⟨_, q1, Mi.mono (s4_breaking_1 hm hg4) (fun r2 h2 hp => ?_)⟩
      obtain ⟨O', P', p1, p2, p3, p4⟩ := hp
      exact ⟨p2.trans (Eq.trans (rfl) q2.symm), _, p1, i1, ⟨rfl, n2, p3, p4⟩, i3, i4, i5, i6, i7, q3⟩
set_option maxHeartbeats 1000000 in
set_option maxRecDepth 100000 in
theorem b_copy {t : zMod} {u : zCls} (h : zINV t u)  : zBoth mX3_copy mX4_copy 7 10 [] t u := by
  have hm := h.mOk
  obtain ⟨i1, i2, i3, i4, i5, i6, i7, i8⟩ := id h
  obtain ⟨a1, a2, a3, a4, a5, a6⟩ := id i1
  obtain ⟨b1, b2, b3, b4, b5, b6, b7⟩ := id a6
  obtain ⟨n1, n2, n3, n4⟩ := id i2
  have hc := i1.cT
  have ho := i1.ok
  have hk9 : tg_keys (cg_now u) ≤ 10 := by rw [← b2]; exact a3
  by_cases h0 : mg_s t 0 = 0
  · skip
    exact Mi.mono (s3_copy_n (by rw [← b1]; exact h0)) (fun r h1 hq => ⟨_, hq.2, Mi.mono (s4_copy_n hm h0) (fun r2 h2 hp => ⟨hp.1.trans hq.1.symm, _, hp.2, i1, i2, i3, i4, i5, i6, zre i7 3, i8⟩)⟩)
  · skip
    refine Mi.mono (s3_copy_k hc i8 h0) (fun r h1 hq => ?_)
    obtain ⟨M', R', q1, q2, q3⟩ := hq
    refine ⟨_, q1, Mi.mono (s4_copy_k hm (by omega) h0) (fun r2 h2 hp => ?_)⟩
    obtain ⟨X', O', P', p1, p2, p5, p6, p3, p4⟩ := hp
    exact ⟨p2.trans (Eq.trans (by rw [n1, n2, sCopy_t i1]) q2.symm), _, p1, zTo_near i1 p5 p6, ⟨n1, n2, p3, p4⟩, i3, i4, i5, i6, i7, q3⟩
set_option maxHeartbeats 1000000 in
set_option maxRecDepth 100000 in
theorem b_copies {t : zMod} {u : zCls} (h : zINV t u) (x : Int32) : zBoth mX3_copies mX4_copies 9 12 [.int x] t u := by
  have hm := h.mOk
  obtain ⟨i1, i2, i3, i4, i5, i6, i7, i8⟩ := id h
  obtain ⟨a1, a2, a3, a4, a5, a6⟩ := id i1
  obtain ⟨b1, b2, b3, b4, b5, b6, b7⟩ := id a6
  obtain ⟨n1, n2, n3, n4⟩ := id i2
  have hc := i1.cT
  have ho := i1.ok
  have hk9 : tg_keys (cg_now u) ≤ 10 := by rw [← b2]; exact a3
  by_cases hx : x < 0
  · skip
    exact Mi.mono (s3_copies_b hx) (fun r h1 hq => ⟨_, hq.2, Mi.mono (s4_copies_b hx) (fun r2 h2 hp => ⟨hp.1.trans hq.1.symm, _, hp.2, i1, i2, i3, i4, i5, i6, zre i7 4, i8⟩)⟩)
  · obtain ⟨j, hj, rfl⟩ := nI_of hx
    refine Mi.mono (s3_copies_k hc i8 hj) (fun r h1 hq => ?_)
    obtain ⟨M', R', q1, q2, q3⟩ := hq
    refine ⟨_, q1, Mi.mono (s4_copies_k hm a3 hj) (fun r2 h2 hp => ?_)⟩
    obtain ⟨X', O', P', b', p1, p2, p5, p6, p3, p4⟩ := hp
    exact ⟨p2.trans (Eq.trans (by rw [n1, n2, sCps_t i1]) q2.symm), _, p1, zTo_near i1 p5 p6, ⟨n1, n2, p3, p4⟩, i3, i4, i5, i6, i7, q3⟩
set_option maxHeartbeats 1000000 in
set_option maxRecDepth 100000 in
theorem b_rings {t : zMod} {u : zCls} (h : zINV t u)  : zBoth mX3_rings mX4_rings 7 8 [] t u := by
  have hm := h.mOk
  obtain ⟨i1, i2, i3, i4, i5, i6, i7, i8⟩ := id h
  obtain ⟨a1, a2, a3, a4, a5, a6⟩ := id i1
  obtain ⟨b1, b2, b3, b4, b5, b6, b7⟩ := id a6
  obtain ⟨n1, n2, n3, n4⟩ := id i2
  have hc := i1.cT
  have ho := i1.ok
  have hk9 : tg_keys (cg_now u) ≤ 10 := by rw [← b2]; exact a3
  exact Mi.mono (s3_rings hc) (fun r h1 hq => ⟨_, hq.2, Mi.mono (s4_rings hm a5) (fun r2 h2 hp => ⟨hp.1.trans (Eq.trans (rfl) hq.1.symm), _, hp.2, h⟩)⟩)
set_option maxHeartbeats 1000000 in
set_option maxRecDepth 100000 in
theorem b_swap {t : zMod} {u : zCls} (h : zINV t u)  : zBoth mX3_swap mX4_swap 8 10 [] t u := by
  have hm := h.mOk
  obtain ⟨i1, i2, i3, i4, i5, i6, i7, i8⟩ := id h
  obtain ⟨a1, a2, a3, a4, a5, a6⟩ := id i1
  obtain ⟨b1, b2, b3, b4, b5, b6, b7⟩ := id a6
  obtain ⟨n1, n2, n3, n4⟩ := id i2
  have hc := i1.cT
  have ho := i1.ok
  have hk9 : tg_keys (cg_now u) ≤ 10 := by rw [← b2]; exact a3
  refine Mi.mono (s3_swap hc) (fun r h1 hq => ?_)
  obtain ⟨D', q1, q2⟩ := hq
  refine ⟨_, q2, Mi.mono (s4_swap hm a5) (fun r2 h2 hp => ?_)⟩
  exact ⟨hp.1.trans (Eq.trans (by rw [sSwap_t a2]) q1.symm), _, hp.2, h⟩
set_option maxHeartbeats 1000000 in
set_option maxRecDepth 100000 in
theorem b_gone {t : zMod} {u : zCls} (h : zINV t u) (v : Int32) : zBoth mX3_gone mX4_gone 7 9 [.int v] t u := by
  have hm := h.mOk
  obtain ⟨i1, i2, i3, i4, i5, i6, i7, i8⟩ := id h
  obtain ⟨a1, a2, a3, a4, a5, a6⟩ := id i1
  obtain ⟨b1, b2, b3, b4, b5, b6, b7⟩ := id a6
  obtain ⟨n1, n2, n3, n4⟩ := id i2
  have hc := i1.cT
  have ho := i1.ok
  have hk9 : tg_keys (cg_now u) ≤ 10 := by rw [← b2]; exact a3
  rcases zsp v (n := mg_s t 1) (by omega) with hv | ⟨j, hv, rfl⟩
  · skip
    exact Mi.mono (s3_gone_n (by rw [← b2]; exact hv)) (fun r h1 hq => ⟨_, hq.2, Mi.mono (s4_gone_n hm hv) (fun r2 h2 hp => ⟨hp.1.trans hq.1.symm, _, hp.2, i1, i2, i3, i4, i5, i6, zre i7 1, i8⟩)⟩)
  · skip
    refine Mi.mono (s3_gone_k hc i8 (v := j) hv) (fun r h1 hq => ?_)
    obtain ⟨M', R', D', q1, q2, q3⟩ := hq
    refine ⟨_, q1, Mi.mono (s4_gone_k hm hv) (fun r2 h2 hp => ?_)⟩
    obtain ⟨O', P', p1, p2, p3, p4⟩ := hp
    exact ⟨p2.trans (Eq.trans (by rw [n1, n2]; exact (sGone_t i1 hv).symm) q2.symm), _, p1, i1, ⟨n1, n2, p3, p4⟩, i3, i4, i5, i6, i7, q3⟩
theorem zl_1_0 : 1 = (if 0 = 0 then (zlot 1).1 else (zlot 1).2) := by decide +kernel
theorem zl_1_1 : 1 = (if 1 = 0 then (zlot 1).1 else (zlot 1).2) := by decide +kernel
theorem zl_2_0 : 3 = (if 0 = 0 then (zlot 2).1 else (zlot 2).2) := by decide +kernel
theorem zl_2_1 : 2 = (if 1 = 0 then (zlot 2).1 else (zlot 2).2) := by decide +kernel
theorem zl_3_0 : 11 = (if 0 = 0 then (zlot 3).1 else (zlot 3).2) := by decide +kernel
theorem zl_3_1 : 6 = (if 1 = 0 then (zlot 3).1 else (zlot 3).2) := by decide +kernel
theorem zl_4_0 : 25 = (if 0 = 0 then (zlot 4).1 else (zlot 4).2) := by decide +kernel
theorem zl_4_1 : 12 = (if 1 = 0 then (zlot 4).1 else (zlot 4).2) := by decide +kernel
theorem zl_5_0 : 137 = (if 0 = 0 then (zlot 5).1 else (zlot 5).2) := by decide +kernel
theorem zl_5_1 : 60 = (if 1 = 0 then (zlot 5).1 else (zlot 5).2) := by decide +kernel
theorem zl_6_0 : 49 = (if 0 = 0 then (zlot 6).1 else (zlot 6).2) := by decide +kernel
theorem zl_6_1 : 20 = (if 1 = 0 then (zlot 6).1 else (zlot 6).2) := by decide +kernel
theorem zl_7_0 : 363 = (if 0 = 0 then (zlot 7).1 else (zlot 7).2) := by decide +kernel
theorem zl_7_1 : 140 = (if 1 = 0 then (zlot 7).1 else (zlot 7).2) := by decide +kernel
theorem zl_8_0 : 761 = (if 0 = 0 then (zlot 8).1 else (zlot 8).2) := by decide +kernel
theorem zl_8_1 : 280 = (if 1 = 0 then (zlot 8).1 else (zlot 8).2) := by decide +kernel
theorem zl_9_0 : 7129 = (if 0 = 0 then (zlot 9).1 else (zlot 9).2) := by decide +kernel
theorem zl_9_1 : 2520 = (if 1 = 0 then (zlot 9).1 else (zlot 9).2) := by decide +kernel
set_option maxHeartbeats 1000000 in
set_option maxRecDepth 100000 in
theorem b_lot {t : zMod} {u : zCls} (h : zINV t u) (n : Int32) (x : Int32) (y : Int32) : zBoth mX3_lot mX4_lot 3 60 [.int n, .int x, .int y] t u := by
  have hm := h.mOk
  obtain ⟨i1, i2, i3, i4, i5, i6, i7, i8⟩ := id h
  obtain ⟨a1, a2, a3, a4, a5, a6⟩ := id i1
  obtain ⟨b1, b2, b3, b4, b5, b6, b7⟩ := id a6
  obtain ⟨n1, n2, n3, n4⟩ := id i2
  have hc := i1.cT
  have ho := i1.ok
  have hk9 : tg_keys (cg_now u) ≤ 10 := by rw [← b2]; exact a3
  rcases zsp4 n (a := 1) (n := 9) (by decide) (by decide) with hn | ⟨h0, hn⟩ | ⟨j, hj1, hj, rfl⟩
  · skip
    exact Mi.mono (s3_lot_b hn) (fun r h1 hq => ⟨_, hq.2, Mi.mono (s4_lot_b hn) (fun r2 h2 hp => ⟨hp.1.trans hq.1.symm, _, hp.2, i1, i2, i3, i4, i5, i6, zre i7 4, i8⟩)⟩)
  · skip
    exact Mi.mono (s3_lot_r h0 hn) (fun r h1 hq => ⟨_, hq.2, Mi.mono (s4_lot_r h0 hn) (fun r2 h2 hp => ⟨hp.1.trans hq.1.symm, _, hp.2, i1, i2, i3, i4, i5, i6, zre i7 6, i8⟩)⟩)
  · rcases zsp x (n := 2) (by decide) with hx | ⟨k, hk, rfl⟩
    · skip
      exact Mi.mono (s3_lot_o1 hj1 hj hx) (fun r h1 hq => ⟨_, hq.2, Mi.mono (s4_lot_o1 hj1 hj hx) (fun r2 h2 hp => ⟨hp.1.trans hq.1.symm, _, hp.2, i1, i2, i3, i4, i5, i6, zre i7 2, i8⟩)⟩)
    · rcases zsp y (n := 2) (by decide) with hy | ⟨l, hl, rfl⟩
      · skip
        exact Mi.mono (s3_lot_o2 hj1 hj hk hy) (fun r h1 hq => ⟨_, hq.2, Mi.mono (s4_lot_o2 hj1 hj hk hy) (fun r2 h2 hp => ⟨hp.1.trans hq.1.symm, _, hp.2, i1, i2, i3, i4, i5, i6, zre i7 2, i8⟩)⟩)
      · rcases (by omega : k = 0 ∨ k = 1) with rfl | rfl
        · rcases (by omega : l = 0 ∨ l = 1) with rfl | rfl
          · skip
            exact Mi.mono (s3_lot_00 hj1 hj) (fun r h1 hq => ⟨_, hq.2, Mi.mono (s4_lot_00 hj1 hj) (fun r2 h2 hp => ⟨hp.1.trans (Eq.trans (rfl) hq.1.symm), _, hp.2, h⟩)⟩)
          · skip
            exact Mi.mono (s3_lot_01 hj1 hj) (fun r h1 hq => ⟨_, hq.2, Mi.mono (s4_lot_01 hj1 hj) (fun r2 h2 hp => ⟨hp.1.trans (Eq.trans (rfl) hq.1.symm), _, hp.2, h⟩)⟩)
        · rcases (by omega : l = 0 ∨ l = 1) with rfl | rfl
          · rcases (by omega : j = 1 ∨ j = 2 ∨ j = 3 ∨ j = 4 ∨ j = 5 ∨ j = 6 ∨ j = 7 ∨ j = 8 ∨ j = 9) with rfl | rfl | rfl | rfl | rfl | rfl | rfl | rfl | rfl
            · skip
              exact Mi.mono (s3_lot_1 hj1 hj (pa := 0) (by decide)) (fun r h1 hq => ⟨_, hq.2, Mi.mono (s4_lot_1_0) (fun r2 h2 hp => ⟨hp.1.trans (Eq.trans (congrArg nI zl_1_0) hq.1.symm), _, hp.2, h⟩)⟩)
            · skip
              exact Mi.mono (s3_lot_1 hj1 hj (pa := 0) (by decide)) (fun r h1 hq => ⟨_, hq.2, Mi.mono (s4_lot_2_0) (fun r2 h2 hp => ⟨hp.1.trans (Eq.trans (congrArg nI zl_2_0) hq.1.symm), _, hp.2, h⟩)⟩)
            · skip
              exact Mi.mono (s3_lot_1 hj1 hj (pa := 0) (by decide)) (fun r h1 hq => ⟨_, hq.2, Mi.mono (s4_lot_3_0) (fun r2 h2 hp => ⟨hp.1.trans (Eq.trans (congrArg nI zl_3_0) hq.1.symm), _, hp.2, h⟩)⟩)
            · skip
              exact Mi.mono (s3_lot_1 hj1 hj (pa := 0) (by decide)) (fun r h1 hq => ⟨_, hq.2, Mi.mono (s4_lot_4_0) (fun r2 h2 hp => ⟨hp.1.trans (Eq.trans (congrArg nI zl_4_0) hq.1.symm), _, hp.2, h⟩)⟩)
            · skip
              exact Mi.mono (s3_lot_1 hj1 hj (pa := 0) (by decide)) (fun r h1 hq => ⟨_, hq.2, Mi.mono (s4_lot_5_0) (fun r2 h2 hp => ⟨hp.1.trans (Eq.trans (congrArg nI zl_5_0) hq.1.symm), _, hp.2, h⟩)⟩)
            · skip
              exact Mi.mono (s3_lot_1 hj1 hj (pa := 0) (by decide)) (fun r h1 hq => ⟨_, hq.2, Mi.mono (s4_lot_6_0) (fun r2 h2 hp => ⟨hp.1.trans (Eq.trans (congrArg nI zl_6_0) hq.1.symm), _, hp.2, h⟩)⟩)
            · skip
              exact Mi.mono (s3_lot_1 hj1 hj (pa := 0) (by decide)) (fun r h1 hq => ⟨_, hq.2, Mi.mono (s4_lot_7_0) (fun r2 h2 hp => ⟨hp.1.trans (Eq.trans (congrArg nI zl_7_0) hq.1.symm), _, hp.2, h⟩)⟩)
            · skip
              exact Mi.mono (s3_lot_1 hj1 hj (pa := 0) (by decide)) (fun r h1 hq => ⟨_, hq.2, Mi.mono (s4_lot_8_0) (fun r2 h2 hp => ⟨hp.1.trans (Eq.trans (congrArg nI zl_8_0) hq.1.symm), _, hp.2, h⟩)⟩)
            · skip
              exact Mi.mono (s3_lot_1 hj1 hj (pa := 0) (by decide)) (fun r h1 hq => ⟨_, hq.2, Mi.mono (s4_lot_9_0) (fun r2 h2 hp => ⟨hp.1.trans (Eq.trans (congrArg nI zl_9_0) hq.1.symm), _, hp.2, h⟩)⟩)
          · rcases (by omega : j = 1 ∨ j = 2 ∨ j = 3 ∨ j = 4 ∨ j = 5 ∨ j = 6 ∨ j = 7 ∨ j = 8 ∨ j = 9) with rfl | rfl | rfl | rfl | rfl | rfl | rfl | rfl | rfl
            · skip
              exact Mi.mono (s3_lot_1 hj1 hj (pa := 1) (by decide)) (fun r h1 hq => ⟨_, hq.2, Mi.mono (s4_lot_1_1) (fun r2 h2 hp => ⟨hp.1.trans (Eq.trans (congrArg nI zl_1_1) hq.1.symm), _, hp.2, h⟩)⟩)
            · skip
              exact Mi.mono (s3_lot_1 hj1 hj (pa := 1) (by decide)) (fun r h1 hq => ⟨_, hq.2, Mi.mono (s4_lot_2_1) (fun r2 h2 hp => ⟨hp.1.trans (Eq.trans (congrArg nI zl_2_1) hq.1.symm), _, hp.2, h⟩)⟩)
            · skip
              exact Mi.mono (s3_lot_1 hj1 hj (pa := 1) (by decide)) (fun r h1 hq => ⟨_, hq.2, Mi.mono (s4_lot_3_1) (fun r2 h2 hp => ⟨hp.1.trans (Eq.trans (congrArg nI zl_3_1) hq.1.symm), _, hp.2, h⟩)⟩)
            · skip
              exact Mi.mono (s3_lot_1 hj1 hj (pa := 1) (by decide)) (fun r h1 hq => ⟨_, hq.2, Mi.mono (s4_lot_4_1) (fun r2 h2 hp => ⟨hp.1.trans (Eq.trans (congrArg nI zl_4_1) hq.1.symm), _, hp.2, h⟩)⟩)
            · skip
              exact Mi.mono (s3_lot_1 hj1 hj (pa := 1) (by decide)) (fun r h1 hq => ⟨_, hq.2, Mi.mono (s4_lot_5_1) (fun r2 h2 hp => ⟨hp.1.trans (Eq.trans (congrArg nI zl_5_1) hq.1.symm), _, hp.2, h⟩)⟩)
            · skip
              exact Mi.mono (s3_lot_1 hj1 hj (pa := 1) (by decide)) (fun r h1 hq => ⟨_, hq.2, Mi.mono (s4_lot_6_1) (fun r2 h2 hp => ⟨hp.1.trans (Eq.trans (congrArg nI zl_6_1) hq.1.symm), _, hp.2, h⟩)⟩)
            · skip
              exact Mi.mono (s3_lot_1 hj1 hj (pa := 1) (by decide)) (fun r h1 hq => ⟨_, hq.2, Mi.mono (s4_lot_7_1) (fun r2 h2 hp => ⟨hp.1.trans (Eq.trans (congrArg nI zl_7_1) hq.1.symm), _, hp.2, h⟩)⟩)
            · skip
              exact Mi.mono (s3_lot_1 hj1 hj (pa := 1) (by decide)) (fun r h1 hq => ⟨_, hq.2, Mi.mono (s4_lot_8_1) (fun r2 h2 hp => ⟨hp.1.trans (Eq.trans (congrArg nI zl_8_1) hq.1.symm), _, hp.2, h⟩)⟩)
            · skip
              exact Mi.mono (s3_lot_1 hj1 hj (pa := 1) (by decide)) (fun r h1 hq => ⟨_, hq.2, Mi.mono (s4_lot_9_1) (fun r2 h2 hp => ⟨hp.1.trans (Eq.trans (congrArg nI zl_9_1) hq.1.symm), _, hp.2, h⟩)⟩)
set_option maxHeartbeats 1000000 in
set_option maxRecDepth 100000 in
theorem b_seeds {t : zMod} {u : zCls} (h : zINV t u) (n : Int32) (z : Int32) : zBoth mX3_seeds mX4_seeds 8 9 [.int n, .int z] t u := by
  have hm := h.mOk
  obtain ⟨i1, i2, i3, i4, i5, i6, i7, i8⟩ := id h
  obtain ⟨a1, a2, a3, a4, a5, a6⟩ := id i1
  obtain ⟨b1, b2, b3, b4, b5, b6, b7⟩ := id a6
  obtain ⟨n1, n2, n3, n4⟩ := id i2
  have hc := i1.cT
  have ho := i1.ok
  have hk9 : tg_keys (cg_now u) ≤ 10 := by rw [← b2]; exact a3
  rcases zsp4 n (a := 1) (n := 20) (by decide) (by decide) with hn | ⟨h0, hn⟩ | ⟨j, hj1, hj, rfl⟩
  · skip
    exact Mi.mono (s3_seeds_b hn) (fun r h1 hq => ⟨_, hq.2, Mi.mono (s4_seeds_b hn) (fun r2 h2 hp => ⟨hp.1.trans hq.1.symm, _, hp.2, i1, i2, i3, i4, i5, i6, zre i7 4, i8⟩)⟩)
  · skip
    exact Mi.mono (s3_seeds_r h0 hn) (fun r h1 hq => ⟨_, hq.2, Mi.mono (s4_seeds_r h0 hn) (fun r2 h2 hp => ⟨hp.1.trans hq.1.symm, _, hp.2, i1, i2, i3, i4, i5, i6, zre i7 6, i8⟩)⟩)
  · skip
    refine Mi.mono (s3_seeds_k hc i8 hj1 hj) (fun r h1 hq => ?_)
    obtain ⟨M', R', D', q1, q2, q3⟩ := hq
    refine ⟨_, q1, Mi.mono (s4_seeds_k hm hj1 hj) (fun r2 h2 hp => ?_)⟩
    obtain ⟨O', P', p1, p2, p3, p4⟩ := hp
    exact ⟨p2.trans (Eq.trans (by rw [n1, n2, sSeed_t i1]; exact congrArg (fun k => nI (zss (tSeedV (sTw (mg_s t))) k z j).1) (show mg_s t 0 = tg_people (sTw (mg_s t)) from rfl)) q2.symm), _, p1, i1, ⟨n1, n2, p3, p4⟩, i3, i4, i5, i6, i7, q3⟩
set_option maxHeartbeats 1000000 in
set_option maxRecDepth 100000 in
theorem b_image {t : zMod} {u : zCls} (h : zINV t u)  : zBoth mX3_image mX4_image 4 4 [] t u := by
  have hm := h.mOk
  obtain ⟨i1, i2, i3, i4, i5, i6, i7, i8⟩ := id h
  obtain ⟨a1, a2, a3, a4, a5, a6⟩ := id i1
  obtain ⟨b1, b2, b3, b4, b5, b6, b7⟩ := id a6
  obtain ⟨n1, n2, n3, n4⟩ := id i2
  have hc := i1.cT
  have ho := i1.ok
  have hk9 : tg_keys (cg_now u) ≤ 10 := by rw [← b2]; exact a3
  exact Mi.mono (s3_image ho) (fun r h1 hq => ⟨_, hq.2, Mi.mono (s4_image hm) (fun r2 h2 hp => ⟨hp.1.trans (Eq.trans (congrArg nI b1) hq.1.symm), _, hp.2, i1, i2, i3, ⟨fun i => by show zcp (mg_s t) (mg_im t) 64 i ≤ 1000; unfold zcp; split; exact a1 i; exact i4.1 i, Or.inr ⟨rfl, rfl, zTo_copy i1 i4.1⟩⟩, i5, i6, i7, i8⟩)⟩)
set_option maxHeartbeats 1000000 in
set_option maxRecDepth 100000 in
theorem b_on {t : zMod} {u : zCls} (h : zINV t u)  : zBoth mX3_on mX4_on 4 4 [] t u := by
  have hm := h.mOk
  obtain ⟨i1, i2, i3, i4, i5, i6, i7, i8⟩ := id h
  obtain ⟨a1, a2, a3, a4, a5, a6⟩ := id i1
  obtain ⟨b1, b2, b3, b4, b5, b6, b7⟩ := id a6
  obtain ⟨n1, n2, n3, n4⟩ := id i2
  have hc := i1.cT
  have ho := i1.ok
  have hk9 : tg_keys (cg_now u) ≤ 10 := by rw [← b2]; exact a3
  rcases i4.2 with ⟨e1, e2⟩ | ⟨e1, e2, e3⟩
  · skip
    exact Mi.mono (s3_on_n e2) (fun r h1 hq => ⟨_, hq.2, Mi.mono (s4_on_n e1) (fun r2 h2 hp => ⟨hp.1.trans hq.1.symm, _, hp.2, i1, i2, i3, i4, i5, i6, zre i7 3, i8⟩)⟩)
  · skip
    exact Mi.mono (s3_on_k e2 e3.ok.2.2.2.2.1) (fun r h1 hq => ⟨_, hq.2, Mi.mono (s4_on_k e1) (fun r2 h2 hp => ⟨hp.1.trans (Eq.trans (congrArg nI e3.2.2.2.2.2.1) hq.1.symm), _, hp.2, zTo_copy e3 a1, i2, i3, i4, i5, i6, i7, i8⟩)⟩)
set_option maxHeartbeats 1000000 in
set_option maxRecDepth 100000 in
theorem b_count {t : zMod} {u : zCls} (h : zINV t u) (x : Int32) : zBoth mX3_count mX4_count 2 4 [.int x] t u := by
  have hm := h.mOk
  obtain ⟨i1, i2, i3, i4, i5, i6, i7, i8⟩ := id h
  obtain ⟨a1, a2, a3, a4, a5, a6⟩ := id i1
  obtain ⟨b1, b2, b3, b4, b5, b6, b7⟩ := id a6
  obtain ⟨n1, n2, n3, n4⟩ := id i2
  have hc := i1.cT
  have ho := i1.ok
  have hk9 : tg_keys (cg_now u) ≤ 10 := by rw [← b2]; exact a3
  rcases zsw x 16 (by decide) with hx | ⟨k, hk, rfl⟩
  · have g1 : x ≤ nI 10 ∨ nI 17 ≤ x := by
      rcases hx with z | z
      · left
        rw [Int32.le_iff_toInt_le, nI_toInt (by omega)]
        omega
      · right
        rw [Int32.le_iff_toInt_le, nI_toInt (by omega)]
        omega
    have g2 : x.toInt < 0 ∨ 6 < x.toInt := by omega
    exact Mi.mono (s3_count_o g1 g2) (fun r h1 hq => ⟨_, hq.2, Mi.mono (s4_count_o g1 g2) (fun r2 h2 hp => ⟨hp.1.trans hq.1.symm, _, hp.2, h⟩)⟩)
  · rcases (by omega : k = 0 ∨ k = 1 ∨ k = 2 ∨ k = 3 ∨ k = 4 ∨ k = 5 ∨ k = 6 ∨ k = 7 ∨ k = 8 ∨ k = 9 ∨ k = 10 ∨ k = 11 ∨ k = 12 ∨ k = 13 ∨ k = 14 ∨ k = 15 ∨ k = 16) with rfl | rfl | rfl | rfl | rfl | rfl | rfl | rfl | rfl | rfl | rfl | rfl | rfl | rfl | rfl | rfl | rfl
    · skip
      exact Mi.mono (s3_count_0 ho) (fun r h1 hq => ⟨_, hq.2, Mi.mono (s4_count_0) (fun r2 h2 hp => ⟨hp.1.trans (Eq.trans (congrArg nI b1) hq.1.symm), _, hp.2, h⟩)⟩)
    · skip
      exact Mi.mono (s3_count_1 ho) (fun r h1 hq => ⟨_, hq.2, Mi.mono (s4_count_1) (fun r2 h2 hp => ⟨hp.1.trans (Eq.trans (congrArg nI b2) hq.1.symm), _, hp.2, h⟩)⟩)
    · skip
      exact Mi.mono (s3_count_2 ho) (fun r h1 hq => ⟨_, hq.2, Mi.mono (s4_count_2) (fun r2 h2 hp => ⟨hp.1.trans (Eq.trans (congrArg nI b3) hq.1.symm), _, hp.2, h⟩)⟩)
    · skip
      exact Mi.mono (s3_count_3 ho) (fun r h1 hq => ⟨_, hq.2, Mi.mono (s4_count_3) (fun r2 h2 hp => ⟨hp.1.trans (Eq.trans (congrArg nI b4) hq.1.symm), _, hp.2, h⟩)⟩)
    · skip
      exact Mi.mono (s3_count_4 ho) (fun r h1 hq => ⟨_, hq.2, Mi.mono (s4_count_4) (fun r2 h2 hp => ⟨hp.1.trans (Eq.trans (congrArg nI b5) hq.1.symm), _, hp.2, h⟩)⟩)
    · skip
      exact Mi.mono (s3_count_5 ho) (fun r h1 hq => ⟨_, hq.2, Mi.mono (s4_count_5) (fun r2 h2 hp => ⟨hp.1.trans (Eq.trans (congrArg nI i6.1) hq.1.symm), _, hp.2, h⟩)⟩)
    · skip
      exact Mi.mono (s3_count_6 ho) (fun r h1 hq => ⟨_, hq.2, Mi.mono (s4_count_6) (fun r2 h2 hp => ⟨hp.1.trans (Eq.trans (congrArg nI i5.1) hq.1.symm), _, hp.2, h⟩)⟩)
    · skip
      exact Mi.mono (s3_count_o (Or.inl (nI_le (by decide) (by decide))) (Or.inr (by decide))) (fun r h1 hq => ⟨_, hq.2, Mi.mono (s4_count_o (Or.inl (nI_le (by decide) (by decide))) (Or.inr (by decide))) (fun r2 h2 hp => ⟨hp.1.trans hq.1.symm, _, hp.2, h⟩)⟩)
    · skip
      exact Mi.mono (s3_count_o (Or.inl (nI_le (by decide) (by decide))) (Or.inr (by decide))) (fun r h1 hq => ⟨_, hq.2, Mi.mono (s4_count_o (Or.inl (nI_le (by decide) (by decide))) (Or.inr (by decide))) (fun r2 h2 hp => ⟨hp.1.trans hq.1.symm, _, hp.2, h⟩)⟩)
    · skip
      exact Mi.mono (s3_count_o (Or.inl (nI_le (by decide) (by decide))) (Or.inr (by decide))) (fun r h1 hq => ⟨_, hq.2, Mi.mono (s4_count_o (Or.inl (nI_le (by decide) (by decide))) (Or.inr (by decide))) (fun r2 h2 hp => ⟨hp.1.trans hq.1.symm, _, hp.2, h⟩)⟩)
    · skip
      exact Mi.mono (s3_count_o (Or.inl (nI_le (by decide) (by decide))) (Or.inr (by decide))) (fun r h1 hq => ⟨_, hq.2, Mi.mono (s4_count_o (Or.inl (nI_le (by decide) (by decide))) (Or.inr (by decide))) (fun r2 h2 hp => ⟨hp.1.trans hq.1.symm, _, hp.2, h⟩)⟩)
    · skip
      exact Mi.mono (s3_count_11) (fun r h1 hq => ⟨_, hq.2, Mi.mono (s4_count_11) (fun r2 h2 hp => ⟨hp.1.trans (Eq.trans (congrArg nI (congrFun i7 (11 - 10))) hq.1.symm), _, hp.2, h⟩)⟩)
    · skip
      exact Mi.mono (s3_count_12) (fun r h1 hq => ⟨_, hq.2, Mi.mono (s4_count_12) (fun r2 h2 hp => ⟨hp.1.trans (Eq.trans (congrArg nI (congrFun i7 (12 - 10))) hq.1.symm), _, hp.2, h⟩)⟩)
    · skip
      exact Mi.mono (s3_count_13) (fun r h1 hq => ⟨_, hq.2, Mi.mono (s4_count_13) (fun r2 h2 hp => ⟨hp.1.trans (Eq.trans (congrArg nI (congrFun i7 (13 - 10))) hq.1.symm), _, hp.2, h⟩)⟩)
    · skip
      exact Mi.mono (s3_count_14) (fun r h1 hq => ⟨_, hq.2, Mi.mono (s4_count_14) (fun r2 h2 hp => ⟨hp.1.trans (Eq.trans (congrArg nI (congrFun i7 (14 - 10))) hq.1.symm), _, hp.2, h⟩)⟩)
    · skip
      exact Mi.mono (s3_count_15) (fun r h1 hq => ⟨_, hq.2, Mi.mono (s4_count_15) (fun r2 h2 hp => ⟨hp.1.trans (Eq.trans (congrArg nI (congrFun i7 (15 - 10))) hq.1.symm), _, hp.2, h⟩)⟩)
    · skip
      exact Mi.mono (s3_count_16) (fun r h1 hq => ⟨_, hq.2, Mi.mono (s4_count_16) (fun r2 h2 hp => ⟨hp.1.trans (Eq.trans (congrArg nI (congrFun i7 (16 - 10))) hq.1.symm), _, hp.2, h⟩)⟩)

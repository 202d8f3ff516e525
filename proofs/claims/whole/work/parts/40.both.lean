/-! BOTH SIDES: the row S and the town X are the same town -/
def zTo (S : Nat → Nat) (X : zTown) : Prop := (∀ i, S i ≤ 1000) ∧ S 0 ≤ 7 ∧ S 1 ≤ 10 ∧ tOk (sTw S) ∧ tKeys (sTw S) ∧ tEq (sTw S) X
theorem zTo.cT {S : Nat → Nat} {X : zTown} (h : zTo S X) : cT X (sTw S) := ⟨h.2.2.2.2.2, h.2.2.2.1, h.2.2.2.2.1, h.2.2.1⟩
theorem zTo.sOk {S : Nat → Nat} {X : zTown} (h : zTo S X) : sOk S := ⟨h.1, h.2.1, Nat.le_trans h.2.2.1 (by decide)⟩
theorem zTo.ok {S : Nat → Nat} {X : zTown} (h : zTo S X) : tOk X := h.2.2.2.2.2.ok h.2.2.2.1
theorem zTo_of {S : Nat → Nat} {X T : zTown} (hs : ∀ i, S i ≤ 1000) (hT : tOk T) (hK : tKeys T) (hk : tg_keys T ≤ 10) (h1 : tEq T (sTw S)) (h2 : tEq T X) : zTo S X := by
  have e0 : tg_people T = S 0 := h1.1
  have e1 : tg_keys T = S 1 := h1.2.1
  exact ⟨hs, by rw [← e0]; exact hT.1, by rw [← e1]; exact hk, h1.ok hT, h1.keys hK, h1.symm.trans h2⟩
theorem zTo.eq {S : Nat → Nat} {X Y : zTown} (h : zTo S X) (he : tEq X Y) : zTo S Y := ⟨h.1, h.2.1, h.2.2.1, h.2.2.2.1, h.2.2.2.2.1, h.2.2.2.2.2.trans he⟩
theorem zTo.row {S S' : Nat → Nat} {X : zTown} (h : zTo S X) (hs : ∀ i, S' i ≤ 1000) (he : tEq (sTw S) (sTw S')) : zTo S' X := zTo_of hs h.2.2.2.1 h.2.2.2.2.1 h.2.2.1 he h.2.2.2.2.2
theorem zup_le {S : Nat → Nat} {k v : Nat} (h : ∀ i, S i ≤ 1000) (hv : v ≤ 1000) (i : Nat) : va_up S k v i ≤ 1000 := by
  unfold va_up
  split
  · exact hv
  · exact h i
/-- the same towns: rows alike where it counts -/
theorem sTw_eq {S S' : Nat → Nat} (h0 : S 0 ≤ 7) (h : ∀ i, i < 5 → S' i = S i) (hp : ∀ p k, p < S 0 → k < 5 → S' (5 + 5 * p + k) = S (5 + 5 * p + k)) (hk : ∀ k, k < S 1 → S' (40 + 2 * k) = S (40 + 2 * k) ∧ S' (40 + 2 * k + 1) = S (40 + 2 * k + 1)) : tEq (sTw S) (sTw S') :=
  ⟨(h 0 (by omega)).symm, (h 1 (by omega)).symm, (h 2 (by omega)).symm, (h 3 (by omega)).symm, (h 4 (by omega)).symm, fun p hpp => ⟨(hp p 0 hpp (by omega)).symm, (hp p 1 hpp (by omega)).symm, (hp p 2 hpp (by omega)).symm, (hp p 3 hpp (by omega)).symm, (hp p 4 hpp (by omega)).symm⟩, fun k hkk => ⟨(hk k hkk).1.symm, (hk k hkk).2.symm⟩⟩
theorem sTw_of {S' : Nat → Nat} {T : zTown} (h0 : S' 0 = tg_people T) (h1 : S' 1 = tg_keys T) (h2 : S' 2 = tg_watch T) (h3 : S' 3 = tg_pace T) (h4 : S' 4 = tg_ring T) (hp : ∀ p, p < tg_people T → S' (5 + 5 * p + 0) = tg_kind T p ∧ S' (5 + 5 * p + 1) = tg_wakes T p ∧ S' (5 + 5 * p + 2) = tg_takes T p ∧ S' (5 + 5 * p + 3) = tg_due T p ∧ S' (5 + 5 * p + 4) = tg_cost T p) (hk : ∀ k, k < tg_keys T → S' (40 + 2 * k) = tg_door T k ∧ S' (40 + 2 * k + 1) = tg_held T k) : tEq T (sTw S') :=
  ⟨h0.symm, h1.symm, h2.symm, h3.symm, h4.symm, fun p hpp => by
    obtain ⟨i1, i2, i3, i4, i5⟩ := hp p hpp
    exact ⟨i1.symm, i2.symm, i3.symm, i4.symm, i5.symm⟩, fun k hkk => ⟨(hk k hkk).1.symm, (hk k hkk).2.symm⟩⟩
/-! give -/
def tGive (T : zTown) (v x : Nat) : zTown := (tg_kind T, tg_wakes T, tg_takes T, tg_due T, tg_cost T, tg_people T, tg_door T, va_up (tg_held T) v x, tg_keys T, tg_watch T, tg_pace T, tg_ring T)
theorem zTo_give {S : Nat → Nat} {X : zTown} {v x : Nat} (h : zTo S X) (hv : v < S 1) (hx : x < S 0) : zTo (va_up S (40 + 2 * v + 1) x) (tGive X v x) := by
  obtain ⟨a1, a2, a3, a4, a5, a6⟩ := h
  obtain ⟨b1, b2, b3, b4, b5, b6, b7⟩ := a6
  have e0 : tg_people (sTw S) = S 0 := rfl
  have e1 : tg_keys (sTw S) = S 1 := rfl
  refine zTo_of (T := tGive (sTw S) v x) (zup_le a1 (by omega)) a4 (fun k hk => ⟨(a5 k hk).1, ?_⟩) a3 (sTw_of (zu_n (by omega)) (zu_n (by omega)) (zu_n (by omega)) (zu_n (by omega)) (zu_n (by omega)) (fun p hp => ?_) (fun k hk => ?_)) ⟨b1, b2, b3, b4, b5, b6, fun k hk => ⟨(b7 k hk).1, ?_⟩⟩
  · show va_up (fun k => S (40 + 2 * k + 1)) v x k < S 0
    by_cases e : k = v
    · rw [e, zu_s]; exact hx
    · rw [zu_n e]; exact (a5 k hk).2
  · have hp2 : p < S 0 := hp
    exact ⟨zu_n (by omega), zu_n (by omega), zu_n (by omega), zu_n (by omega), zu_n (by omega)⟩
  · refine ⟨zu_n (by omega), ?_⟩
    show va_up S (40 + 2 * v + 1) x (40 + 2 * k + 1) = va_up (fun k => S (40 + 2 * k + 1)) v x k
    by_cases e : k = v
    · rw [e, zu_s, zu_s]
    · rw [zu_n e, zu_n (by omega)]
  · show va_up (fun k => S (40 + 2 * k + 1)) v x k = va_up (tg_held X) v x k
    by_cases e : k = v
    · rw [e, zu_s, zu_s]
    · rw [zu_n e, zu_n e]; exact (b7 k hk).2
/-! a key more -/
theorem tAdd_eqS {S : Nat → Nat} {d0 p0 : Nat} (h0 : S 0 ≤ 7) (h1 : S 1 ≤ 11) : tEq (tAdd (sTw S) d0 p0) (sTw (sAdd S d0 p0)) := by
  refine sTw_of (sAdd_o (by omega) (by omega) (by omega)) (sAdd_1 _ _ _) (sAdd_o (by omega) (by omega) (by omega)) (sAdd_o (by omega) (by omega) (by omega)) (sAdd_o (by omega) (by omega) (by omega)) (fun p hp => ?_) (fun k hk => ?_)
  · have hp2 : p < S 0 := hp
    exact ⟨sAdd_o (by omega) (by omega) (by omega), sAdd_o (by omega) (by omega) (by omega), sAdd_o (by omega) (by omega) (by omega), sAdd_o (by omega) (by omega) (by omega), sAdd_o (by omega) (by omega) (by omega)⟩
  · have hk2 : k < S 1 + 1 := hk
    show sAdd S d0 p0 (40 + 2 * k) = va_up (fun k => S (40 + 2 * k)) (S 1) d0 k ∧ sAdd S d0 p0 (40 + 2 * k + 1) = va_up (fun k => S (40 + 2 * k + 1)) (S 1) p0 k
    by_cases e : k = S 1
    · rw [e, zu_s, zu_s, sAdd_d, sAdd_h]; exact ⟨rfl, rfl⟩
    · rw [zu_n e, zu_n e, sAdd_o (by omega) (by omega) (by omega), sAdd_o (by omega) (by omega) (by omega)]; exact ⟨rfl, rfl⟩
theorem tAdd_eqT {T X : zTown} {d0 p0 : Nat} (he : tEq T X) : tEq (tAdd T d0 p0) (tAdd X d0 p0) := by
  obtain ⟨b1, b2, b3, b4, b5, b6, b7⟩ := he
  refine ⟨b1, congrArg (· + 1) b2, b3, b4, b5, b6, fun k hk => ?_⟩
  have hk2 : k < tg_keys T + 1 := hk
  show va_up (tg_door T) (tg_keys T) d0 k = va_up (tg_door X) (tg_keys X) d0 k ∧ va_up (tg_held T) (tg_keys T) p0 k = va_up (tg_held X) (tg_keys X) p0 k
  rw [← b2]
  by_cases e : k = tg_keys T
  · rw [e, zu_s, zu_s, zu_s, zu_s]; exact ⟨rfl, rfl⟩
  · rw [zu_n e, zu_n e, zu_n e, zu_n e]; exact b7 k (by omega)
theorem tAdd_keys {T : zTown} {d0 p0 : Nat} (h : tKeys T) (hd : d0 < tg_people T) (hp : p0 < tg_people T) : tKeys (tAdd T d0 p0) := fun k hk => by
  have hk2 : k < tg_keys T + 1 := hk
  show va_up (tg_door T) (tg_keys T) d0 k < tg_people T ∧ va_up (tg_held T) (tg_keys T) p0 k < tg_people T
  by_cases e : k = tg_keys T
  · rw [e, zu_s, zu_s]; exact ⟨hd, hp⟩
  · rw [zu_n e, zu_n e]; exact h k (by omega)
theorem sAdd_le {S : Nat → Nat} {a b : Nat} (h : ∀ i, S i ≤ 1000) (h1 : S 1 ≤ 11) (ha : a ≤ 1000) (hb : b ≤ 1000) : ∀ i, sAdd S a b i ≤ 1000 := fun i => zup_le (zup_le (zup_le h ha) hb) (by omega) i
theorem zTo_cast {S : Nat → Nat} {X : zTown} {v x : Nat} (h : zTo S X) (hv : v < S 0) (hx : x < S 0) (hf : S 1 < 10) : zTo (sAdd S v x) (tAdd X v x) := by
  obtain ⟨a1, a2, a3, a4, a5, a6⟩ := h
  exact zTo_of (T := tAdd (sTw S) v x) (sAdd_le a1 (by omega) (by omega) (by omega)) (tAdd_ok a4 (show S 1 ≤ 11 by omega)) (tAdd_keys a5 hv hx) (show S 1 + 1 ≤ 10 by omega) (tAdd_eqS a2 (by omega)) (tAdd_eqT a6)
/-! a key less -/
theorem tDrop_eqS {S : Nat → Nat} {k0 : Nat} (h0 : S 0 ≤ 7) (hk : k0 < S 1) : tEq (tDrop (sTw S) k0) (sTw (sDrop S k0)) := by
  refine ⟨?_, ?_, ?_, ?_, ?_, fun p hp => ?_, fun k hkk => ?_⟩
  · show S 0 = sDrop S k0 0
    unfold sDrop
    rw [if_neg (by omega), if_neg (by omega)]
  · show S 1 - 1 = sDrop S k0 1
    unfold sDrop
    rw [if_pos rfl]
  · show S 2 = sDrop S k0 2
    unfold sDrop
    rw [if_neg (by omega), if_neg (by omega)]
  · show S 3 = sDrop S k0 3
    unfold sDrop
    rw [if_neg (by omega), if_neg (by omega)]
  · show S 4 = sDrop S k0 4
    unfold sDrop
    rw [if_neg (by omega), if_neg (by omega)]
  · have hp2 : p < S 0 := hp
    have h9 : ∀ j, j < 5 → S (5 + 5 * p + j) = sDrop S k0 (5 + 5 * p + j) := fun j hj => by
      unfold sDrop
      rw [if_neg (by omega), if_neg (by omega)]
    exact ⟨h9 0 (by omega), h9 1 (by omega), h9 2 (by omega), h9 3 (by omega), h9 4 (by omega)⟩
  · have hk2 : k < S 1 - 1 := hkk
    show zdp (fun k => S (40 + 2 * k)) k0 (S 1) k = sDrop S k0 (40 + 2 * k) ∧ zdp (fun k => S (40 + 2 * k + 1)) k0 (S 1) k = sDrop S k0 (40 + 2 * k + 1)
    unfold zdp sDrop
    rw [if_neg (show ¬ 40 + 2 * k = 1 by omega), if_neg (show ¬ 40 + 2 * k + 1 = 1 by omega)]
    by_cases e : k0 ≤ k
    · rw [if_pos (show k0 ≤ k ∧ k + 1 < S 1 by omega), if_pos (show k0 ≤ k ∧ k + 1 < S 1 by omega), if_pos (show 40 + 2 * k0 ≤ 40 + 2 * k ∧ 40 + 2 * k < 40 + 2 * S 1 - 2 by omega), if_pos (show 40 + 2 * k0 ≤ 40 + 2 * k + 1 ∧ 40 + 2 * k + 1 < 40 + 2 * S 1 - 2 by omega)]
      exact ⟨congrArg S (by omega), congrArg S (by omega)⟩
    · rw [if_neg (show ¬ (k0 ≤ k ∧ k + 1 < S 1) by omega), if_neg (show ¬ (k0 ≤ k ∧ k + 1 < S 1) by omega), if_neg (show ¬ (40 + 2 * k0 ≤ 40 + 2 * k ∧ 40 + 2 * k < 40 + 2 * S 1 - 2) by omega), if_neg (show ¬ (40 + 2 * k0 ≤ 40 + 2 * k + 1 ∧ 40 + 2 * k + 1 < 40 + 2 * S 1 - 2) by omega)]
      exact ⟨rfl, rfl⟩
theorem zTo_lose {S : Nat → Nat} {X : zTown} {v : Nat} (h : zTo S X) (hv : v < S 1) : zTo (sDrop S v) (tDrop X v) := by
  obtain ⟨a1, a2, a3, a4, a5, a6⟩ := h
  exact zTo_of (T := tDrop (sTw S) v) (sDrop_le a1) (tDrop_ok a4) (tDrop_keys a5) (show S 1 - 1 ≤ 10 by omega) (tDrop_eqS a2 hv) (tDrop_eq a6)
/-! watchers, wakes, walk -/
theorem tWt_eqS {S : Nat → Nat} {v : Nat} (h0 : S 0 ≤ 7) : tEq (tWt (sTw S) v) (sTw (va_up S 2 v)) :=
  sTw_of (zu_n (by omega)) (zu_n (by omega)) zu_s (zu_n (by omega)) (zu_n (by omega)) (fun p hp => ⟨zu_n (by omega), zu_n (by omega), zu_n (by omega), zu_n (by omega), zu_n (by omega)⟩) (fun k hk => ⟨zu_n (by omega), zu_n (by omega)⟩)
theorem tWt_eqT {T X : zTown} {v : Nat} (he : tEq T X) : tEq (tWt T v) (tWt X v) := ⟨he.1, he.2.1, rfl, he.2.2.2.1, he.2.2.2.2.1, he.2.2.2.2.2.1, he.2.2.2.2.2.2⟩
theorem zTo_watch {S : Nat → Nat} {X : zTown} {v : Nat} (h : zTo S X) (hv : v ≤ 2 ^ S 0 - 1) : zTo (va_up S 2 v) (tWt X v) := by
  obtain ⟨a1, a2, a3, a4, a5, a6⟩ := h
  have h1 := Nat.two_pow_pos (S 0)
  have h2 : 2 ^ S 0 ≤ 2 ^ 7 := Nat.pow_le_pow_right (by omega) a2
  exact zTo_of (T := tWt (sTw S) v) (zup_le a1 (by omega)) (tWt_ok a4 (show v < 2 ^ S 0 by omega)) a5 a3 (tWt_eqS a2) (tWt_eqT a6)
def tWake (T : zTown) (v x : Nat) : zTown := tWk T (va_up (tg_wakes T) v x)
theorem tWk_eqT {T X : zTown} {f g : Nat → Nat} (he : tEq T X) (h : ∀ p, p < tg_people T → f p = g p) : tEq (tWk T f) (tWk X g) := by
  obtain ⟨b1, b2, b3, b4, b5, b6, b7⟩ := he
  refine ⟨b1, b2, b3, b4, b5, fun p hp => ?_, b7⟩
  obtain ⟨i1, i2, i3, i4, i5⟩ := b6 p hp
  exact ⟨i1, h p hp, i3, i4, i5⟩
theorem tWk_eqS {S S' f : Nat → Nat} (h0 : S 0 ≤ 7) (h : ∀ i, i < 5 → S' i = S i) (hp : ∀ p, p < S 0 → S' (5 + 5 * p + 0) = S (5 + 5 * p + 0) ∧ S' (5 + 5 * p + 1) = f p ∧ S' (5 + 5 * p + 2) = S (5 + 5 * p + 2) ∧ S' (5 + 5 * p + 3) = S (5 + 5 * p + 3) ∧ S' (5 + 5 * p + 4) = S (5 + 5 * p + 4)) (hk : ∀ k, k < S 1 → S' (40 + 2 * k) = S (40 + 2 * k) ∧ S' (40 + 2 * k + 1) = S (40 + 2 * k + 1)) : tEq (tWk (sTw S) f) (sTw S') :=
  ⟨(h 0 (by omega)).symm, (h 1 (by omega)).symm, (h 2 (by omega)).symm, (h 3 (by omega)).symm, (h 4 (by omega)).symm, fun p hpp => by
    obtain ⟨i1, i2, i3, i4, i5⟩ := hp p hpp
    exact ⟨i1.symm, i2.symm, i3.symm, i4.symm, i5.symm⟩, fun k hkk => ⟨(hk k hkk).1.symm, (hk k hkk).2.symm⟩⟩
theorem zTo_wake {S : Nat → Nat} {X : zTown} {v x : Nat} (h : zTo S X) (hv : v < S 0) (hx : x ≤ 99) : zTo (va_up S (5 + 5 * v + 1) x) (tWake X v x) := by
  obtain ⟨a1, a2, a3, a4, a5, a6⟩ := h
  have hw : ∀ p, p < S 0 → (sTw S).2.1 p ≤ 99 := fun p hp => (a4.2.2.2.2.2 p hp).2.1
  refine zTo_of (T := tWk (sTw S) (fun p => va_up S (5 + 5 * v + 1) x (5 + 5 * p + 1))) (zup_le a1 (by omega)) (tWk_ok a4 (fun p hp => ?_)) a5 a3 (tWk_eqS a2 (fun i hi => zu_n (by omega)) (fun p hp => ⟨zu_n (by omega), rfl, zu_n (by omega), zu_n (by omega), zu_n (by omega)⟩) (fun k hk => ⟨zu_n (by omega), zu_n (by omega)⟩)) (tWk_eqT a6 (fun p hp => ?_))
  · by_cases e : p = v
    · rw [e, zu_s]; exact hx
    · rw [zu_n (by omega)]; exact hw p hp
  · by_cases e : p = v
    · rw [e, zu_s, zu_s]
    · rw [zu_n (by omega), zu_n e]
      exact (a6.2.2.2.2.2.1 p hp).2.1
theorem tPace_eqS {S : Nat → Nat} {v : Nat} (h0 : S 0 ≤ 7) : tEq (tPace (sTw S) v) (sTw (va_up S 3 v)) :=
  sTw_of (zu_n (by omega)) (zu_n (by omega)) (zu_n (by omega)) zu_s (zu_n (by omega)) (fun p hp => ⟨zu_n (by omega), zu_n (by omega), zu_n (by omega), zu_n (by omega), zu_n (by omega)⟩) (fun k hk => ⟨zu_n (by omega), zu_n (by omega)⟩)
theorem tPace_eqT {T X : zTown} {v : Nat} (he : tEq T X) : tEq (tPace T v) (tPace X v) := ⟨he.1, he.2.1, he.2.2.1, rfl, he.2.2.2.2.1, he.2.2.2.2.2.1, he.2.2.2.2.2.2⟩
theorem zTo_walk {S : Nat → Nat} {X : zTown} {v : Nat} (h : zTo S X) (hv : v ≤ 9) : zTo (va_up S 3 v) (tPace X v) := by
  obtain ⟨a1, a2, a3, a4, a5, a6⟩ := h
  exact zTo_of (T := tPace (sTw S) v) (zup_le a1 (by omega)) ⟨a4.1, a4.2.1, by show v ≤ 1000; omega, a4.2.2.2.1, a4.2.2.2.2.1, a4.2.2.2.2.2⟩ a5 a3 (tPace_eqS a2) (tPace_eqT a6)
/-! the image; a row a little changed beyond its keys -/
theorem zTo_near {S X' : Nat → Nat} {X : zTown} {n : Nat} (h : zTo S X) (hn : sNear n S X') (hX : ∀ i, X' i ≤ 1000) : zTo X' X := by
  have a2 := h.2.1
  exact h.row hX (sTw_eq a2 (fun i hi => hn i (by omega)) (fun p k hp hk => hn _ (by omega)) (fun k hk => ⟨hn _ (by omega), hn _ (by omega)⟩))
theorem zTo_copy {S S2 : Nat → Nat} {X Y : zTown} (h : zTo S X) (hs : ∀ i, S2 i ≤ 1000) : zTo (zcp S S2 64) (zbec X Y) := by
  have a2 := h.2.1
  have a3 := h.2.2.1
  have hX7 : tg_people X ≤ 7 := by rw [← h.2.2.2.2.2.1]; exact a2
  have hX10 : tg_keys X ≤ 10 := by rw [← h.2.2.2.2.2.2.1]; exact a3
  refine (h.row (fun i => ?_) (sTw_eq a2 (fun i hi => zcp_lt (by omega)) (fun p k hp hk => zcp_lt (by omega)) (fun k hk => ⟨zcp_lt (by omega), zcp_lt (by omega)⟩))).eq (zbec_eq hX7 hX10)
  unfold zcp
  split
  · exact h.1 i
  · exact hs i
/-! TOGETHER: what holds between calls -/
def zINV (t : zMod) (u : zCls) : Prop := zTo (mg_s t) (cg_now u) ∧ (mg_br t = 0 ∧ mg_nw t = 0 ∧ (∀ i, mg_ou t i ≤ 1000000) ∧ ∀ i, mg_op t i ≤ 1000000) ∧ (∀ i, mg_rd t i ≤ 1000) ∧ ((∀ i, mg_im t i ≤ 1000) ∧ ((mg_ii t = 0 ∧ cg_im u = 0) ∨ (mg_ii t = 1 ∧ cg_im u = 1 ∧ zTo (mg_im t) (cg_kep u)))) ∧ (mg_ta t = cg_lc u ∧ mg_ta t ≤ 80 ∧ mg_tp t = cg_let u ∧ ∀ i, mg_tp t i ≤ 255) ∧ (mg_rc t = cg_sc u ∧ mg_rc t ≤ 7 ∧ mg_rw t = cg_se u ∧ ∀ i, mg_rw t i ≤ 1000) ∧ mg_re t = cg_re u ∧ ∀ i, cg_ms u i ≤ 2147483647
theorem zINV.mOk {t : zMod} {u : zCls} (h : zINV t u) : mOk t := ⟨h.1.sOk, by rw [h.2.1.1]; decide, by rw [h.2.1.2.1]; decide, h.2.1.2.2.1, h.2.1.2.2.2⟩
/-- an int is out of reach, or a number below n -/
theorem zsp (x : Int32) {n : Nat} (hn : n < 2 ^ 31) : (x < 0 ∨ nI n ≤ x) ∨ ∃ j : Nat, j < n ∧ x = nI j := by
  by_cases h : x < 0
  · exact Or.inl (Or.inl h)
  · obtain ⟨j, hj, rfl⟩ := nI_of h
    by_cases h2 : j < n
    · exact Or.inr ⟨j, h2, rfl⟩
    · exact Or.inl (Or.inr (nI_le (by omega) hj))
theorem zsp3 (x : Int32) {n : Nat} (hn : n < 2 ^ 31) : x < nI 0 ∨ (nI 0 ≤ x ∧ nI n < x) ∨ ∃ j : Nat, j ≤ n ∧ x = nI j := by
  by_cases h : x < 0
  · exact Or.inl h
  · obtain ⟨j, hj, rfl⟩ := nI_of h
    by_cases h2 : j ≤ n
    · exact Or.inr (Or.inr ⟨j, h2, rfl⟩)
    · exact Or.inr (Or.inl ⟨nI_le (by omega) hj, nI_lt (by omega) hj⟩)

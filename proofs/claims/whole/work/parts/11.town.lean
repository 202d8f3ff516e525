/-! A TOWN's morning, as both sides have it (never: 1000000) -/
def sTw (S : Nat → Nat) : zTown := (fun p => S (5 + 5 * p + 0), fun p => S (5 + 5 * p + 1), fun p => S (5 + 5 * p + 2), fun p => S (5 + 5 * p + 3), fun p => S (5 + 5 * p + 4), S 0, fun k => S (40 + 2 * k), fun k => S (40 + 2 * k + 1), S 1, S 2, S 3, S 4)
def tWay (T : zTown) : Nat → Nat → Nat := zway (tg_ring T) (tg_people T)
def tNd (T : zTown) (p : Nat) : Nat := zneed (tg_kind T p) (tg_takes T p)
def tPc (T : zTown) (p : Nat) : Nat := if tg_kind T p = 5 then 0 else tg_pace T
def tHd (T : zTown) (p d : Nat) : Bool := !(d == p) && zhold (tg_door T) (tg_held T) (tg_keys T) p d
def tUp (T : zTown) (p : Nat) : Nat := zup (tg_kind T p) (tg_wakes T p)
def tWin (T : zTown) (nw NV p : Nat) : Nat := if tg_kind T p = 3 ∧ nw = 0 then 60 + tg_wakes T p else NV
def tRun (T : zTown) (nw br : Nat) : Nat × (Nat → Nat) × (Nat → Nat) := zrun (tWay T) (tNd T) (tPc T) (tHd T) (tg_watch T).testBit (tUp T) (tWin T nw 1000000) 1000000 (tg_people T) (tg_people T) 0 (fun _ => 1000000) (sOp0 br (tg_people T) (fun _ => 1000000))
def tO (T : zTown) (nw br i : Nat) : Nat := if (tRun T nw br).1.testBit i = true then (tRun T nw br).2.1 i else 1000000
def tP (T : zTown) (nw br i : Nat) : Nat := (tRun T nw br).2.2 i
def tAll (T : zTown) (nw br : Nat) : Nat := zmx (tO T nw br) (tg_people T)
theorem sO_tO (S : Nat → Nat) (nw br i : Nat) : sO S nw br i = tO (sTw S) nw br i := rfl
theorem sP_tP (S : Nat → Nat) (nw br i : Nat) : sP S nw br i = tP (sTw S) nw br i := rfl
theorem sAll_tAll (S : Nat → Nat) (nw br : Nat) : sAll S nw br = tAll (sTw S) nw br := rfl
/-- what a town is at any time -/
def tOk (T : zTown) : Prop := tg_people T ≤ 7 ∧ tg_keys T ≤ 12 ∧ tg_pace T ≤ 1000 ∧ tg_watch T < 2 ^ tg_people T ∧ tg_ring T ≤ 1 ∧ ∀ p, p < tg_people T → tg_kind T p ≤ 5 ∧ tg_wakes T p ≤ 99 ∧ tg_takes T p ≤ 9 ∧ tg_due T p ≤ 999 ∧ tg_cost T p ≤ 9
def tKeys (T : zTown) : Prop := ∀ k, k < tg_keys T → tg_door T k < tg_people T ∧ tg_held T k < tg_people T
/-- the same town, as far as anybody looks -/
def tEq (T T' : zTown) : Prop := tg_people T = tg_people T' ∧ tg_keys T = tg_keys T' ∧ tg_watch T = tg_watch T' ∧ tg_pace T = tg_pace T' ∧ tg_ring T = tg_ring T' ∧ (∀ p, p < tg_people T → tg_kind T p = tg_kind T' p ∧ tg_wakes T p = tg_wakes T' p ∧ tg_takes T p = tg_takes T' p ∧ tg_due T p = tg_due T' p ∧ tg_cost T p = tg_cost T' p) ∧ ∀ k, k < tg_keys T → tg_door T k = tg_door T' k ∧ tg_held T k = tg_held T' k
theorem tEq.rfl' (T : zTown) : tEq T T := ⟨rfl, rfl, rfl, rfl, rfl, fun _ _ => ⟨rfl, rfl, rfl, rfl, rfl⟩, fun _ _ => ⟨rfl, rfl⟩⟩
theorem tEq.symm {T T' : zTown} (h : tEq T T') : tEq T' T := by
  obtain ⟨a, b, c, d, e, f, g⟩ := h
  refine ⟨a.symm, b.symm, c.symm, d.symm, e.symm, fun p hp => ?_, fun k hk => ?_⟩
  · obtain ⟨f1, f2, f3, f4, f5⟩ := f p (by omega)
    exact ⟨f1.symm, f2.symm, f3.symm, f4.symm, f5.symm⟩
  · obtain ⟨g1, g2⟩ := g k (by omega)
    exact ⟨g1.symm, g2.symm⟩
theorem tEq.trans {T T' T2 : zTown} (h : tEq T T') (h2 : tEq T' T2) : tEq T T2 := by
  obtain ⟨a, b, c, d, e, f, g⟩ := h
  obtain ⟨a', b', c', d', e', f', g'⟩ := h2
  refine ⟨a.trans a', b.trans b', c.trans c', d.trans d', e.trans e', fun p hp => ?_, fun k hk => ?_⟩
  · obtain ⟨f1, f2, f3, f4, f5⟩ := f p hp
    obtain ⟨i1, i2, i3, i4, i5⟩ := f' p (by omega)
    exact ⟨f1.trans i1, f2.trans i2, f3.trans i3, f4.trans i4, f5.trans i5⟩
  · obtain ⟨g1, g2⟩ := g k hk
    obtain ⟨i1, i2⟩ := g' k (by omega)
    exact ⟨g1.trans i1, g2.trans i2⟩
theorem zhold_cong {D D' H H' : Nat → Nat} : ∀ {m p d : Nat}, (∀ k, k < m → D k = D' k ∧ H k = H' k) → zhold D H m p d = zhold D' H' m p d
  | 0, _, _, _ => rfl
  | m + 1, p, d, h => by rw [zhold, zhold, zhold_cong (fun k hk => h k (by omega)), (h m (by omega)).1, (h m (by omega)).2]
/-- the words of a morning with another never, over another copy of the town, whose keys may be kept in another way -/
theorem tAlike {T T' : zTown} {nw NV : Nat} {hold' : Nat → Nat → Bool} (h : tOk T) (he : tEq T T') (hh : ∀ p d, p < tg_people T → d < tg_people T → tHd T p d = hold' p d) : zAlike (tg_people T) 1000000 NV 2000 (tWay T) (tWay T') (tNd T) (tNd T') (tPc T) (tPc T') (tHd T) hold' (tg_watch T).testBit (tg_watch T').testBit (tUp T) (tUp T') (tWin T nw 1000000) (tWin T' nw NV) := by
  obtain ⟨a, b, c, d, e, f, g⟩ := he
  obtain ⟨h1, h2, h3, h4, h5, h6⟩ := h
  refine ⟨fun x y hx hy => ⟨by unfold tWay; rw [e, a], Nat.le_trans (zway_le hx hy) h1⟩, fun p hp => ?_, hh, h1⟩
  obtain ⟨f1, f2, f3, f4, f5⟩ := f p hp
  obtain ⟨i1, i2, i3, i4, i5⟩ := h6 p hp
  refine ⟨by unfold tNd; rw [f1, f3], ?_, by unfold tPc; rw [f1, d], ?_, by rw [c], by unfold tUp; rw [f1, f2], ?_, ?_⟩
  · unfold tNd zneed
    split <;> omega
  · unfold tPc
    split <;> omega
  · unfold tUp zup
    split
    · omega
    · split <;> omega
  · unfold tWin zV2
    rw [← f1, ← f2]
    split <;> omega
theorem tHd_eq {T T' : zTown} (he : tEq T T') (p d : Nat) : tHd T p d = tHd T' p d := by
  unfold tHd
  rw [zhold_cong he.2.2.2.2.2.2, he.2.1]
/-- any run of a morning over this town is its morning: n rounds, whatever never is, whatever lies beyond -/
theorem tRun_any {T T' : zTown} {nw NV br : Nat} {hold' : Nat → Nat → Bool} {ou op : Nat → Nat} (h : tOk T) (he : tEq T T') (hh : ∀ p d, p < tg_people T → d < tg_people T → tHd T p d = hold' p d) (hN : 500000 ≤ NV) (ho : ∀ i, i < tg_people T → op i = zop0 br NV i) :
    (∀ i, i < tg_people T → zV2 1000000 NV 500000 (tO T nw br i) (if (zrun (tWay T') (tNd T') (tPc T') hold' (tg_watch T').testBit (tUp T') (tWin T' nw NV) NV (tg_people T) (tg_people T) 0 ou op).1.testBit i = true then (zrun (tWay T') (tNd T') (tPc T') hold' (tg_watch T').testBit (tUp T') (tWin T' nw NV) NV (tg_people T) (tg_people T) 0 ou op).2.1 i else NV)) ∧
    ∀ i, i < tg_people T → zV2 1000000 NV 500000 (tP T nw br i) ((zrun (tWay T') (tNd T') (tPc T') hold' (tg_watch T').testBit (tUp T') (tWin T' nw NV) NV (tg_people T) (tg_people T) 0 ou op).2.2 i) := by
  have h0 := h.1
  have hr := zrun_rel (tAlike (nw := nw) (NV := NV) h he hh) (tg_people T) 2000 0 (fun _ => 1000000) ou (sOp0 br (tg_people T) (fun _ => 1000000)) op (Nat.le_refl _) (by omega) (by omega) (fun i hi => by
    unfold sOp0
    rw [if_pos hi, ho i hi]
    unfold zop0 zV2
    split <;> omega) (fun i hi hb => by rw [Nat.zero_testBit] at hb; cases hb)
  obtain ⟨r1, r2, r3⟩ := hr
  refine ⟨fun i hi => ?_, fun i hi => (r3 i hi).up (by omega)⟩
  unfold tO tRun
  rw [← r1]
  by_cases hb : (zrun (tWay T) (tNd T) (tPc T) (tHd T) (tg_watch T).testBit (tUp T) (tWin T nw 1000000) 1000000 (tg_people T) (tg_people T) 0 (fun _ => 1000000) (sOp0 br (tg_people T) (fun _ => 1000000))).1.testBit i = true
  · rw [if_pos hb, if_pos hb]
    obtain ⟨e1, e2⟩ := r2 i hi hb
    exact Or.inl ⟨e1, Nat.le_trans e2 (by omega)⟩
  · rw [if_neg hb, if_neg hb]
    exact Or.inr ⟨rfl, rfl⟩
theorem tO_eq {T T' : zTown} {nw br i : Nat} (h : tOk T) (he : tEq T T') (hi : i < tg_people T) : tO T nw br i = tO T' nw br i ∧ tP T nw br i = tP T' nw br i := by
  have hr := tRun_any (nw := nw) (NV := 1000000) (br := br) (hold' := tHd T') (ou := fun _ => 1000000) (op := sOp0 br (tg_people T') (fun _ => 1000000)) h he (fun p d _ _ => tHd_eq he p d) (by omega) (fun j hj => by
    unfold sOp0
    rw [if_pos (by rw [← he.1]; exact hj)])
  rw [he.1] at hr hi
  have h1 := hr.1 i hi
  have h2 := hr.2 i hi
  have e1 : tO T' nw br i = (if (zrun (tWay T') (tNd T') (tPc T') (tHd T') (tg_watch T').testBit (tUp T') (tWin T' nw 1000000) 1000000 (tg_people T') (tg_people T') 0 (fun _ => 1000000) (sOp0 br (tg_people T') (fun _ => 1000000))).1.testBit i = true then (zrun (tWay T') (tNd T') (tPc T') (tHd T') (tg_watch T').testBit (tUp T') (tWin T' nw 1000000) 1000000 (tg_people T') (tg_people T') 0 (fun _ => 1000000) (sOp0 br (tg_people T') (fun _ => 1000000))).2.1 i else 1000000) := rfl
  have e2 : tP T' nw br i = (zrun (tWay T') (tNd T') (tPc T') (tHd T') (tg_watch T').testBit (tUp T') (tWin T' nw 1000000) 1000000 (tg_people T') (tg_people T') 0 (fun _ => 1000000) (sOp0 br (tg_people T') (fun _ => 1000000))).2.2 i := rfl
  rw [← e1] at h1
  rw [← e2] at h2
  unfold zV2 at h1 h2
  omega
theorem tO_is {T : zTown} {nw br i : Nat} (h : tOk T) (hi : i < tg_people T) : tO T nw br i ≤ 500000 ∨ tO T nw br i = 1000000 := by
  have hr := (tRun_any (nw := nw) (NV := 1000000) (br := br) (hold' := tHd T) (ou := fun _ => 1000000) (op := fun i => zop0 br 1000000 i) h (tEq.rfl' T) (fun _ _ _ _ => rfl) (by omega) (fun j hj => rfl)).1 i hi
  unfold zV2 at hr
  omega
theorem tAll_eq {T T' : zTown} {nw br : Nat} (h : tOk T) (he : tEq T T') : tAll T nw br = tAll T' nw br := by
  unfold tAll
  rw [← he.1]
  exact zmx_cong fun i hi => (tO_eq h he hi).1
theorem zmx_is {f : Nat → Nat} : ∀ {n : Nat}, (∀ i, i < n → f i ≤ 500000 ∨ f i = 1000000) → zmx f n ≤ 500000 ∨ zmx f n = 1000000
  | 0, _ => Or.inl (Nat.zero_le _)
  | n + 1, h => by
    rw [zmx]
    have := zmx_is (n := n) (fun i hi => h i (by omega))
    have := h n (by omega)
    omega
theorem tAll_is {T : zTown} {nw br : Nat} (h : tOk T) : tAll T nw br ≤ 500000 ∨ tAll T nw br = 1000000 := zmx_is fun _ hi => tO_is h hi

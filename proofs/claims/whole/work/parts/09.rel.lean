/-! TWO RUNS OF A MORNING side by side: the same but for the number that stands for never, and for what lies beyond the people -/
def zV2 (NV NV' B a b : Nat) : Prop := (a = b ∧ a ≤ B) ∨ (a = NV ∧ b = NV')
theorem zV2.up {NV NV' B C a b : Nat} (h : zV2 NV NV' B a b) (hB : B ≤ C) : zV2 NV NV' C a b := by
  rcases h with ⟨h1, h2⟩ | h
  · exact Or.inl ⟨h1, by omega⟩
  · exact Or.inr h
/-- what two sets of a morning's words have to do with each other -/
def zAlike (n NV NV' B : Nat) (way way' : Nat → Nat → Nat) (nd nd' pc pc' : Nat → Nat) (hold hold' : Nat → Nat → Bool) (W W' : Nat → Bool) (up up' win win' : Nat → Nat) : Prop :=
  (∀ a b, a < n → b < n → way a b = way' a b ∧ way a b ≤ 7) ∧ (∀ p, p < n → nd p = nd' p ∧ nd p ≤ 1000 ∧ pc p = pc' p ∧ pc p ≤ 1000 ∧ W p = W' p ∧ up p = up' p ∧ up p ≤ B ∧ zV2 NV NV' B (win p) (win' p)) ∧ (∀ p d, p < n → d < n → hold p d = hold' p d) ∧ n ≤ 7
theorem zcand_rel {n NV NV' B C : Nat} {W W' : Nat → Bool} {up up' win win' op op' : Nat → Nat} {p : Nat} (h : W p = W' p ∧ up p = up' p ∧ up p ≤ B ∧ zV2 NV NV' B (win p) (win' p)) (hC : B ≤ C) (hN : C < NV) (hN' : C < NV') (ho : zV2 NV NV' C (op p) (op' p)) : zV2 NV NV' C (zcand W up win op p) (zcand W' up' win' op' p) := by
  obtain ⟨h1, h2, h3, h4⟩ := h
  unfold zcand
  rw [← h1]
  by_cases hw : W p = true
  · rw [if_pos hw, if_pos hw]
    exact Or.inl ⟨rfl, by omega⟩
  · rw [if_neg hw, if_neg hw, ← h2]
    unfold zV2 at *
    omega
theorem zfst_rel {n NV NV' C : Nat} {G : Nat → Bool} {c c' : Nat → Nat} (hN : C < NV) (hN' : C < NV') : ∀ m, m ≤ n → (∀ p, p < n → zV2 NV NV' C (c p) (c' p)) → zfst G c NV m = zfst G c' NV' m
  | 0, _, _ => rfl
  | m + 1, hm, h => by
    have ih := zfst_rel (G := G) hN hN' m (by omega) h
    rw [zfst, zfst, ← ih]
    have hm1 := h m (by omega)
    by_cases hG : G m = false
    · cases hf : zfst G c NV m with
      | none =>
        have e1 : (G m = false ∧ c m < NV ∧ ∀ q, (none : Option Nat) = some q → c m < c q) ↔ (G m = false ∧ c' m < NV' ∧ ∀ q, (none : Option Nat) = some q → c' m < c' q) := by
          unfold zV2 at hm1
          constructor
          · rintro ⟨-, g2, -⟩
            exact ⟨hG, by omega, fun q hq => by cases hq⟩
          · rintro ⟨-, g2, -⟩
            exact ⟨hG, by omega, fun q hq => by cases hq⟩
        by_cases hc : (G m = false ∧ c m < NV ∧ ∀ q, (none : Option Nat) = some q → c m < c q)
        · rw [if_pos hc, if_pos (e1.mp hc)]
        · rw [if_neg hc, if_neg (fun z => hc (e1.mpr z))]
      | some q0 =>
        have hq0 := zfst_lt hf
        have hq1 := h q0 (by omega)
        have e1 : (G m = false ∧ c m < NV ∧ ∀ q, some q0 = some q → c m < c q) ↔ (G m = false ∧ c' m < NV' ∧ ∀ q, some q0 = some q → c' m < c' q) := by
          unfold zV2 at hm1 hq1
          constructor
          · rintro ⟨-, g2, g3⟩
            have := g3 q0 rfl
            exact ⟨hG, by omega, fun q hq => by cases hq; omega⟩
          · rintro ⟨-, g2, g3⟩
            have := g3 q0 rfl
            exact ⟨hG, by omega, fun q hq => by cases hq; omega⟩
        by_cases hc : (G m = false ∧ c m < NV ∧ ∀ q, some q0 = some q → c m < c q)
        · rw [if_pos hc, if_pos (e1.mp hc)]
        · rw [if_neg hc, if_neg (fun z => hc (e1.mpr z))]
    · rw [if_neg (fun z => hG z.1), if_neg (fun z => hG z.1)]
theorem zgo_rel {n NV NV' C m0 p nd pc : Nat} {way way' : Nat → Nat → Nat} {hold hold' : Nat → Bool} {op op' : Nat → Nat} (hw : ∀ a b, a < n → b < n → way a b = way' a b ∧ way a b ≤ 7) (hnd : nd ≤ 1000) (hpc : pc ≤ 1000) (hh : ∀ d, d < n → hold d = hold' d) (hp : p < n) (hm : m0 ≤ C) (hn : n ≤ 7) (hN : C + 60000 < NV) (hN' : C + 60000 < NV')
    (ho : ∀ i, i < n → zV2 NV NV' C (op i) (op' i)) : ∀ d, d ≤ n → (zgo way nd pc hold m0 p op d).1 = (zgo way' nd pc hold' m0 p op' d).1 ∧ (zgo way nd pc hold m0 p op d).1 ≤ C + 8000 * d ∧ (zgo way nd pc hold m0 p op d).2.1 = (zgo way' nd pc hold' m0 p op' d).2.1 ∧ (zgo way nd pc hold m0 p op d).2.1 < n ∧ ∀ i, i < n → zV2 NV NV' (C + 60000) ((zgo way nd pc hold m0 p op d).2.2 i) ((zgo way' nd pc hold' m0 p op' d).2.2 i)
  | 0, _ => ⟨rfl, hm, rfl, hp, fun i hi => (ho i hi).up (by omega)⟩
  | d + 1, hd => by
    obtain ⟨g1, g2, g3, g4, g5⟩ := zgo_rel hw hnd hpc hh hp hm hn hN hN' ho d (by omega)
    rw [zgo, zgo, zgs, zgs, ← hh d (by omega), ← g1, ← g3]
    by_cases hb : hold d = true
    · obtain ⟨w1, w2⟩ := hw _ d g4 (show d < n by omega)
      rw [if_pos hb, if_pos hb, ← w1]
      have hmul : pc * way (zgo way nd pc hold m0 p op d).2.1 d ≤ 1000 * 7 := Nat.mul_le_mul hpc w2
      generalize zgo way nd pc hold m0 p op d = z at *
      generalize zgo way' nd pc hold' m0 p op' d = z' at *
      dsimp only
      generalize hv : z.1 + (pc * way z.2.1 d + nd) = v
      have hvle : v ≤ C + 8000 * (d + 1) := by omega
      refine ⟨rfl, hvle, rfl, by omega, fun i hi => ?_⟩
      have hdd := g5 d (by omega)
      have hii := g5 i hi
      by_cases e : i = d
      · subst e
        unfold zV2 at *
        by_cases h1 : v < z.2.2 i
        · by_cases h2 : v < z'.2.2 i
          · rw [if_pos h1, if_pos h2, zu_s, zu_s]; omega
          · rw [if_pos h1, if_neg h2, zu_s]; omega
        · by_cases h2 : v < z'.2.2 i
          · rw [if_neg h1, if_pos h2, zu_s]; omega
          · rw [if_neg h1, if_neg h2]; omega
      · have e1 : (if v < z.2.2 d then va_up z.2.2 d v else z.2.2) i = z.2.2 i := by
          split
          · exact zu_n e
          · rfl
        have e2 : (if v < z'.2.2 d then va_up z'.2.2 d v else z'.2.2) i = z'.2.2 i := by
          split
          · exact zu_n e
          · rfl
        rw [e1, e2]
        exact hii
    · rw [if_neg hb, if_neg hb]
      exact ⟨g1, by omega, g3, g4, g5⟩
theorem zrun_rel {n NV NV' B : Nat} {way way' : Nat → Nat → Nat} {nd nd' pc pc' : Nat → Nat} {hold hold' : Nat → Nat → Bool} {W W' : Nat → Bool} {up up' win win' : Nat → Nat} (hA : zAlike n NV NV' B way way' nd nd' pc pc' hold hold' W W' up up' win win') : ∀ (k C G : Nat) (ou ou' op op' : Nat → Nat), B ≤ C → C + 60000 * k < NV → C + 60000 * k < NV' → (∀ i, i < n → zV2 NV NV' C (op i) (op' i)) → (∀ i, i < n → G.testBit i = true → ou i = ou' i ∧ ou i ≤ C) →
    (zrun way nd pc hold W up win NV n k G ou op).1 = (zrun way' nd' pc' hold' W' up' win' NV' n k G ou' op').1 ∧ (∀ i, i < n → (zrun way nd pc hold W up win NV n k G ou op).1.testBit i = true → (zrun way nd pc hold W up win NV n k G ou op).2.1 i = (zrun way' nd' pc' hold' W' up' win' NV' n k G ou' op').2.1 i ∧ (zrun way nd pc hold W up win NV n k G ou op).2.1 i ≤ C + 60000 * k) ∧ ∀ i, i < n → zV2 NV NV' (C + 60000 * k) ((zrun way nd pc hold W up win NV n k G ou op).2.2 i) ((zrun way' nd' pc' hold' W' up' win' NV' n k G ou' op').2.2 i)
  | 0, C, G, ou, ou', op, op', _, _, _, ho, hu => ⟨rfl, hu, ho⟩
  | k + 1, C, G, ou, ou', op, op', hC, hN, hN', ho, hu => by
    have h63 : C + 60000 + 60000 * k < NV := by omega
    have h64 : C + 60000 + 60000 * k < NV' := by omega
    have h61 : C + 60000 < NV := Nat.lt_of_le_of_lt (Nat.le_add_right _ _) h63
    have h62 : C + 60000 < NV' := Nat.lt_of_le_of_lt (Nat.le_add_right _ _) h64
    have h65 : B ≤ C + 60000 := by omega
    obtain ⟨a1, a2, a3, a4⟩ := id hA
    have hc : ∀ p, p < n → zV2 NV NV' C (zcand W up win op p) (zcand W' up' win' op' p) := fun p hp => by
      obtain ⟨b1, b2, b3, b4, b5, b6, b7, b8⟩ := a2 p hp
      exact zcand_rel (n := n) ⟨b5, b6, b7, b8⟩ hC (by omega) (by omega) (ho p hp)
    have hf := zfst_rel (n := n) (G := G.testBit) (c := zcand W up win op) (c' := zcand W' up' win' op') (NV := NV) (NV' := NV') (C := C) (by omega) (by omega) n (Nat.le_refl n) hc
    cases hz : zfst G.testBit (zcand W up win op) NV n with
    | none =>
      rw [zrun_none hz, zrun_none (hf ▸ hz)]
      exact ⟨rfl, fun i hi hb => ⟨(hu i hi hb).1, Nat.le_trans (hu i hi hb).2 (by omega)⟩, fun i hi => (ho i hi).up (by omega)⟩
    | some p =>
      have hp := zfst_lt hz
      rw [zrun_some hz, zrun_some (hf ▸ hz)]
      obtain ⟨b1, b2, b3, b4, b5, b6, b7, b8⟩ := a2 p hp.1
      have hcp := hc p hp.1
      have hcv : zcand W up win op p = zcand W' up' win' op' p ∧ zcand W up win op p ≤ C := by
        have := hp.2.2
        unfold zV2 at hcp
        omega
      have hg := zgo_rel (NV := NV) (NV' := NV') (C := C) (op := op) (op' := op') (way := way) (way' := way') (nd := nd p) (pc := pc p) (hold := hold p) (hold' := hold' p) a1 b2 b4 (fun d hd => a3 p d hp.1 hd) hp.1 hcv.2 a4 h61 h62 ho n (Nat.le_refl n)
      rw [← b1, ← b3, ← hcv.1]
      have ih := zrun_rel hA k (C + 60000) (G ||| 1 * 2 ^ p) (va_up ou p (zcand W up win op p)) (va_up ou' p (zcand W up win op p)) _ _ h65 h63 h64 hg.2.2.2.2 (fun i hi hb => ?_)
      · rw [show C + 60000 * (k + 1) = C + 60000 + 60000 * k by omega]
        exact ih
      · by_cases e : i = p
        · subst e
          rw [zu_s, zu_s]
          exact ⟨rfl, by omega⟩
        · rw [zu_n e, zu_n e]
          rw [zor_bit] at hb
          simp only [e, decide_false, Bool.or_false] at hb
          have := hu i hi hb
          exact ⟨this.1, by omega⟩
/-- the greatest of the first n, 0 at least -/
def zmx (f : Nat → Nat) : Nat → Nat
  | 0 => 0
  | n + 1 => max (zmx f n) (f n)
theorem zmx_cong {f g : Nat → Nat} : ∀ {n : Nat}, (∀ i, i < n → f i = g i) → zmx f n = zmx g n
  | 0, _ => rfl
  | n + 1, h => by rw [zmx, zmx, zmx_cong (fun i hi => h i (by omega)), h n (by omega)]
theorem zmx_le {f : Nat → Nat} {b : Nat} : ∀ {n : Nat}, (∀ i, i < n → f i ≤ b) → zmx f n ≤ b
  | 0, _ => Nat.zero_le _
  | n + 1, h => by
    rw [zmx]
    have := zmx_le (n := n) (fun i hi => h i (by omega))
    have := h n (by omega)
    omega
/-- the reference's morning, from nothing opened beyond the people -/
def sO (S : Nat → Nat) (nw br i : Nat) : Nat := sOut S nw br (fun _ => 1000000) i
def sAll (S : Nat → Nat) (nw br : Nat) : Nat := zmx (sO S nw br) (S 0)
/-- what the reference's row s is at any time -/
def sOk (S : Nat → Nat) : Prop := (∀ i, S i ≤ 1000) ∧ S 0 ≤ 7 ∧ S 1 ≤ 12
theorem sAlike {S : Nat → Nat} {nw : Nat} (h : sOk S) : zAlike (S 0) 1000000 1000000 2000 (sWay S) (sWay S) (sNd S) (sNd S) (sPc S) (sPc S) (sHd S) (sHd S) (S 2).testBit (S 2).testBit (sUp S) (sUp S) (sWin S nw) (sWin S nw) := by
  obtain ⟨hs, h0, h1⟩ := h
  refine ⟨fun a b ha hb => ⟨rfl, Nat.le_trans (zway_le ha hb) h0⟩, fun p hp => ⟨rfl, sNd_le hs p, rfl, ?_, rfl, rfl, sUp_le hs p, ?_⟩, fun _ _ _ _ => rfl, h0⟩
  · unfold sPc
    have := hs 3
    split <;> omega
  · have := hs (5 + 5 * p + 1)
    unfold zV2 sWin
    split <;> omega
theorem zop0_rel (br C : Nat) {i : Nat} : zV2 1000000 1000000 C (zop0 br 1000000 i) (zop0 br 1000000 i) := by
  unfold zV2 zop0
  split <;> omega
theorem sRun_cong {S : Nat → Nat} {nw br : Nat} {op op' : Nat → Nat} (h : sOk S) : (sRun S nw br op).1 = (sRun S nw br op').1 ∧ (∀ i, i < S 0 → (sRun S nw br op).1.testBit i = true → (sRun S nw br op).2.1 i = (sRun S nw br op').2.1 i ∧ (sRun S nw br op).2.1 i ≤ 500000) ∧ ∀ i, i < S 0 → zV2 1000000 1000000 500000 ((sRun S nw br op).2.2 i) ((sRun S nw br op').2.2 i) := by
  have h0 := h.2.1
  have := zrun_rel (sAlike (nw := nw) h) (S 0) 2000 0 (fun _ => 1000000) (fun _ => 1000000) (sOp0 br (S 0) op) (sOp0 br (S 0) op') (Nat.le_refl _) (by omega) (by omega) (fun i hi => by
    unfold sOp0
    rw [if_pos hi, if_pos hi]
    exact zop0_rel br 2000) (fun i hi hb => by rw [Nat.zero_testBit] at hb; cases hb)
  exact ⟨this.1, fun i hi hb => ⟨(this.2.1 i hi hb).1, Nat.le_trans (this.2.1 i hi hb).2 (by omega)⟩, fun i hi => (this.2.2 i hi).up (by omega)⟩
theorem sOut_sO {S : Nat → Nat} {nw br i : Nat} {op : Nat → Nat} (h : sOk S) (hi : i < S 0) : sOut S nw br op i = sO S nw br i := by
  obtain ⟨e1, e2, -⟩ := sRun_cong (nw := nw) (br := br) (op := op) (op' := fun _ => 1000000) h
  unfold sO sOut
  rw [← e1]
  by_cases hb : (sRun S nw br op).1.testBit i = true
  · rw [if_pos hb, if_pos hb]
    exact (e2 i hi hb).1
  · rw [if_neg hb, if_neg hb]
/-- out: a minute, or never -/
theorem sO_is {S : Nat → Nat} {nw br i : Nat} (h : sOk S) (hi : i < S 0) : sO S nw br i ≤ 500000 ∨ sO S nw br i = 1000000 := by
  obtain ⟨-, e2, -⟩ := sRun_cong (nw := nw) (br := br) (op := fun _ => 1000000) (op' := fun _ => 1000000) h
  unfold sO sOut
  by_cases hb : (sRun S nw br (fun _ => 1000000)).1.testBit i = true
  · rw [if_pos hb]
    exact Or.inl (e2 i hi hb).2
  · rw [if_neg hb]
    exact Or.inr rfl

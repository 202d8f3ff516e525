/-! THE MORNING, for both sides: who is out when, round by round -/
theorem zu_s {α : Type} {f : Nat → α} {k : Nat} {v : α} : va_up f k v k = v := if_pos rfl
theorem zu_n {α : Type} {f : Nat → α} {k j : Nat} {v : α} (h : j ≠ k) : va_up f k v j = f j := if_neg h
/-- what an int holds of a place, or -9 -/
def zor : Option Nat → Int32
  | none => -9
  | some p => nI p
/-- one who is out goes on to door d -/
def zgs (way : Nat → Nat → Nat) (nd pc : Nat) (hold : Nat → Bool) (d : Nat) (x : Nat × Nat × (Nat → Nat)) : Nat × Nat × (Nat → Nat) :=
  if hold d = true then (x.1 + (pc * way x.2.1 d + nd), d, if x.1 + (pc * way x.2.1 d + nd) < x.2.2 d then va_up x.2.2 d (x.1 + (pc * way x.2.1 d + nd)) else x.2.2) else x
def zgo (way : Nat → Nat → Nat) (nd pc : Nat) (hold : Nat → Bool) (m0 p : Nat) (op : Nat → Nat) : Nat → Nat × Nat × (Nat → Nat)
  | 0 => (m0, p, op)
  | d + 1 => zgs way nd pc hold d (zgo way nd pc hold m0 p op d)
def zcand (W : Nat → Bool) (up win : Nat → Nat) (op : Nat → Nat) (p : Nat) : Nat := if W p = true then 0 else min (win p) (max (op p) (up p))
/-- the first of those not gone, whose minute is least, less than never -/
def zfst (G : Nat → Bool) (c : Nat → Nat) (NV : Nat) : Nat → Option Nat
  | 0 => none
  | p + 1 => if G p = false ∧ c p < NV ∧ (∀ q, zfst G c NV p = some q → c p < c q) then some p else zfst G c NV p
theorem zfst_lt {G : Nat → Bool} {c : Nat → Nat} {NV : Nat} : ∀ {n p : Nat}, zfst G c NV n = some p → p < n ∧ G p = false ∧ c p < NV
  | 0, p, h => by cases h
  | n + 1, p, h => by
    rw [zfst] at h
    split at h
    · rename_i hh
      cases h
      exact ⟨by omega, hh.1, hh.2.1⟩
    · have := zfst_lt h
      exact ⟨by omega, this.2⟩
theorem zfst_none {G : Nat → Bool} {c : Nat → Nat} {NV : Nat} : ∀ {n : Nat}, zfst G c NV n = none → ∀ p, p < n → G p = false → NV ≤ c p
  | 0, _, p, hp, _ => by omega
  | n + 1, h, p, hp, hg => by
    rw [zfst] at h
    split at h
    · cases h
    · rename_i hh
      by_cases e : p = n
      · subst e
        refine Nat.not_lt.mp fun hlt => hh ⟨hg, hlt, fun q hq => ?_⟩
        rw [h] at hq
        cases hq
      · exact zfst_none h p (by omega) hg
/-- how many of the first n are not gone -/
def zleft (G : Nat) : Nat → Nat
  | 0 => 0
  | n + 1 => zleft G n + (if G.testBit n = true then 0 else 1)
theorem zleft_le (G : Nat) : ∀ n, zleft G n ≤ n
  | 0 => Nat.le_refl _
  | n + 1 => by
    have := zleft_le G n
    rw [zleft]
    split <;> omega
theorem zor_bit (G p i : Nat) : (G ||| 1 * 2 ^ p).testBit i = (G.testBit i || decide (i = p)) := by
  rw [Nat.testBit_or, Nat.one_mul, Nat.testBit_two_pow]
  congr 1
  exact decide_eq_decide.mpr eq_comm
theorem zleft_or {G p : Nat} : ∀ {n : Nat}, G.testBit p = false → zleft (G ||| 1 * 2 ^ p) n + (if p < n then 1 else 0) = zleft G n
  | 0, _ => by simp [zleft]
  | n + 1, h => by
    have ih := zleft_or (n := n) h
    rw [zleft, zleft, zor_bit]
    by_cases e : n = p
    · subst e
      simp only [h, decide_true, Bool.or_true, if_true]
      have e1 : ¬ n < n := Nat.lt_irrefl n
      rw [if_neg e1] at ih
      rw [if_pos (show n < n + 1 by omega)]
      simp only [Bool.false_eq_true, if_false]
      omega
    · simp only [e, decide_false, Bool.or_false]
      by_cases h1 : p < n
      · rw [if_pos h1] at ih
        rw [if_pos (show p < n + 1 by omega)]
        omega
      · rw [if_neg h1] at ih
        rw [if_neg (show ¬ p < n + 1 by omega)]
        omega
theorem zleft_0 {G : Nat} : ∀ {n : Nat}, zleft G n = 0 → ∀ p, p < n → G.testBit p = true
  | 0, _, p, hp => by omega
  | n + 1, h, p, hp => by
    rw [zleft] at h
    by_cases e : p = n
    · subst e
      by_cases hb : G.testBit p = true
      · exact hb
      · rw [if_neg hb] at h
        omega
    · exact zleft_0 (n := n) (by omega) p (by omega)
/-- the rounds: who is gone (bits), when each of them went, what is opened when -/
def zrun (way : Nat → Nat → Nat) (nd pc : Nat → Nat) (hold : Nat → Nat → Bool) (W : Nat → Bool) (up win : Nat → Nat) (NV n : Nat) : Nat → Nat → (Nat → Nat) → (Nat → Nat) → Nat × (Nat → Nat) × (Nat → Nat)
  | 0, G, ou, op => (G, ou, op)
  | k + 1, G, ou, op => match zfst G.testBit (zcand W up win op) NV n with
    | none => (G, ou, op)
    | some p => zrun way nd pc hold W up win NV n k (G ||| 1 * 2 ^ p) (va_up ou p (zcand W up win op p)) (zgo way (nd p) (pc p) (hold p) (zcand W up win op p) p op n).2.2
theorem zrun_none {way : Nat → Nat → Nat} {nd pc : Nat → Nat} {hold : Nat → Nat → Bool} {W : Nat → Bool} {up win : Nat → Nat} {NV n G : Nat} {ou op : Nat → Nat} (h : zfst G.testBit (zcand W up win op) NV n = none) : ∀ k, zrun way nd pc hold W up win NV n k G ou op = (G, ou, op)
  | 0 => rfl
  | k + 1 => by rw [zrun, h]
theorem zrun_some {way : Nat → Nat → Nat} {nd pc : Nat → Nat} {hold : Nat → Nat → Bool} {W : Nat → Bool} {up win : Nat → Nat} {NV n G p k : Nat} {ou op : Nat → Nat} (h : zfst G.testBit (zcand W up win op) NV n = some p) : zrun way nd pc hold W up win NV n (k + 1) G ou op = zrun way nd pc hold W up win NV n k (G ||| 1 * 2 ^ p) (va_up ou p (zcand W up win op p)) (zgo way (nd p) (pc p) (hold p) (zcand W up win op p) p op n).2.2 := by rw [zrun, h]
/-- what is opened at the start -/
def zop0 (br NV : Nat) (p : Nat) : Nat := if br.testBit p = true then 0 else NV
/-- when each is out: what the rounds say of those gone, else never -/
def zouts (way : Nat → Nat → Nat) (nd pc : Nat → Nat) (hold : Nat → Nat → Bool) (W : Nat → Bool) (up win : Nat → Nat) (NV n br : Nat) (p : Nat) : Nat :=
  if (zrun way nd pc hold W up win NV n n 0 (fun _ => NV) (zop0 br NV)).1.testBit p = true then (zrun way nd pc hold W up win NV n n 0 (fun _ => NV) (zop0 br NV)).2.1 p else NV
theorem zway_le {r n a b : Nat} (ha : a < n) (hb : b < n) : zway r n a b ≤ n := by
  unfold zway zfar
  split <;> split <;> omega
theorem zgo_op {way : Nat → Nat → Nat} {nd pc : Nat} {hold : Nat → Bool} {m0 p : Nat} {op : Nat → Nat} : ∀ (d i : Nat), (zgo way nd pc hold m0 p op d).2.2 i ≤ op i
  | 0, i => Nat.le_refl _
  | d + 1, i => by
    have ih := zgo_op (way := way) (nd := nd) (pc := pc) (hold := hold) (m0 := m0) (p := p) (op := op) d i
    rw [zgo, zgs]
    split
    · dsimp only
      split
      · rename_i hlt
        by_cases e : i = d
        · subst e
          rw [zu_s]
          omega
        · rw [zu_n e]
          exact ih
      · exact ih
    · exact ih
theorem zcand_le {W : Nat → Bool} {up win op : Nat → Nat} {p NV : Nat} (hw : win p ≤ NV) : zcand W up win op p ≤ NV := by
  unfold zcand
  split
  · omega
  · exact Nat.le_trans (Nat.min_le_left _ _) hw

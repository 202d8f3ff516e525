/-! AT THE START: both sides' states -/
def kT0 : zMod := ((fun _ => 0), va_up (fun _ => 0) 3 1, (fun _ => 0), (fun _ => 0), 0, (fun _ => 0), (fun _ => 0), 0, 0, (fun _ => 0), (fun _ => 0), 0, 0, 0, 0, (fun _ => 0), (fun _ => 0), 0)
def kTw0 : zTown := ((fun _ => 0), (fun _ => 0), (fun _ => 0), (fun _ => 0), (fun _ => 0), 0, (fun _ => 0), (fun _ => 0), 0, 0, 1, 0)
def kU0 : zCls := ((fun _ => 0), 0, 14, 0, 0, 0, (fun _ => 0), 0, kTw0, kTw0, kTw0, 0, 0, (fun _ _ => 0), (fun _ => 0), (fun _ => 0), (fun _ => 0), (fun _ => 0), (fun _ => 0), (fun _ => 0), (fun _ => 0), (fun _ => 0), (fun _ => 0), 0, (fun _ => 0))
theorem kS_le (i : Nat) : va_up (fun _ => 0) 3 1 i ≤ 1000 := by
  unfold va_up
  split
  · omega
  · exact Nat.zero_le _
theorem kINV0 : zINV kT0 kU0 := by
  refine ⟨⟨kS_le, by decide, by decide, ⟨by decide, by decide, by decide, by decide, by decide, fun p hp => ?_⟩, fun k hk => ?_, ⟨rfl, rfl, rfl, rfl, rfl, fun p hp => ?_, fun k hk => ?_⟩⟩, ⟨rfl, rfl, fun _ => Nat.zero_le _, fun _ => Nat.zero_le _⟩, fun _ => Nat.zero_le _, ⟨fun _ => Nat.zero_le _, Or.inl ⟨rfl, rfl⟩⟩, ⟨rfl, Nat.zero_le _, rfl, fun _ => Nat.zero_le _⟩, ⟨rfl, Nat.zero_le _, rfl, fun _ => Nat.zero_le _⟩, rfl, fun _ => Nat.zero_le _⟩
  all_goals first | exact absurd hp (Nat.not_lt_zero _) | exact absurd hk (Nat.not_lt_zero _)
/-- the places as the states have them, out of those in the order of birth -/
def kad (ad : Nat → Nat) : Nat → Nat := fun k => if k < 11 then ad (48 + k) else if k < 59 then ad (k - 11) else ad k
theorem kW59_is : kW59 = [zO 3 [.ref 1, .int 0, .ref 2, .ref 5, .ref 13, .ref 21, .int 0, .ref 29, .ref 46, .int 0, .ref 47], zI 80 (fun _ => 0), zO 1 [.ref 3, .int 0, .int 0, .int 0, .ref 4, .int 0], zI 0 (fun _ => 0), zI 5 (fun _ => 0), zO 2 [.ref 6, .ref 7, .ref 8, .ref 9, .ref 10, .int 0, .ref 11, .ref 12, .int 0, .int 0, .int (nI 1), .int 0], zI 7 (fun _ => 0), zI 7 (fun _ => 0), zI 7 (fun _ => 0), zI 7 (fun _ => 0), zI 7 (fun _ => 0), zI 10 (fun _ => 0), zI 10 (fun _ => 0), zO 2 [.ref 14, .ref 15, .ref 16, .ref 17, .ref 18, .int 0, .ref 19, .ref 20, .int 0, .int 0, .int (nI 1), .int 0], zI 7 (fun _ => 0), zI 7 (fun _ => 0), zI 7 (fun _ => 0), zI 7 (fun _ => 0), zI 7 (fun _ => 0), zI 10 (fun _ => 0), zI 10 (fun _ => 0), zO 2 [.ref 22, .ref 23, .ref 24, .ref 25, .ref 26, .int 0, .ref 27, .ref 28, .int 0, .int 0, .int (nI 1), .int 0], zI 7 (fun _ => 0), zI 7 (fun _ => 0), zI 7 (fun _ => 0), zI 7 (fun _ => 0), zI 7 (fun _ => 0), zI 10 (fun _ => 0), zI 10 (fun _ => 0), zO 0 [.int 0, .ref 30, .ref 38, .ref 39, .ref 40, .ref 41, .ref 42, .ref 43, .ref 44, .ref 45], zR 7 (fun i => if i < 7 then some (31 + i) else none), zI 7 (fun _ => 0), zI 7 (fun _ => 0), zI 7 (fun _ => 0), zI 7 (fun _ => 0), zI 7 (fun _ => 0), zI 7 (fun _ => 0), zI 7 (fun _ => 0), zI 7 (fun _ => 0), zI 7 (fun _ => 0), zI 7 (fun _ => 0), zI 7 (fun _ => 0), zI 7 (fun _ => 0), zI 7 (fun _ => 0), zI 7 (fun _ => 0), zI 7 (fun _ => 0), zI 7 (fun _ => 0), zI 7 (fun _ => 0), zO 4 [.ref 49, .ref 50, .ref 51, .ref 52, .int 0, .ref 53, .ref 54, .int 0, .int 0, .ref 55, .ref 56, .int 0, .int 0, .int 0, .int 0, .ref 57, .ref 58, .int 0], zI 7 (fun _ => 0), zI 64 (fun i => nI (va_up (fun _ => 0) 3 1 i)), zI 64 (fun _ => 0), zI 64 (fun _ => 0), zI 80 (fun _ => 0), zI 5 (fun _ => 0), zI 7 (fun _ => 0), zI 7 (fun _ => 0), zI 64 (fun _ => 0), zI 7 (fun _ => 0)] := by
  unfold kW59
  rw [show (upd (fun _ => 0) 3 (nI 1)) = fun i => nI (va_up (fun _ => 0) 3 1 i) from zb_upd (fun _ => 0) 3 1]
theorem kvp {cB : ClassId} {f g : Nat → Option Nat} (h : ∀ j, j < 7 → f j = g j) : vp_cell cB (7, .inr (.inr (.inr (.inr f)))) = vp_cell cB (7, .inr (.inr (.inr (.inr g)))) := by
  rw [vp_cell_q, vp_cell_q]
  unfold arrV
  have e : (fun j : Fin 7 => va_rf (f j.val)) = fun j : Fin 7 => va_rf (g j.val) := funext fun j => congrArg va_rf (h j.val j.isLt)
  rw [e]
set_option maxHeartbeats 4000000 in
set_option maxRecDepth 100000 in
theorem kPerm {ad : Nat → Nat} {cA cB : ClassId} : zW (kad ad) cA cB (hA kT0 kU0) = (([48, 49, 50, 51, 52, 53, 54, 55, 56, 57, 58, 0, 1, 2, 3, 4, 5, 6, 7, 8, 9, 10, 11, 12, 13, 14, 15, 16, 17, 18, 19, 20, 21, 22, 23, 24, 25, 26, 27, 28, 29, 30, 31, 32, 33, 34, 35, 36, 37, 38, 39, 40, 41, 42, 43, 44, 45, 46, 47] : List Nat).filterMap (fun i => (zW ad cA cB kW59)[i]?)).set 41 (ad 30, .inl (cB, 7, .inr (.inr (.inr (.inr (fun i => (some (42 + i)).map (kad ad))))))) := by
  rw [kW59_is]
  rfl
set_option maxHeartbeats 4000000 in
set_option maxRecDepth 100000 in
theorem kSwitch {ad : Nat → Nat} {D : va_G} {cA cB : ClassId} {s : State} {A : Nat → Prop} {H : Heap} {locs : List Loc} (h : kInv ad D cA cB kW59 s A H locs) : zInv (kad ad) D cA cB (hA kT0 kU0) s A H locs := by
  obtain ⟨⟨hP, hD, hS⟩, -⟩ := h
  have hP2 := hP.sub ([48, 49, 50, 51, 52, 53, 54, 55, 56, 57, 58, 0, 1, 2, 3, 4, 5, 6, 7, 8, 9, 10, 11, 12, 13, 14, 15, 16, 17, 18, 19, 20, 21, 22, 23, 24, 25, 26, 27, 28, 29, 30, 31, 32, 33, 34, 35, 36, 37, 38, 39, 40, 41, 42, 43, 44, 45, 46, 47] : List Nat) rfl
  have hD2 := hD.sub (ws' := ([48, 49, 50, 51, 52, 53, 54, 55, 56, 57, 58, 0, 1, 2, 3, 4, 5, 6, 7, 8, 9, 10, 11, 12, 13, 14, 15, 16, 17, 18, 19, 20, 21, 22, 23, 24, 25, 26, 27, 28, 29, 30, 31, 32, 33, 34, 35, 36, 37, 38, 39, 40, 41, 42, 43, 44, 45, 46, 47] : List Nat).filterMap (fun i => (zW ad cA cB kW59)[i]?)) ([48, 49, 50, 51, 52, 53, 54, 55, 56, 57, 58, 0, 1, 2, 3, 4, 5, 6, 7, 8, 9, 10, 11, 12, 13, 14, 15, 16, 17, 18, 19, 20, 21, 22, 23, 24, 25, 26, 27, 28, 29, 30, 31, 32, 33, 34, 35, 36, 37, 38, 39, 40, 41, 42, 43, 44, 45, 46, 47] : List Nat) (by decide) rfl
  have h41 : (([48, 49, 50, 51, 52, 53, 54, 55, 56, 57, 58, 0, 1, 2, 3, 4, 5, 6, 7, 8, 9, 10, 11, 12, 13, 14, 15, 16, 17, 18, 19, 20, 21, 22, 23, 24, 25, 26, 27, 28, 29, 30, 31, 32, 33, 34, 35, 36, 37, 38, 39, 40, 41, 42, 43, 44, 45, 46, 47] : List Nat).filterMap (fun i => (zW ad cA cB kW59)[i]?))[41]? = some (ad 30, .inl (cB, 7, .inr (.inr (.inr (.inr (fun i => (if i < 7 then some (31 + i) else none).map ad)))))) := rfl
  have hc : va_at D vwCl (ad 30, .inl (cB, 7, .inr (.inr (.inr (.inr (fun i => (some (42 + i)).map (kad ad))))))) H := by
    have h0 : H[ad 30]? = some (vp_cell cB (7, .inr (.inr (.inr (.inr (fun i => (if i < 7 then some (31 + i) else none).map ad)))))) := hP2 41 _ h41
    show H[ad 30]? = some (vp_cell cB _)
    rw [h0]
    refine congrArg some (kvp fun j hj => ?_)
    rw [if_pos hj]
    show some (ad (31 + j)) = some (kad ad (42 + j))
    unfold kad
    rw [if_neg (by omega), if_pos (by omega), show 42 + j - 11 = 31 + j by omega]
  refine ⟨?_, ?_, hS⟩
  · rw [kPerm]
    exact hP2.set hD2 h41 hc (fun _ _ => rfl)
  · rw [kPerm]
    exact hD2.set h41

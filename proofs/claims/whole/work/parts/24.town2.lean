/-! THE CLASS: its town changed, copied; its rings -/
theorem zcpy (F G : Nat → Nat) (n : Nat) : va_cpy (fun i => nI (F i)) (fun i => nI (G i)) 0 0 n = fun i => nI (zcp F G n i) := by
  funext i
  unfold va_cpy zcp
  by_cases h : i < n
  · simp [h]
  · simp [h]
def zbec (A B : zTown) : zTown := (zcp (tg_kind A) (tg_kind B) 7, zcp (tg_wakes A) (tg_wakes B) 7, zcp (tg_takes A) (tg_takes B) 7, zcp (tg_due A) (tg_due B) 7, zcp (tg_cost A) (tg_cost B) 7, tg_people A, zcp (tg_door A) (tg_door B) 10, zcp (tg_held A) (tg_held B) 10, tg_keys A, tg_watch A, tg_pace A, tg_ring A)
theorem zcp_lt {f g : Nat → Nat} {n i : Nat} (h : i < n) : zcp f g n i = f i := if_pos h
theorem zbec_eq {A B : zTown} (h : tg_people A ≤ 7) (hk : tg_keys A ≤ 10) : tEq A (zbec A B) := by
  refine ⟨rfl, rfl, rfl, rfl, rfl, fun p hp => ⟨?_, ?_, ?_, ?_, ?_⟩, fun k hk2 => ⟨?_, ?_⟩⟩
  all_goals exact (zcp_lt (by omega)).symm
theorem cc_dra_kind {t : zMod} {b_let : Nat → Nat} {b_lc : Nat} {b_rt : Nat} {b_rl : Nat} {b_ra : Nat} {b_rf : Nat} {b_rn : Nat → Nat} {b_rc : Nat} {b_now : zTown} {b_kep : zTown} {b_im : Nat} {b_mp : Nat} {b_mw : Nat → Nat → Nat} {b_mu : Nat → Nat} {b_mn : Nat → Nat} {b_mi : Nat → Nat} {b_mc : Nat → Nat} {b_md : Nat → Nat} {b_mo : Nat → Nat} {b_ms : Nat → Nat} {b_mq : Nat → Int32} {b_se : Nat → Nat} {b_sc : Nat} {b_re : Nat → Nat} {c_kind : Nat → Nat} {c_wakes : Nat → Nat} {c_takes : Nat → Nat} {c_due : Nat → Nat} {c_cost : Nat → Nat} {c_people : Nat} {c_door : Nat → Nat} {c_held : Nat → Nat} {c_keys : Nat} {c_watch : Nat} {c_pace : Nat} {c_ring : Nat} {X : Nat → Nat} : zs (hA t (b_let, b_lc, b_rt, b_rl, b_ra, b_rf, b_rn, b_rc, b_now, (c_kind, c_wakes, c_takes, c_due, c_cost, c_people, c_door, c_held, c_keys, c_watch, c_pace, c_ring), b_kep, b_im, b_mp, b_mw, b_mu, b_mn, b_mi, b_mc, b_md, b_mo, b_ms, b_mq, b_se, b_sc, b_re)) 25 (zI 7 (fun i => nI (X i))) = hA t (b_let, b_lc, b_rt, b_rl, b_ra, b_rf, b_rn, b_rc, b_now, (X, c_wakes, c_takes, c_due, c_cost, c_people, c_door, c_held, c_keys, c_watch, c_pace, c_ring), b_kep, b_im, b_mp, b_mw, b_mu, b_mn, b_mi, b_mc, b_md, b_mo, b_ms, b_mq, b_se, b_sc, b_re) := by
  show zs (hMod t ++ (hC1 b_let b_lc b_rt b_rl b_ra b_rf b_rn b_rc b_im b_sc ++ (hTw 16 b_now ++ (hTwC 24 c_kind c_wakes c_takes c_due c_cost c_people c_door c_held c_keys c_watch c_pace c_ring ++ (hTw 32 b_kep ++ hC2 b_mp b_mw b_mu b_mn b_mi b_mc b_md b_mo b_ms b_mq b_se b_re))))) 25 _ = hMod t ++ (hC1 b_let b_lc b_rt b_rl b_ra b_rf b_rn b_rc b_im b_sc ++ (hTw 16 b_now ++ (hTwC 24 X c_wakes c_takes c_due c_cost c_people c_door c_held c_keys c_watch c_pace c_ring ++ (hTw 32 b_kep ++ hC2 b_mp b_mw b_mu b_mn b_mi b_mc b_md b_mo b_ms b_mq b_se b_re))))
  rfl
theorem cc_dra_wakes {t : zMod} {b_let : Nat → Nat} {b_lc : Nat} {b_rt : Nat} {b_rl : Nat} {b_ra : Nat} {b_rf : Nat} {b_rn : Nat → Nat} {b_rc : Nat} {b_now : zTown} {b_kep : zTown} {b_im : Nat} {b_mp : Nat} {b_mw : Nat → Nat → Nat} {b_mu : Nat → Nat} {b_mn : Nat → Nat} {b_mi : Nat → Nat} {b_mc : Nat → Nat} {b_md : Nat → Nat} {b_mo : Nat → Nat} {b_ms : Nat → Nat} {b_mq : Nat → Int32} {b_se : Nat → Nat} {b_sc : Nat} {b_re : Nat → Nat} {c_kind : Nat → Nat} {c_wakes : Nat → Nat} {c_takes : Nat → Nat} {c_due : Nat → Nat} {c_cost : Nat → Nat} {c_people : Nat} {c_door : Nat → Nat} {c_held : Nat → Nat} {c_keys : Nat} {c_watch : Nat} {c_pace : Nat} {c_ring : Nat} {X : Nat → Nat} : zs (hA t (b_let, b_lc, b_rt, b_rl, b_ra, b_rf, b_rn, b_rc, b_now, (c_kind, c_wakes, c_takes, c_due, c_cost, c_people, c_door, c_held, c_keys, c_watch, c_pace, c_ring), b_kep, b_im, b_mp, b_mw, b_mu, b_mn, b_mi, b_mc, b_md, b_mo, b_ms, b_mq, b_se, b_sc, b_re)) 26 (zI 7 (fun i => nI (X i))) = hA t (b_let, b_lc, b_rt, b_rl, b_ra, b_rf, b_rn, b_rc, b_now, (c_kind, X, c_takes, c_due, c_cost, c_people, c_door, c_held, c_keys, c_watch, c_pace, c_ring), b_kep, b_im, b_mp, b_mw, b_mu, b_mn, b_mi, b_mc, b_md, b_mo, b_ms, b_mq, b_se, b_sc, b_re) := by
  show zs (hMod t ++ (hC1 b_let b_lc b_rt b_rl b_ra b_rf b_rn b_rc b_im b_sc ++ (hTw 16 b_now ++ (hTwC 24 c_kind c_wakes c_takes c_due c_cost c_people c_door c_held c_keys c_watch c_pace c_ring ++ (hTw 32 b_kep ++ hC2 b_mp b_mw b_mu b_mn b_mi b_mc b_md b_mo b_ms b_mq b_se b_re))))) 26 _ = hMod t ++ (hC1 b_let b_lc b_rt b_rl b_ra b_rf b_rn b_rc b_im b_sc ++ (hTw 16 b_now ++ (hTwC 24 c_kind X c_takes c_due c_cost c_people c_door c_held c_keys c_watch c_pace c_ring ++ (hTw 32 b_kep ++ hC2 b_mp b_mw b_mu b_mn b_mi b_mc b_md b_mo b_ms b_mq b_se b_re))))
  rfl
theorem cc_dra_takes {t : zMod} {b_let : Nat → Nat} {b_lc : Nat} {b_rt : Nat} {b_rl : Nat} {b_ra : Nat} {b_rf : Nat} {b_rn : Nat → Nat} {b_rc : Nat} {b_now : zTown} {b_kep : zTown} {b_im : Nat} {b_mp : Nat} {b_mw : Nat → Nat → Nat} {b_mu : Nat → Nat} {b_mn : Nat → Nat} {b_mi : Nat → Nat} {b_mc : Nat → Nat} {b_md : Nat → Nat} {b_mo : Nat → Nat} {b_ms : Nat → Nat} {b_mq : Nat → Int32} {b_se : Nat → Nat} {b_sc : Nat} {b_re : Nat → Nat} {c_kind : Nat → Nat} {c_wakes : Nat → Nat} {c_takes : Nat → Nat} {c_due : Nat → Nat} {c_cost : Nat → Nat} {c_people : Nat} {c_door : Nat → Nat} {c_held : Nat → Nat} {c_keys : Nat} {c_watch : Nat} {c_pace : Nat} {c_ring : Nat} {X : Nat → Nat} : zs (hA t (b_let, b_lc, b_rt, b_rl, b_ra, b_rf, b_rn, b_rc, b_now, (c_kind, c_wakes, c_takes, c_due, c_cost, c_people, c_door, c_held, c_keys, c_watch, c_pace, c_ring), b_kep, b_im, b_mp, b_mw, b_mu, b_mn, b_mi, b_mc, b_md, b_mo, b_ms, b_mq, b_se, b_sc, b_re)) 27 (zI 7 (fun i => nI (X i))) = hA t (b_let, b_lc, b_rt, b_rl, b_ra, b_rf, b_rn, b_rc, b_now, (c_kind, c_wakes, X, c_due, c_cost, c_people, c_door, c_held, c_keys, c_watch, c_pace, c_ring), b_kep, b_im, b_mp, b_mw, b_mu, b_mn, b_mi, b_mc, b_md, b_mo, b_ms, b_mq, b_se, b_sc, b_re) := by
  show zs (hMod t ++ (hC1 b_let b_lc b_rt b_rl b_ra b_rf b_rn b_rc b_im b_sc ++ (hTw 16 b_now ++ (hTwC 24 c_kind c_wakes c_takes c_due c_cost c_people c_door c_held c_keys c_watch c_pace c_ring ++ (hTw 32 b_kep ++ hC2 b_mp b_mw b_mu b_mn b_mi b_mc b_md b_mo b_ms b_mq b_se b_re))))) 27 _ = hMod t ++ (hC1 b_let b_lc b_rt b_rl b_ra b_rf b_rn b_rc b_im b_sc ++ (hTw 16 b_now ++ (hTwC 24 c_kind c_wakes X c_due c_cost c_people c_door c_held c_keys c_watch c_pace c_ring ++ (hTw 32 b_kep ++ hC2 b_mp b_mw b_mu b_mn b_mi b_mc b_md b_mo b_ms b_mq b_se b_re))))
  rfl
theorem cc_dra_due {t : zMod} {b_let : Nat → Nat} {b_lc : Nat} {b_rt : Nat} {b_rl : Nat} {b_ra : Nat} {b_rf : Nat} {b_rn : Nat → Nat} {b_rc : Nat} {b_now : zTown} {b_kep : zTown} {b_im : Nat} {b_mp : Nat} {b_mw : Nat → Nat → Nat} {b_mu : Nat → Nat} {b_mn : Nat → Nat} {b_mi : Nat → Nat} {b_mc : Nat → Nat} {b_md : Nat → Nat} {b_mo : Nat → Nat} {b_ms : Nat → Nat} {b_mq : Nat → Int32} {b_se : Nat → Nat} {b_sc : Nat} {b_re : Nat → Nat} {c_kind : Nat → Nat} {c_wakes : Nat → Nat} {c_takes : Nat → Nat} {c_due : Nat → Nat} {c_cost : Nat → Nat} {c_people : Nat} {c_door : Nat → Nat} {c_held : Nat → Nat} {c_keys : Nat} {c_watch : Nat} {c_pace : Nat} {c_ring : Nat} {X : Nat → Nat} : zs (hA t (b_let, b_lc, b_rt, b_rl, b_ra, b_rf, b_rn, b_rc, b_now, (c_kind, c_wakes, c_takes, c_due, c_cost, c_people, c_door, c_held, c_keys, c_watch, c_pace, c_ring), b_kep, b_im, b_mp, b_mw, b_mu, b_mn, b_mi, b_mc, b_md, b_mo, b_ms, b_mq, b_se, b_sc, b_re)) 28 (zI 7 (fun i => nI (X i))) = hA t (b_let, b_lc, b_rt, b_rl, b_ra, b_rf, b_rn, b_rc, b_now, (c_kind, c_wakes, c_takes, X, c_cost, c_people, c_door, c_held, c_keys, c_watch, c_pace, c_ring), b_kep, b_im, b_mp, b_mw, b_mu, b_mn, b_mi, b_mc, b_md, b_mo, b_ms, b_mq, b_se, b_sc, b_re) := by
  show zs (hMod t ++ (hC1 b_let b_lc b_rt b_rl b_ra b_rf b_rn b_rc b_im b_sc ++ (hTw 16 b_now ++ (hTwC 24 c_kind c_wakes c_takes c_due c_cost c_people c_door c_held c_keys c_watch c_pace c_ring ++ (hTw 32 b_kep ++ hC2 b_mp b_mw b_mu b_mn b_mi b_mc b_md b_mo b_ms b_mq b_se b_re))))) 28 _ = hMod t ++ (hC1 b_let b_lc b_rt b_rl b_ra b_rf b_rn b_rc b_im b_sc ++ (hTw 16 b_now ++ (hTwC 24 c_kind c_wakes c_takes X c_cost c_people c_door c_held c_keys c_watch c_pace c_ring ++ (hTw 32 b_kep ++ hC2 b_mp b_mw b_mu b_mn b_mi b_mc b_md b_mo b_ms b_mq b_se b_re))))
  rfl
theorem cc_dra_cost {t : zMod} {b_let : Nat → Nat} {b_lc : Nat} {b_rt : Nat} {b_rl : Nat} {b_ra : Nat} {b_rf : Nat} {b_rn : Nat → Nat} {b_rc : Nat} {b_now : zTown} {b_kep : zTown} {b_im : Nat} {b_mp : Nat} {b_mw : Nat → Nat → Nat} {b_mu : Nat → Nat} {b_mn : Nat → Nat} {b_mi : Nat → Nat} {b_mc : Nat → Nat} {b_md : Nat → Nat} {b_mo : Nat → Nat} {b_ms : Nat → Nat} {b_mq : Nat → Int32} {b_se : Nat → Nat} {b_sc : Nat} {b_re : Nat → Nat} {c_kind : Nat → Nat} {c_wakes : Nat → Nat} {c_takes : Nat → Nat} {c_due : Nat → Nat} {c_cost : Nat → Nat} {c_people : Nat} {c_door : Nat → Nat} {c_held : Nat → Nat} {c_keys : Nat} {c_watch : Nat} {c_pace : Nat} {c_ring : Nat} {X : Nat → Nat} : zs (hA t (b_let, b_lc, b_rt, b_rl, b_ra, b_rf, b_rn, b_rc, b_now, (c_kind, c_wakes, c_takes, c_due, c_cost, c_people, c_door, c_held, c_keys, c_watch, c_pace, c_ring), b_kep, b_im, b_mp, b_mw, b_mu, b_mn, b_mi, b_mc, b_md, b_mo, b_ms, b_mq, b_se, b_sc, b_re)) 29 (zI 7 (fun i => nI (X i))) = hA t (b_let, b_lc, b_rt, b_rl, b_ra, b_rf, b_rn, b_rc, b_now, (c_kind, c_wakes, c_takes, c_due, X, c_people, c_door, c_held, c_keys, c_watch, c_pace, c_ring), b_kep, b_im, b_mp, b_mw, b_mu, b_mn, b_mi, b_mc, b_md, b_mo, b_ms, b_mq, b_se, b_sc, b_re) := by
  show zs (hMod t ++ (hC1 b_let b_lc b_rt b_rl b_ra b_rf b_rn b_rc b_im b_sc ++ (hTw 16 b_now ++ (hTwC 24 c_kind c_wakes c_takes c_due c_cost c_people c_door c_held c_keys c_watch c_pace c_ring ++ (hTw 32 b_kep ++ hC2 b_mp b_mw b_mu b_mn b_mi b_mc b_md b_mo b_ms b_mq b_se b_re))))) 29 _ = hMod t ++ (hC1 b_let b_lc b_rt b_rl b_ra b_rf b_rn b_rc b_im b_sc ++ (hTw 16 b_now ++ (hTwC 24 c_kind c_wakes c_takes c_due X c_people c_door c_held c_keys c_watch c_pace c_ring ++ (hTw 32 b_kep ++ hC2 b_mp b_mw b_mu b_mn b_mi b_mc b_md b_mo b_ms b_mq b_se b_re))))
  rfl
theorem cc_dra_door {t : zMod} {b_let : Nat → Nat} {b_lc : Nat} {b_rt : Nat} {b_rl : Nat} {b_ra : Nat} {b_rf : Nat} {b_rn : Nat → Nat} {b_rc : Nat} {b_now : zTown} {b_kep : zTown} {b_im : Nat} {b_mp : Nat} {b_mw : Nat → Nat → Nat} {b_mu : Nat → Nat} {b_mn : Nat → Nat} {b_mi : Nat → Nat} {b_mc : Nat → Nat} {b_md : Nat → Nat} {b_mo : Nat → Nat} {b_ms : Nat → Nat} {b_mq : Nat → Int32} {b_se : Nat → Nat} {b_sc : Nat} {b_re : Nat → Nat} {c_kind : Nat → Nat} {c_wakes : Nat → Nat} {c_takes : Nat → Nat} {c_due : Nat → Nat} {c_cost : Nat → Nat} {c_people : Nat} {c_door : Nat → Nat} {c_held : Nat → Nat} {c_keys : Nat} {c_watch : Nat} {c_pace : Nat} {c_ring : Nat} {X : Nat → Nat} : zs (hA t (b_let, b_lc, b_rt, b_rl, b_ra, b_rf, b_rn, b_rc, b_now, (c_kind, c_wakes, c_takes, c_due, c_cost, c_people, c_door, c_held, c_keys, c_watch, c_pace, c_ring), b_kep, b_im, b_mp, b_mw, b_mu, b_mn, b_mi, b_mc, b_md, b_mo, b_ms, b_mq, b_se, b_sc, b_re)) 30 (zI 10 (fun i => nI (X i))) = hA t (b_let, b_lc, b_rt, b_rl, b_ra, b_rf, b_rn, b_rc, b_now, (c_kind, c_wakes, c_takes, c_due, c_cost, c_people, X, c_held, c_keys, c_watch, c_pace, c_ring), b_kep, b_im, b_mp, b_mw, b_mu, b_mn, b_mi, b_mc, b_md, b_mo, b_ms, b_mq, b_se, b_sc, b_re) := by
  show zs (hMod t ++ (hC1 b_let b_lc b_rt b_rl b_ra b_rf b_rn b_rc b_im b_sc ++ (hTw 16 b_now ++ (hTwC 24 c_kind c_wakes c_takes c_due c_cost c_people c_door c_held c_keys c_watch c_pace c_ring ++ (hTw 32 b_kep ++ hC2 b_mp b_mw b_mu b_mn b_mi b_mc b_md b_mo b_ms b_mq b_se b_re))))) 30 _ = hMod t ++ (hC1 b_let b_lc b_rt b_rl b_ra b_rf b_rn b_rc b_im b_sc ++ (hTw 16 b_now ++ (hTwC 24 c_kind c_wakes c_takes c_due c_cost c_people X c_held c_keys c_watch c_pace c_ring ++ (hTw 32 b_kep ++ hC2 b_mp b_mw b_mu b_mn b_mi b_mc b_md b_mo b_ms b_mq b_se b_re))))
  rfl
theorem cc_dra_held {t : zMod} {b_let : Nat → Nat} {b_lc : Nat} {b_rt : Nat} {b_rl : Nat} {b_ra : Nat} {b_rf : Nat} {b_rn : Nat → Nat} {b_rc : Nat} {b_now : zTown} {b_kep : zTown} {b_im : Nat} {b_mp : Nat} {b_mw : Nat → Nat → Nat} {b_mu : Nat → Nat} {b_mn : Nat → Nat} {b_mi : Nat → Nat} {b_mc : Nat → Nat} {b_md : Nat → Nat} {b_mo : Nat → Nat} {b_ms : Nat → Nat} {b_mq : Nat → Int32} {b_se : Nat → Nat} {b_sc : Nat} {b_re : Nat → Nat} {c_kind : Nat → Nat} {c_wakes : Nat → Nat} {c_takes : Nat → Nat} {c_due : Nat → Nat} {c_cost : Nat → Nat} {c_people : Nat} {c_door : Nat → Nat} {c_held : Nat → Nat} {c_keys : Nat} {c_watch : Nat} {c_pace : Nat} {c_ring : Nat} {X : Nat → Nat} : zs (hA t (b_let, b_lc, b_rt, b_rl, b_ra, b_rf, b_rn, b_rc, b_now, (c_kind, c_wakes, c_takes, c_due, c_cost, c_people, c_door, c_held, c_keys, c_watch, c_pace, c_ring), b_kep, b_im, b_mp, b_mw, b_mu, b_mn, b_mi, b_mc, b_md, b_mo, b_ms, b_mq, b_se, b_sc, b_re)) 31 (zI 10 (fun i => nI (X i))) = hA t (b_let, b_lc, b_rt, b_rl, b_ra, b_rf, b_rn, b_rc, b_now, (c_kind, c_wakes, c_takes, c_due, c_cost, c_people, c_door, X, c_keys, c_watch, c_pace, c_ring), b_kep, b_im, b_mp, b_mw, b_mu, b_mn, b_mi, b_mc, b_md, b_mo, b_ms, b_mq, b_se, b_sc, b_re) := by
  show zs (hMod t ++ (hC1 b_let b_lc b_rt b_rl b_ra b_rf b_rn b_rc b_im b_sc ++ (hTw 16 b_now ++ (hTwC 24 c_kind c_wakes c_takes c_due c_cost c_people c_door c_held c_keys c_watch c_pace c_ring ++ (hTw 32 b_kep ++ hC2 b_mp b_mw b_mu b_mn b_mi b_mc b_md b_mo b_ms b_mq b_se b_re))))) 31 _ = hMod t ++ (hC1 b_let b_lc b_rt b_rl b_ra b_rf b_rn b_rc b_im b_sc ++ (hTw 16 b_now ++ (hTwC 24 c_kind c_wakes c_takes c_due c_cost c_people c_door X c_keys c_watch c_pace c_ring ++ (hTw 32 b_kep ++ hC2 b_mp b_mw b_mu b_mn b_mi b_mc b_md b_mo b_ms b_mq b_se b_re))))
  rfl
theorem cc_now_kind {t : zMod} {b_let : Nat → Nat} {b_lc : Nat} {b_rt : Nat} {b_rl : Nat} {b_ra : Nat} {b_rf : Nat} {b_rn : Nat → Nat} {b_rc : Nat} {b_dra : zTown} {b_kep : zTown} {b_im : Nat} {b_mp : Nat} {b_mw : Nat → Nat → Nat} {b_mu : Nat → Nat} {b_mn : Nat → Nat} {b_mi : Nat → Nat} {b_mc : Nat → Nat} {b_md : Nat → Nat} {b_mo : Nat → Nat} {b_ms : Nat → Nat} {b_mq : Nat → Int32} {b_se : Nat → Nat} {b_sc : Nat} {b_re : Nat → Nat} {c_kind : Nat → Nat} {c_wakes : Nat → Nat} {c_takes : Nat → Nat} {c_due : Nat → Nat} {c_cost : Nat → Nat} {c_people : Nat} {c_door : Nat → Nat} {c_held : Nat → Nat} {c_keys : Nat} {c_watch : Nat} {c_pace : Nat} {c_ring : Nat} {X : Nat → Nat} : zs (hA t (b_let, b_lc, b_rt, b_rl, b_ra, b_rf, b_rn, b_rc, (c_kind, c_wakes, c_takes, c_due, c_cost, c_people, c_door, c_held, c_keys, c_watch, c_pace, c_ring), b_dra, b_kep, b_im, b_mp, b_mw, b_mu, b_mn, b_mi, b_mc, b_md, b_mo, b_ms, b_mq, b_se, b_sc, b_re)) 17 (zI 7 (fun i => nI (X i))) = hA t (b_let, b_lc, b_rt, b_rl, b_ra, b_rf, b_rn, b_rc, (X, c_wakes, c_takes, c_due, c_cost, c_people, c_door, c_held, c_keys, c_watch, c_pace, c_ring), b_dra, b_kep, b_im, b_mp, b_mw, b_mu, b_mn, b_mi, b_mc, b_md, b_mo, b_ms, b_mq, b_se, b_sc, b_re) := by
  show zs (hMod t ++ (hC1 b_let b_lc b_rt b_rl b_ra b_rf b_rn b_rc b_im b_sc ++ (hTwC 16 c_kind c_wakes c_takes c_due c_cost c_people c_door c_held c_keys c_watch c_pace c_ring ++ (hTw 24 b_dra ++ (hTw 32 b_kep ++ hC2 b_mp b_mw b_mu b_mn b_mi b_mc b_md b_mo b_ms b_mq b_se b_re))))) 17 _ = hMod t ++ (hC1 b_let b_lc b_rt b_rl b_ra b_rf b_rn b_rc b_im b_sc ++ (hTwC 16 X c_wakes c_takes c_due c_cost c_people c_door c_held c_keys c_watch c_pace c_ring ++ (hTw 24 b_dra ++ (hTw 32 b_kep ++ hC2 b_mp b_mw b_mu b_mn b_mi b_mc b_md b_mo b_ms b_mq b_se b_re))))
  rfl
theorem cc_now_wakes {t : zMod} {b_let : Nat → Nat} {b_lc : Nat} {b_rt : Nat} {b_rl : Nat} {b_ra : Nat} {b_rf : Nat} {b_rn : Nat → Nat} {b_rc : Nat} {b_dra : zTown} {b_kep : zTown} {b_im : Nat} {b_mp : Nat} {b_mw : Nat → Nat → Nat} {b_mu : Nat → Nat} {b_mn : Nat → Nat} {b_mi : Nat → Nat} {b_mc : Nat → Nat} {b_md : Nat → Nat} {b_mo : Nat → Nat} {b_ms : Nat → Nat} {b_mq : Nat → Int32} {b_se : Nat → Nat} {b_sc : Nat} {b_re : Nat → Nat} {c_kind : Nat → Nat} {c_wakes : Nat → Nat} {c_takes : Nat → Nat} {c_due : Nat → Nat} {c_cost : Nat → Nat} {c_people : Nat} {c_door : Nat → Nat} {c_held : Nat → Nat} {c_keys : Nat} {c_watch : Nat} {c_pace : Nat} {c_ring : Nat} {X : Nat → Nat} : zs (hA t (b_let, b_lc, b_rt, b_rl, b_ra, b_rf, b_rn, b_rc, (c_kind, c_wakes, c_takes, c_due, c_cost, c_people, c_door, c_held, c_keys, c_watch, c_pace, c_ring), b_dra, b_kep, b_im, b_mp, b_mw, b_mu, b_mn, b_mi, b_mc, b_md, b_mo, b_ms, b_mq, b_se, b_sc, b_re)) 18 (zI 7 (fun i => nI (X i))) = hA t (b_let, b_lc, b_rt, b_rl, b_ra, b_rf, b_rn, b_rc, (c_kind, X, c_takes, c_due, c_cost, c_people, c_door, c_held, c_keys, c_watch, c_pace, c_ring), b_dra, b_kep, b_im, b_mp, b_mw, b_mu, b_mn, b_mi, b_mc, b_md, b_mo, b_ms, b_mq, b_se, b_sc, b_re) := by
  show zs (hMod t ++ (hC1 b_let b_lc b_rt b_rl b_ra b_rf b_rn b_rc b_im b_sc ++ (hTwC 16 c_kind c_wakes c_takes c_due c_cost c_people c_door c_held c_keys c_watch c_pace c_ring ++ (hTw 24 b_dra ++ (hTw 32 b_kep ++ hC2 b_mp b_mw b_mu b_mn b_mi b_mc b_md b_mo b_ms b_mq b_se b_re))))) 18 _ = hMod t ++ (hC1 b_let b_lc b_rt b_rl b_ra b_rf b_rn b_rc b_im b_sc ++ (hTwC 16 c_kind X c_takes c_due c_cost c_people c_door c_held c_keys c_watch c_pace c_ring ++ (hTw 24 b_dra ++ (hTw 32 b_kep ++ hC2 b_mp b_mw b_mu b_mn b_mi b_mc b_md b_mo b_ms b_mq b_se b_re))))
  rfl
theorem cc_now_takes {t : zMod} {b_let : Nat → Nat} {b_lc : Nat} {b_rt : Nat} {b_rl : Nat} {b_ra : Nat} {b_rf : Nat} {b_rn : Nat → Nat} {b_rc : Nat} {b_dra : zTown} {b_kep : zTown} {b_im : Nat} {b_mp : Nat} {b_mw : Nat → Nat → Nat} {b_mu : Nat → Nat} {b_mn : Nat → Nat} {b_mi : Nat → Nat} {b_mc : Nat → Nat} {b_md : Nat → Nat} {b_mo : Nat → Nat} {b_ms : Nat → Nat} {b_mq : Nat → Int32} {b_se : Nat → Nat} {b_sc : Nat} {b_re : Nat → Nat} {c_kind : Nat → Nat} {c_wakes : Nat → Nat} {c_takes : Nat → Nat} {c_due : Nat → Nat} {c_cost : Nat → Nat} {c_people : Nat} {c_door : Nat → Nat} {c_held : Nat → Nat} {c_keys : Nat} {c_watch : Nat} {c_pace : Nat} {c_ring : Nat} {X : Nat → Nat} : zs (hA t (b_let, b_lc, b_rt, b_rl, b_ra, b_rf, b_rn, b_rc, (c_kind, c_wakes, c_takes, c_due, c_cost, c_people, c_door, c_held, c_keys, c_watch, c_pace, c_ring), b_dra, b_kep, b_im, b_mp, b_mw, b_mu, b_mn, b_mi, b_mc, b_md, b_mo, b_ms, b_mq, b_se, b_sc, b_re)) 19 (zI 7 (fun i => nI (X i))) = hA t (b_let, b_lc, b_rt, b_rl, b_ra, b_rf, b_rn, b_rc, (c_kind, c_wakes, X, c_due, c_cost, c_people, c_door, c_held, c_keys, c_watch, c_pace, c_ring), b_dra, b_kep, b_im, b_mp, b_mw, b_mu, b_mn, b_mi, b_mc, b_md, b_mo, b_ms, b_mq, b_se, b_sc, b_re) := by
  show zs (hMod t ++ (hC1 b_let b_lc b_rt b_rl b_ra b_rf b_rn b_rc b_im b_sc ++ (hTwC 16 c_kind c_wakes c_takes c_due c_cost c_people c_door c_held c_keys c_watch c_pace c_ring ++ (hTw 24 b_dra ++ (hTw 32 b_kep ++ hC2 b_mp b_mw b_mu b_mn b_mi b_mc b_md b_mo b_ms b_mq b_se b_re))))) 19 _ = hMod t ++ (hC1 b_let b_lc b_rt b_rl b_ra b_rf b_rn b_rc b_im b_sc ++ (hTwC 16 c_kind c_wakes X c_due c_cost c_people c_door c_held c_keys c_watch c_pace c_ring ++ (hTw 24 b_dra ++ (hTw 32 b_kep ++ hC2 b_mp b_mw b_mu b_mn b_mi b_mc b_md b_mo b_ms b_mq b_se b_re))))
  rfl
theorem cc_now_due {t : zMod} {b_let : Nat → Nat} {b_lc : Nat} {b_rt : Nat} {b_rl : Nat} {b_ra : Nat} {b_rf : Nat} {b_rn : Nat → Nat} {b_rc : Nat} {b_dra : zTown} {b_kep : zTown} {b_im : Nat} {b_mp : Nat} {b_mw : Nat → Nat → Nat} {b_mu : Nat → Nat} {b_mn : Nat → Nat} {b_mi : Nat → Nat} {b_mc : Nat → Nat} {b_md : Nat → Nat} {b_mo : Nat → Nat} {b_ms : Nat → Nat} {b_mq : Nat → Int32} {b_se : Nat → Nat} {b_sc : Nat} {b_re : Nat → Nat} {c_kind : Nat → Nat} {c_wakes : Nat → Nat} {c_takes : Nat → Nat} {c_due : Nat → Nat} {c_cost : Nat → Nat} {c_people : Nat} {c_door : Nat → Nat} {c_held : Nat → Nat} {c_keys : Nat} {c_watch : Nat} {c_pace : Nat} {c_ring : Nat} {X : Nat → Nat} : zs (hA t (b_let, b_lc, b_rt, b_rl, b_ra, b_rf, b_rn, b_rc, (c_kind, c_wakes, c_takes, c_due, c_cost, c_people, c_door, c_held, c_keys, c_watch, c_pace, c_ring), b_dra, b_kep, b_im, b_mp, b_mw, b_mu, b_mn, b_mi, b_mc, b_md, b_mo, b_ms, b_mq, b_se, b_sc, b_re)) 20 (zI 7 (fun i => nI (X i))) = hA t (b_let, b_lc, b_rt, b_rl, b_ra, b_rf, b_rn, b_rc, (c_kind, c_wakes, c_takes, X, c_cost, c_people, c_door, c_held, c_keys, c_watch, c_pace, c_ring), b_dra, b_kep, b_im, b_mp, b_mw, b_mu, b_mn, b_mi, b_mc, b_md, b_mo, b_ms, b_mq, b_se, b_sc, b_re) := by
  show zs (hMod t ++ (hC1 b_let b_lc b_rt b_rl b_ra b_rf b_rn b_rc b_im b_sc ++ (hTwC 16 c_kind c_wakes c_takes c_due c_cost c_people c_door c_held c_keys c_watch c_pace c_ring ++ (hTw 24 b_dra ++ (hTw 32 b_kep ++ hC2 b_mp b_mw b_mu b_mn b_mi b_mc b_md b_mo b_ms b_mq b_se b_re))))) 20 _ = hMod t ++ (hC1 b_let b_lc b_rt b_rl b_ra b_rf b_rn b_rc b_im b_sc ++ (hTwC 16 c_kind c_wakes c_takes X c_cost c_people c_door c_held c_keys c_watch c_pace c_ring ++ (hTw 24 b_dra ++ (hTw 32 b_kep ++ hC2 b_mp b_mw b_mu b_mn b_mi b_mc b_md b_mo b_ms b_mq b_se b_re))))
  rfl
theorem cc_now_cost {t : zMod} {b_let : Nat → Nat} {b_lc : Nat} {b_rt : Nat} {b_rl : Nat} {b_ra : Nat} {b_rf : Nat} {b_rn : Nat → Nat} {b_rc : Nat} {b_dra : zTown} {b_kep : zTown} {b_im : Nat} {b_mp : Nat} {b_mw : Nat → Nat → Nat} {b_mu : Nat → Nat} {b_mn : Nat → Nat} {b_mi : Nat → Nat} {b_mc : Nat → Nat} {b_md : Nat → Nat} {b_mo : Nat → Nat} {b_ms : Nat → Nat} {b_mq : Nat → Int32} {b_se : Nat → Nat} {b_sc : Nat} {b_re : Nat → Nat} {c_kind : Nat → Nat} {c_wakes : Nat → Nat} {c_takes : Nat → Nat} {c_due : Nat → Nat} {c_cost : Nat → Nat} {c_people : Nat} {c_door : Nat → Nat} {c_held : Nat → Nat} {c_keys : Nat} {c_watch : Nat} {c_pace : Nat} {c_ring : Nat} {X : Nat → Nat} : zs (hA t (b_let, b_lc, b_rt, b_rl, b_ra, b_rf, b_rn, b_rc, (c_kind, c_wakes, c_takes, c_due, c_cost, c_people, c_door, c_held, c_keys, c_watch, c_pace, c_ring), b_dra, b_kep, b_im, b_mp, b_mw, b_mu, b_mn, b_mi, b_mc, b_md, b_mo, b_ms, b_mq, b_se, b_sc, b_re)) 21 (zI 7 (fun i => nI (X i))) = hA t (b_let, b_lc, b_rt, b_rl, b_ra, b_rf, b_rn, b_rc, (c_kind, c_wakes, c_takes, c_due, X, c_people, c_door, c_held, c_keys, c_watch, c_pace, c_ring), b_dra, b_kep, b_im, b_mp, b_mw, b_mu, b_mn, b_mi, b_mc, b_md, b_mo, b_ms, b_mq, b_se, b_sc, b_re) := by
  show zs (hMod t ++ (hC1 b_let b_lc b_rt b_rl b_ra b_rf b_rn b_rc b_im b_sc ++ (hTwC 16 c_kind c_wakes c_takes c_due c_cost c_people c_door c_held c_keys c_watch c_pace c_ring ++ (hTw 24 b_dra ++ (hTw 32 b_kep ++ hC2 b_mp b_mw b_mu b_mn b_mi b_mc b_md b_mo b_ms b_mq b_se b_re))))) 21 _ = hMod t ++ (hC1 b_let b_lc b_rt b_rl b_ra b_rf b_rn b_rc b_im b_sc ++ (hTwC 16 c_kind c_wakes c_takes c_due X c_people c_door c_held c_keys c_watch c_pace c_ring ++ (hTw 24 b_dra ++ (hTw 32 b_kep ++ hC2 b_mp b_mw b_mu b_mn b_mi b_mc b_md b_mo b_ms b_mq b_se b_re))))
  rfl
theorem cc_now_door {t : zMod} {b_let : Nat → Nat} {b_lc : Nat} {b_rt : Nat} {b_rl : Nat} {b_ra : Nat} {b_rf : Nat} {b_rn : Nat → Nat} {b_rc : Nat} {b_dra : zTown} {b_kep : zTown} {b_im : Nat} {b_mp : Nat} {b_mw : Nat → Nat → Nat} {b_mu : Nat → Nat} {b_mn : Nat → Nat} {b_mi : Nat → Nat} {b_mc : Nat → Nat} {b_md : Nat → Nat} {b_mo : Nat → Nat} {b_ms : Nat → Nat} {b_mq : Nat → Int32} {b_se : Nat → Nat} {b_sc : Nat} {b_re : Nat → Nat} {c_kind : Nat → Nat} {c_wakes : Nat → Nat} {c_takes : Nat → Nat} {c_due : Nat → Nat} {c_cost : Nat → Nat} {c_people : Nat} {c_door : Nat → Nat} {c_held : Nat → Nat} {c_keys : Nat} {c_watch : Nat} {c_pace : Nat} {c_ring : Nat} {X : Nat → Nat} : zs (hA t (b_let, b_lc, b_rt, b_rl, b_ra, b_rf, b_rn, b_rc, (c_kind, c_wakes, c_takes, c_due, c_cost, c_people, c_door, c_held, c_keys, c_watch, c_pace, c_ring), b_dra, b_kep, b_im, b_mp, b_mw, b_mu, b_mn, b_mi, b_mc, b_md, b_mo, b_ms, b_mq, b_se, b_sc, b_re)) 22 (zI 10 (fun i => nI (X i))) = hA t (b_let, b_lc, b_rt, b_rl, b_ra, b_rf, b_rn, b_rc, (c_kind, c_wakes, c_takes, c_due, c_cost, c_people, X, c_held, c_keys, c_watch, c_pace, c_ring), b_dra, b_kep, b_im, b_mp, b_mw, b_mu, b_mn, b_mi, b_mc, b_md, b_mo, b_ms, b_mq, b_se, b_sc, b_re) := by
  show zs (hMod t ++ (hC1 b_let b_lc b_rt b_rl b_ra b_rf b_rn b_rc b_im b_sc ++ (hTwC 16 c_kind c_wakes c_takes c_due c_cost c_people c_door c_held c_keys c_watch c_pace c_ring ++ (hTw 24 b_dra ++ (hTw 32 b_kep ++ hC2 b_mp b_mw b_mu b_mn b_mi b_mc b_md b_mo b_ms b_mq b_se b_re))))) 22 _ = hMod t ++ (hC1 b_let b_lc b_rt b_rl b_ra b_rf b_rn b_rc b_im b_sc ++ (hTwC 16 c_kind c_wakes c_takes c_due c_cost c_people X c_held c_keys c_watch c_pace c_ring ++ (hTw 24 b_dra ++ (hTw 32 b_kep ++ hC2 b_mp b_mw b_mu b_mn b_mi b_mc b_md b_mo b_ms b_mq b_se b_re))))
  rfl
theorem cc_now_held {t : zMod} {b_let : Nat → Nat} {b_lc : Nat} {b_rt : Nat} {b_rl : Nat} {b_ra : Nat} {b_rf : Nat} {b_rn : Nat → Nat} {b_rc : Nat} {b_dra : zTown} {b_kep : zTown} {b_im : Nat} {b_mp : Nat} {b_mw : Nat → Nat → Nat} {b_mu : Nat → Nat} {b_mn : Nat → Nat} {b_mi : Nat → Nat} {b_mc : Nat → Nat} {b_md : Nat → Nat} {b_mo : Nat → Nat} {b_ms : Nat → Nat} {b_mq : Nat → Int32} {b_se : Nat → Nat} {b_sc : Nat} {b_re : Nat → Nat} {c_kind : Nat → Nat} {c_wakes : Nat → Nat} {c_takes : Nat → Nat} {c_due : Nat → Nat} {c_cost : Nat → Nat} {c_people : Nat} {c_door : Nat → Nat} {c_held : Nat → Nat} {c_keys : Nat} {c_watch : Nat} {c_pace : Nat} {c_ring : Nat} {X : Nat → Nat} : zs (hA t (b_let, b_lc, b_rt, b_rl, b_ra, b_rf, b_rn, b_rc, (c_kind, c_wakes, c_takes, c_due, c_cost, c_people, c_door, c_held, c_keys, c_watch, c_pace, c_ring), b_dra, b_kep, b_im, b_mp, b_mw, b_mu, b_mn, b_mi, b_mc, b_md, b_mo, b_ms, b_mq, b_se, b_sc, b_re)) 23 (zI 10 (fun i => nI (X i))) = hA t (b_let, b_lc, b_rt, b_rl, b_ra, b_rf, b_rn, b_rc, (c_kind, c_wakes, c_takes, c_due, c_cost, c_people, c_door, X, c_keys, c_watch, c_pace, c_ring), b_dra, b_kep, b_im, b_mp, b_mw, b_mu, b_mn, b_mi, b_mc, b_md, b_mo, b_ms, b_mq, b_se, b_sc, b_re) := by
  show zs (hMod t ++ (hC1 b_let b_lc b_rt b_rl b_ra b_rf b_rn b_rc b_im b_sc ++ (hTwC 16 c_kind c_wakes c_takes c_due c_cost c_people c_door c_held c_keys c_watch c_pace c_ring ++ (hTw 24 b_dra ++ (hTw 32 b_kep ++ hC2 b_mp b_mw b_mu b_mn b_mi b_mc b_md b_mo b_ms b_mq b_se b_re))))) 23 _ = hMod t ++ (hC1 b_let b_lc b_rt b_rl b_ra b_rf b_rn b_rc b_im b_sc ++ (hTwC 16 c_kind c_wakes c_takes c_due c_cost c_people c_door X c_keys c_watch c_pace c_ring ++ (hTw 24 b_dra ++ (hTw 32 b_kep ++ hC2 b_mp b_mw b_mu b_mn b_mi b_mc b_md b_mo b_ms b_mq b_se b_re))))
  rfl
theorem cc_kep_kind {t : zMod} {b_let : Nat → Nat} {b_lc : Nat} {b_rt : Nat} {b_rl : Nat} {b_ra : Nat} {b_rf : Nat} {b_rn : Nat → Nat} {b_rc : Nat} {b_now : zTown} {b_dra : zTown} {b_im : Nat} {b_mp : Nat} {b_mw : Nat → Nat → Nat} {b_mu : Nat → Nat} {b_mn : Nat → Nat} {b_mi : Nat → Nat} {b_mc : Nat → Nat} {b_md : Nat → Nat} {b_mo : Nat → Nat} {b_ms : Nat → Nat} {b_mq : Nat → Int32} {b_se : Nat → Nat} {b_sc : Nat} {b_re : Nat → Nat} {c_kind : Nat → Nat} {c_wakes : Nat → Nat} {c_takes : Nat → Nat} {c_due : Nat → Nat} {c_cost : Nat → Nat} {c_people : Nat} {c_door : Nat → Nat} {c_held : Nat → Nat} {c_keys : Nat} {c_watch : Nat} {c_pace : Nat} {c_ring : Nat} {X : Nat → Nat} : zs (hA t (b_let, b_lc, b_rt, b_rl, b_ra, b_rf, b_rn, b_rc, b_now, b_dra, (c_kind, c_wakes, c_takes, c_due, c_cost, c_people, c_door, c_held, c_keys, c_watch, c_pace, c_ring), b_im, b_mp, b_mw, b_mu, b_mn, b_mi, b_mc, b_md, b_mo, b_ms, b_mq, b_se, b_sc, b_re)) 33 (zI 7 (fun i => nI (X i))) = hA t (b_let, b_lc, b_rt, b_rl, b_ra, b_rf, b_rn, b_rc, b_now, b_dra, (X, c_wakes, c_takes, c_due, c_cost, c_people, c_door, c_held, c_keys, c_watch, c_pace, c_ring), b_im, b_mp, b_mw, b_mu, b_mn, b_mi, b_mc, b_md, b_mo, b_ms, b_mq, b_se, b_sc, b_re) := by
  show zs (hMod t ++ (hC1 b_let b_lc b_rt b_rl b_ra b_rf b_rn b_rc b_im b_sc ++ (hTw 16 b_now ++ (hTw 24 b_dra ++ (hTwC 32 c_kind c_wakes c_takes c_due c_cost c_people c_door c_held c_keys c_watch c_pace c_ring ++ hC2 b_mp b_mw b_mu b_mn b_mi b_mc b_md b_mo b_ms b_mq b_se b_re))))) 33 _ = hMod t ++ (hC1 b_let b_lc b_rt b_rl b_ra b_rf b_rn b_rc b_im b_sc ++ (hTw 16 b_now ++ (hTw 24 b_dra ++ (hTwC 32 X c_wakes c_takes c_due c_cost c_people c_door c_held c_keys c_watch c_pace c_ring ++ hC2 b_mp b_mw b_mu b_mn b_mi b_mc b_md b_mo b_ms b_mq b_se b_re))))
  rfl
theorem cc_kep_wakes {t : zMod} {b_let : Nat → Nat} {b_lc : Nat} {b_rt : Nat} {b_rl : Nat} {b_ra : Nat} {b_rf : Nat} {b_rn : Nat → Nat} {b_rc : Nat} {b_now : zTown} {b_dra : zTown} {b_im : Nat} {b_mp : Nat} {b_mw : Nat → Nat → Nat} {b_mu : Nat → Nat} {b_mn : Nat → Nat} {b_mi : Nat → Nat} {b_mc : Nat → Nat} {b_md : Nat → Nat} {b_mo : Nat → Nat} {b_ms : Nat → Nat} {b_mq : Nat → Int32} {b_se : Nat → Nat} {b_sc : Nat} {b_re : Nat → Nat} {c_kind : Nat → Nat} {c_wakes : Nat → Nat} {c_takes : Nat → Nat} {c_due : Nat → Nat} {c_cost : Nat → Nat} {c_people : Nat} {c_door : Nat → Nat} {c_held : Nat → Nat} {c_keys : Nat} {c_watch : Nat} {c_pace : Nat} {c_ring : Nat} {X : Nat → Nat} : zs (hA t (b_let, b_lc, b_rt, b_rl, b_ra, b_rf, b_rn, b_rc, b_now, b_dra, (c_kind, c_wakes, c_takes, c_due, c_cost, c_people, c_door, c_held, c_keys, c_watch, c_pace, c_ring), b_im, b_mp, b_mw, b_mu, b_mn, b_mi, b_mc, b_md, b_mo, b_ms, b_mq, b_se, b_sc, b_re)) 34 (zI 7 (fun i => nI (X i))) = hA t (b_let, b_lc, b_rt, b_rl, b_ra, b_rf, b_rn, b_rc, b_now, b_dra, (c_kind, X, c_takes, c_due, c_cost, c_people, c_door, c_held, c_keys, c_watch, c_pace, c_ring), b_im, b_mp, b_mw, b_mu, b_mn, b_mi, b_mc, b_md, b_mo, b_ms, b_mq, b_se, b_sc, b_re) := by
  show zs (hMod t ++ (hC1 b_let b_lc b_rt b_rl b_ra b_rf b_rn b_rc b_im b_sc ++ (hTw 16 b_now ++ (hTw 24 b_dra ++ (hTwC 32 c_kind c_wakes c_takes c_due c_cost c_people c_door c_held c_keys c_watch c_pace c_ring ++ hC2 b_mp b_mw b_mu b_mn b_mi b_mc b_md b_mo b_ms b_mq b_se b_re))))) 34 _ = hMod t ++ (hC1 b_let b_lc b_rt b_rl b_ra b_rf b_rn b_rc b_im b_sc ++ (hTw 16 b_now ++ (hTw 24 b_dra ++ (hTwC 32 c_kind X c_takes c_due c_cost c_people c_door c_held c_keys c_watch c_pace c_ring ++ hC2 b_mp b_mw b_mu b_mn b_mi b_mc b_md b_mo b_ms b_mq b_se b_re))))
  rfl
theorem cc_kep_takes {t : zMod} {b_let : Nat → Nat} {b_lc : Nat} {b_rt : Nat} {b_rl : Nat} {b_ra : Nat} {b_rf : Nat} {b_rn : Nat → Nat} {b_rc : Nat} {b_now : zTown} {b_dra : zTown} {b_im : Nat} {b_mp : Nat} {b_mw : Nat → Nat → Nat} {b_mu : Nat → Nat} {b_mn : Nat → Nat} {b_mi : Nat → Nat} {b_mc : Nat → Nat} {b_md : Nat → Nat} {b_mo : Nat → Nat} {b_ms : Nat → Nat} {b_mq : Nat → Int32} {b_se : Nat → Nat} {b_sc : Nat} {b_re : Nat → Nat} {c_kind : Nat → Nat} {c_wakes : Nat → Nat} {c_takes : Nat → Nat} {c_due : Nat → Nat} {c_cost : Nat → Nat} {c_people : Nat} {c_door : Nat → Nat} {c_held : Nat → Nat} {c_keys : Nat} {c_watch : Nat} {c_pace : Nat} {c_ring : Nat} {X : Nat → Nat} : zs (hA t (b_let, b_lc, b_rt, b_rl, b_ra, b_rf, b_rn, b_rc, b_now, b_dra, (c_kind, c_wakes, c_takes, c_due, c_cost, c_people, c_door, c_held, c_keys, c_watch, c_pace, c_ring), b_im, b_mp, b_mw, b_mu, b_mn, b_mi, b_mc, b_md, b_mo, b_ms, b_mq, b_se, b_sc, b_re)) 35 (zI 7 (fun i => nI (X i))) = hA t (b_let, b_lc, b_rt, b_rl, b_ra, b_rf, b_rn, b_rc, b_now, b_dra, (c_kind, c_wakes, X, c_due, c_cost, c_people, c_door, c_held, c_keys, c_watch, c_pace, c_ring), b_im, b_mp, b_mw, b_mu, b_mn, b_mi, b_mc, b_md, b_mo, b_ms, b_mq, b_se, b_sc, b_re) := by
  show zs (hMod t ++ (hC1 b_let b_lc b_rt b_rl b_ra b_rf b_rn b_rc b_im b_sc ++ (hTw 16 b_now ++ (hTw 24 b_dra ++ (hTwC 32 c_kind c_wakes c_takes c_due c_cost c_people c_door c_held c_keys c_watch c_pace c_ring ++ hC2 b_mp b_mw b_mu b_mn b_mi b_mc b_md b_mo b_ms b_mq b_se b_re))))) 35 _ = hMod t ++ (hC1 b_let b_lc b_rt b_rl b_ra b_rf b_rn b_rc b_im b_sc ++ (hTw 16 b_now ++ (hTw 24 b_dra ++ (hTwC 32 c_kind c_wakes X c_due c_cost c_people c_door c_held c_keys c_watch c_pace c_ring ++ hC2 b_mp b_mw b_mu b_mn b_mi b_mc b_md b_mo b_ms b_mq b_se b_re))))
  rfl
theorem cc_kep_due {t : zMod} {b_let : Nat → Nat} {b_lc : Nat} {b_rt : Nat} {b_rl : Nat} {b_ra : Nat} {b_rf : Nat} {b_rn : Nat → Nat} {b_rc : Nat} {b_now : zTown} {b_dra : zTown} {b_im : Nat} {b_mp : Nat} {b_mw : Nat → Nat → Nat} {b_mu : Nat → Nat} {b_mn : Nat → Nat} {b_mi : Nat → Nat} {b_mc : Nat → Nat} {b_md : Nat → Nat} {b_mo : Nat → Nat} {b_ms : Nat → Nat} {b_mq : Nat → Int32} {b_se : Nat → Nat} {b_sc : Nat} {b_re : Nat → Nat} {c_kind : Nat → Nat} {c_wakes : Nat → Nat} {c_takes : Nat → Nat} {c_due : Nat → Nat} {c_cost : Nat → Nat} {c_people : Nat} {c_door : Nat → Nat} {c_held : Nat → Nat} {c_keys : Nat} {c_watch : Nat} {c_pace : Nat} {c_ring : Nat} {X : Nat → Nat} : zs (hA t (b_let, b_lc, b_rt, b_rl, b_ra, b_rf, b_rn, b_rc, b_now, b_dra, (c_kind, c_wakes, c_takes, c_due, c_cost, c_people, c_door, c_held, c_keys, c_watch, c_pace, c_ring), b_im, b_mp, b_mw, b_mu, b_mn, b_mi, b_mc, b_md, b_mo, b_ms, b_mq, b_se, b_sc, b_re)) 36 (zI 7 (fun i => nI (X i))) = hA t (b_let, b_lc, b_rt, b_rl, b_ra, b_rf, b_rn, b_rc, b_now, b_dra, (c_kind, c_wakes, c_takes, X, c_cost, c_people, c_door, c_held, c_keys, c_watch, c_pace, c_ring), b_im, b_mp, b_mw, b_mu, b_mn, b_mi, b_mc, b_md, b_mo, b_ms, b_mq, b_se, b_sc, b_re) := by
  show zs (hMod t ++ (hC1 b_let b_lc b_rt b_rl b_ra b_rf b_rn b_rc b_im b_sc ++ (hTw 16 b_now ++ (hTw 24 b_dra ++ (hTwC 32 c_kind c_wakes c_takes c_due c_cost c_people c_door c_held c_keys c_watch c_pace c_ring ++ hC2 b_mp b_mw b_mu b_mn b_mi b_mc b_md b_mo b_ms b_mq b_se b_re))))) 36 _ = hMod t ++ (hC1 b_let b_lc b_rt b_rl b_ra b_rf b_rn b_rc b_im b_sc ++ (hTw 16 b_now ++ (hTw 24 b_dra ++ (hTwC 32 c_kind c_wakes c_takes X c_cost c_people c_door c_held c_keys c_watch c_pace c_ring ++ hC2 b_mp b_mw b_mu b_mn b_mi b_mc b_md b_mo b_ms b_mq b_se b_re))))
  rfl
theorem cc_kep_cost {t : zMod} {b_let : Nat → Nat} {b_lc : Nat} {b_rt : Nat} {b_rl : Nat} {b_ra : Nat} {b_rf : Nat} {b_rn : Nat → Nat} {b_rc : Nat} {b_now : zTown} {b_dra : zTown} {b_im : Nat} {b_mp : Nat} {b_mw : Nat → Nat → Nat} {b_mu : Nat → Nat} {b_mn : Nat → Nat} {b_mi : Nat → Nat} {b_mc : Nat → Nat} {b_md : Nat → Nat} {b_mo : Nat → Nat} {b_ms : Nat → Nat} {b_mq : Nat → Int32} {b_se : Nat → Nat} {b_sc : Nat} {b_re : Nat → Nat} {c_kind : Nat → Nat} {c_wakes : Nat → Nat} {c_takes : Nat → Nat} {c_due : Nat → Nat} {c_cost : Nat → Nat} {c_people : Nat} {c_door : Nat → Nat} {c_held : Nat → Nat} {c_keys : Nat} {c_watch : Nat} {c_pace : Nat} {c_ring : Nat} {X : Nat → Nat} : zs (hA t (b_let, b_lc, b_rt, b_rl, b_ra, b_rf, b_rn, b_rc, b_now, b_dra, (c_kind, c_wakes, c_takes, c_due, c_cost, c_people, c_door, c_held, c_keys, c_watch, c_pace, c_ring), b_im, b_mp, b_mw, b_mu, b_mn, b_mi, b_mc, b_md, b_mo, b_ms, b_mq, b_se, b_sc, b_re)) 37 (zI 7 (fun i => nI (X i))) = hA t (b_let, b_lc, b_rt, b_rl, b_ra, b_rf, b_rn, b_rc, b_now, b_dra, (c_kind, c_wakes, c_takes, c_due, X, c_people, c_door, c_held, c_keys, c_watch, c_pace, c_ring), b_im, b_mp, b_mw, b_mu, b_mn, b_mi, b_mc, b_md, b_mo, b_ms, b_mq, b_se, b_sc, b_re) := by
  show zs (hMod t ++ (hC1 b_let b_lc b_rt b_rl b_ra b_rf b_rn b_rc b_im b_sc ++ (hTw 16 b_now ++ (hTw 24 b_dra ++ (hTwC 32 c_kind c_wakes c_takes c_due c_cost c_people c_door c_held c_keys c_watch c_pace c_ring ++ hC2 b_mp b_mw b_mu b_mn b_mi b_mc b_md b_mo b_ms b_mq b_se b_re))))) 37 _ = hMod t ++ (hC1 b_let b_lc b_rt b_rl b_ra b_rf b_rn b_rc b_im b_sc ++ (hTw 16 b_now ++ (hTw 24 b_dra ++ (hTwC 32 c_kind c_wakes c_takes c_due X c_people c_door c_held c_keys c_watch c_pace c_ring ++ hC2 b_mp b_mw b_mu b_mn b_mi b_mc b_md b_mo b_ms b_mq b_se b_re))))
  rfl
theorem cc_kep_door {t : zMod} {b_let : Nat → Nat} {b_lc : Nat} {b_rt : Nat} {b_rl : Nat} {b_ra : Nat} {b_rf : Nat} {b_rn : Nat → Nat} {b_rc : Nat} {b_now : zTown} {b_dra : zTown} {b_im : Nat} {b_mp : Nat} {b_mw : Nat → Nat → Nat} {b_mu : Nat → Nat} {b_mn : Nat → Nat} {b_mi : Nat → Nat} {b_mc : Nat → Nat} {b_md : Nat → Nat} {b_mo : Nat → Nat} {b_ms : Nat → Nat} {b_mq : Nat → Int32} {b_se : Nat → Nat} {b_sc : Nat} {b_re : Nat → Nat} {c_kind : Nat → Nat} {c_wakes : Nat → Nat} {c_takes : Nat → Nat} {c_due : Nat → Nat} {c_cost : Nat → Nat} {c_people : Nat} {c_door : Nat → Nat} {c_held : Nat → Nat} {c_keys : Nat} {c_watch : Nat} {c_pace : Nat} {c_ring : Nat} {X : Nat → Nat} : zs (hA t (b_let, b_lc, b_rt, b_rl, b_ra, b_rf, b_rn, b_rc, b_now, b_dra, (c_kind, c_wakes, c_takes, c_due, c_cost, c_people, c_door, c_held, c_keys, c_watch, c_pace, c_ring), b_im, b_mp, b_mw, b_mu, b_mn, b_mi, b_mc, b_md, b_mo, b_ms, b_mq, b_se, b_sc, b_re)) 38 (zI 10 (fun i => nI (X i))) = hA t (b_let, b_lc, b_rt, b_rl, b_ra, b_rf, b_rn, b_rc, b_now, b_dra, (c_kind, c_wakes, c_takes, c_due, c_cost, c_people, X, c_held, c_keys, c_watch, c_pace, c_ring), b_im, b_mp, b_mw, b_mu, b_mn, b_mi, b_mc, b_md, b_mo, b_ms, b_mq, b_se, b_sc, b_re) := by
  show zs (hMod t ++ (hC1 b_let b_lc b_rt b_rl b_ra b_rf b_rn b_rc b_im b_sc ++ (hTw 16 b_now ++ (hTw 24 b_dra ++ (hTwC 32 c_kind c_wakes c_takes c_due c_cost c_people c_door c_held c_keys c_watch c_pace c_ring ++ hC2 b_mp b_mw b_mu b_mn b_mi b_mc b_md b_mo b_ms b_mq b_se b_re))))) 38 _ = hMod t ++ (hC1 b_let b_lc b_rt b_rl b_ra b_rf b_rn b_rc b_im b_sc ++ (hTw 16 b_now ++ (hTw 24 b_dra ++ (hTwC 32 c_kind c_wakes c_takes c_due c_cost c_people X c_held c_keys c_watch c_pace c_ring ++ hC2 b_mp b_mw b_mu b_mn b_mi b_mc b_md b_mo b_ms b_mq b_se b_re))))
  rfl
theorem cc_kep_held {t : zMod} {b_let : Nat → Nat} {b_lc : Nat} {b_rt : Nat} {b_rl : Nat} {b_ra : Nat} {b_rf : Nat} {b_rn : Nat → Nat} {b_rc : Nat} {b_now : zTown} {b_dra : zTown} {b_im : Nat} {b_mp : Nat} {b_mw : Nat → Nat → Nat} {b_mu : Nat → Nat} {b_mn : Nat → Nat} {b_mi : Nat → Nat} {b_mc : Nat → Nat} {b_md : Nat → Nat} {b_mo : Nat → Nat} {b_ms : Nat → Nat} {b_mq : Nat → Int32} {b_se : Nat → Nat} {b_sc : Nat} {b_re : Nat → Nat} {c_kind : Nat → Nat} {c_wakes : Nat → Nat} {c_takes : Nat → Nat} {c_due : Nat → Nat} {c_cost : Nat → Nat} {c_people : Nat} {c_door : Nat → Nat} {c_held : Nat → Nat} {c_keys : Nat} {c_watch : Nat} {c_pace : Nat} {c_ring : Nat} {X : Nat → Nat} : zs (hA t (b_let, b_lc, b_rt, b_rl, b_ra, b_rf, b_rn, b_rc, b_now, b_dra, (c_kind, c_wakes, c_takes, c_due, c_cost, c_people, c_door, c_held, c_keys, c_watch, c_pace, c_ring), b_im, b_mp, b_mw, b_mu, b_mn, b_mi, b_mc, b_md, b_mo, b_ms, b_mq, b_se, b_sc, b_re)) 39 (zI 10 (fun i => nI (X i))) = hA t (b_let, b_lc, b_rt, b_rl, b_ra, b_rf, b_rn, b_rc, b_now, b_dra, (c_kind, c_wakes, c_takes, c_due, c_cost, c_people, c_door, X, c_keys, c_watch, c_pace, c_ring), b_im, b_mp, b_mw, b_mu, b_mn, b_mi, b_mc, b_md, b_mo, b_ms, b_mq, b_se, b_sc, b_re) := by
  show zs (hMod t ++ (hC1 b_let b_lc b_rt b_rl b_ra b_rf b_rn b_rc b_im b_sc ++ (hTw 16 b_now ++ (hTw 24 b_dra ++ (hTwC 32 c_kind c_wakes c_takes c_due c_cost c_people c_door c_held c_keys c_watch c_pace c_ring ++ hC2 b_mp b_mw b_mu b_mn b_mi b_mc b_md b_mo b_ms b_mq b_se b_re))))) 39 _ = hMod t ++ (hC1 b_let b_lc b_rt b_rl b_ra b_rf b_rn b_rc b_im b_sc ++ (hTw 16 b_now ++ (hTw 24 b_dra ++ (hTwC 32 c_kind c_wakes c_takes c_due c_cost c_people c_door X c_keys c_watch c_pace c_ring ++ hC2 b_mp b_mw b_mu b_mn b_mi b_mc b_md b_mo b_ms b_mq b_se b_re))))
  rfl
set_option maxHeartbeats 1000000 in
set_option maxRecDepth 100000 in
theorem s2_become_dra_now {t : zMod} {u : zCls} (hr : tg_ring (cg_now u) ≤ 1) : Mv mX2_become 2 [.ref 24, .ref 16] (hA t u) (fun h' => h' = hA t (cg_let u, cg_lc u, cg_rt u, cg_rl u, cg_ra u, cg_rf u, cg_rn u, cg_rc u, cg_now u, (zbec (cg_now u) (cg_dra u)), cg_kep u, cg_im u, cg_mp u, cg_mw u, cg_mu u, cg_mn u, cg_mi u, cg_mc u, cg_md u, cg_mo u, cg_ms u, cg_mq u, cg_se u, cg_sc u, cg_re u)) := by
  refine Mv.of (by decide) rfl rfl (Nat.le_of_ble_eq_true rfl) ?_
  refine r_aload_n eX2_become_0 rfl rfl ?_
  refine r_getf (v := .ref 17) eX2_become_1 fX2_9 rfl rfl ?_
  refine n_iconst 0 eX2_become_4 rfl ?_
  refine r_aload_n eX2_become_5 rfl rfl ?_
  refine r_getf (v := .ref 25) eX2_become_6 fX2_9 rfl rfl ?_
  refine n_iconst 0 eX2_become_9 rfl ?_
  refine n_bipush 7 eX2_become_10 rfl ?_
  refine z_h (h' := hA t (cg_let u, cg_lc u, cg_rt u, cg_rl u, cg_ra u, cg_rf u, cg_rn u, cg_rc u, cg_now u, (tg_kind (cg_dra u), tg_wakes (cg_dra u), tg_takes (cg_dra u), tg_due (cg_dra u), tg_cost (cg_dra u), tg_people (cg_dra u), tg_door (cg_dra u), tg_held (cg_dra u), tg_keys (cg_dra u), tg_watch (cg_dra u), tg_pace (cg_dra u), tg_ring (cg_dra u)), cg_kep u, cg_im u, cg_mp u, cg_mw u, cg_mu u, cg_mn u, cg_mi u, cg_mc u, cg_md u, cg_mo u, cg_ms u, cg_mq u, cg_se u, cg_sc u, cg_re u)) rfl ?_
  refine r_copy (f := fun i => nI ((tg_kind (cg_now u)) i)) (g := fun i => nI ((tg_kind (cg_dra u)) i)) (sp := 0) (dp := 0) (n := 7) eX2_become_12 lX2_37 (by omega) (Nat.le_of_ble_eq_true rfl) rfl rfl rfl rfl rfl (by decide) (by decide) (by decide) (by decide) ?_
  refine z_h ((congrArg (fun q => zs (hA t (cg_let u, cg_lc u, cg_rt u, cg_rl u, cg_ra u, cg_rf u, cg_rn u, cg_rc u, cg_now u, (tg_kind (cg_dra u), tg_wakes (cg_dra u), tg_takes (cg_dra u), tg_due (cg_dra u), tg_cost (cg_dra u), tg_people (cg_dra u), tg_door (cg_dra u), tg_held (cg_dra u), tg_keys (cg_dra u), tg_watch (cg_dra u), tg_pace (cg_dra u), tg_ring (cg_dra u)), cg_kep u, cg_im u, cg_mp u, cg_mw u, cg_mu u, cg_mn u, cg_mi u, cg_mc u, cg_md u, cg_mo u, cg_ms u, cg_mq u, cg_se u, cg_sc u, cg_re u)) 25 (zI 7 q)) (zcpy (tg_kind (cg_now u)) (tg_kind (cg_dra u)) 7)).trans cc_dra_kind) ?_
  refine r_aload_n eX2_become_15 rfl rfl ?_
  refine r_getf (v := .ref 18) eX2_become_16 fX2_15 rfl rfl ?_
  refine n_iconst 0 eX2_become_19 rfl ?_
  refine r_aload_n eX2_become_20 rfl rfl ?_
  refine r_getf (v := .ref 26) eX2_become_21 fX2_15 rfl rfl ?_
  refine n_iconst 0 eX2_become_24 rfl ?_
  refine n_bipush 7 eX2_become_25 rfl ?_
  refine r_copy (f := fun i => nI ((tg_wakes (cg_now u)) i)) (g := fun i => nI ((tg_wakes (cg_dra u)) i)) (sp := 0) (dp := 0) (n := 7) eX2_become_27 lX2_37 (by omega) (Nat.le_of_ble_eq_true rfl) rfl rfl rfl rfl rfl (by decide) (by decide) (by decide) (by decide) ?_
  refine z_h ((congrArg (fun q => zs (hA t (cg_let u, cg_lc u, cg_rt u, cg_rl u, cg_ra u, cg_rf u, cg_rn u, cg_rc u, cg_now u, ((zcp (tg_kind (cg_now u)) (tg_kind (cg_dra u)) 7), tg_wakes (cg_dra u), tg_takes (cg_dra u), tg_due (cg_dra u), tg_cost (cg_dra u), tg_people (cg_dra u), tg_door (cg_dra u), tg_held (cg_dra u), tg_keys (cg_dra u), tg_watch (cg_dra u), tg_pace (cg_dra u), tg_ring (cg_dra u)), cg_kep u, cg_im u, cg_mp u, cg_mw u, cg_mu u, cg_mn u, cg_mi u, cg_mc u, cg_md u, cg_mo u, cg_ms u, cg_mq u, cg_se u, cg_sc u, cg_re u)) 26 (zI 7 q)) (zcpy (tg_wakes (cg_now u)) (tg_wakes (cg_dra u)) 7)).trans cc_dra_wakes) ?_
  refine r_aload_n eX2_become_30 rfl rfl ?_
  refine r_getf (v := .ref 19) eX2_become_31 fX2_18 rfl rfl ?_
  refine n_iconst 0 eX2_become_34 rfl ?_
  refine r_aload_n eX2_become_35 rfl rfl ?_
  refine r_getf (v := .ref 27) eX2_become_36 fX2_18 rfl rfl ?_
  refine n_iconst 0 eX2_become_39 rfl ?_
  refine n_bipush 7 eX2_become_40 rfl ?_
  refine r_copy (f := fun i => nI ((tg_takes (cg_now u)) i)) (g := fun i => nI ((tg_takes (cg_dra u)) i)) (sp := 0) (dp := 0) (n := 7) eX2_become_42 lX2_37 (by omega) (Nat.le_of_ble_eq_true rfl) rfl rfl rfl rfl rfl (by decide) (by decide) (by decide) (by decide) ?_
  refine z_h ((congrArg (fun q => zs (hA t (cg_let u, cg_lc u, cg_rt u, cg_rl u, cg_ra u, cg_rf u, cg_rn u, cg_rc u, cg_now u, ((zcp (tg_kind (cg_now u)) (tg_kind (cg_dra u)) 7), (zcp (tg_wakes (cg_now u)) (tg_wakes (cg_dra u)) 7), tg_takes (cg_dra u), tg_due (cg_dra u), tg_cost (cg_dra u), tg_people (cg_dra u), tg_door (cg_dra u), tg_held (cg_dra u), tg_keys (cg_dra u), tg_watch (cg_dra u), tg_pace (cg_dra u), tg_ring (cg_dra u)), cg_kep u, cg_im u, cg_mp u, cg_mw u, cg_mu u, cg_mn u, cg_mi u, cg_mc u, cg_md u, cg_mo u, cg_ms u, cg_mq u, cg_se u, cg_sc u, cg_re u)) 27 (zI 7 q)) (zcpy (tg_takes (cg_now u)) (tg_takes (cg_dra u)) 7)).trans cc_dra_takes) ?_
  refine r_aload_n eX2_become_45 rfl rfl ?_
  refine r_getf (v := .ref 20) eX2_become_46 fX2_21 rfl rfl ?_
  refine n_iconst 0 eX2_become_49 rfl ?_
  refine r_aload_n eX2_become_50 rfl rfl ?_
  refine r_getf (v := .ref 28) eX2_become_51 fX2_21 rfl rfl ?_
  refine n_iconst 0 eX2_become_54 rfl ?_
  refine n_bipush 7 eX2_become_55 rfl ?_
  refine r_copy (f := fun i => nI ((tg_due (cg_now u)) i)) (g := fun i => nI ((tg_due (cg_dra u)) i)) (sp := 0) (dp := 0) (n := 7) eX2_become_57 lX2_37 (by omega) (Nat.le_of_ble_eq_true rfl) rfl rfl rfl rfl rfl (by decide) (by decide) (by decide) (by decide) ?_
  refine z_h ((congrArg (fun q => zs (hA t (cg_let u, cg_lc u, cg_rt u, cg_rl u, cg_ra u, cg_rf u, cg_rn u, cg_rc u, cg_now u, ((zcp (tg_kind (cg_now u)) (tg_kind (cg_dra u)) 7), (zcp (tg_wakes (cg_now u)) (tg_wakes (cg_dra u)) 7), (zcp (tg_takes (cg_now u)) (tg_takes (cg_dra u)) 7), tg_due (cg_dra u), tg_cost (cg_dra u), tg_people (cg_dra u), tg_door (cg_dra u), tg_held (cg_dra u), tg_keys (cg_dra u), tg_watch (cg_dra u), tg_pace (cg_dra u), tg_ring (cg_dra u)), cg_kep u, cg_im u, cg_mp u, cg_mw u, cg_mu u, cg_mn u, cg_mi u, cg_mc u, cg_md u, cg_mo u, cg_ms u, cg_mq u, cg_se u, cg_sc u, cg_re u)) 28 (zI 7 q)) (zcpy (tg_due (cg_now u)) (tg_due (cg_dra u)) 7)).trans cc_dra_due) ?_
  refine r_aload_n eX2_become_60 rfl rfl ?_
  refine r_getf (v := .ref 21) eX2_become_61 fX2_24 rfl rfl ?_
  refine n_iconst 0 eX2_become_64 rfl ?_
  refine r_aload_n eX2_become_65 rfl rfl ?_
  refine r_getf (v := .ref 29) eX2_become_66 fX2_24 rfl rfl ?_
  refine n_iconst 0 eX2_become_69 rfl ?_
  refine n_bipush 7 eX2_become_70 rfl ?_
  refine r_copy (f := fun i => nI ((tg_cost (cg_now u)) i)) (g := fun i => nI ((tg_cost (cg_dra u)) i)) (sp := 0) (dp := 0) (n := 7) eX2_become_72 lX2_37 (by omega) (Nat.le_of_ble_eq_true rfl) rfl rfl rfl rfl rfl (by decide) (by decide) (by decide) (by decide) ?_
  refine z_h ((congrArg (fun q => zs (hA t (cg_let u, cg_lc u, cg_rt u, cg_rl u, cg_ra u, cg_rf u, cg_rn u, cg_rc u, cg_now u, ((zcp (tg_kind (cg_now u)) (tg_kind (cg_dra u)) 7), (zcp (tg_wakes (cg_now u)) (tg_wakes (cg_dra u)) 7), (zcp (tg_takes (cg_now u)) (tg_takes (cg_dra u)) 7), (zcp (tg_due (cg_now u)) (tg_due (cg_dra u)) 7), tg_cost (cg_dra u), tg_people (cg_dra u), tg_door (cg_dra u), tg_held (cg_dra u), tg_keys (cg_dra u), tg_watch (cg_dra u), tg_pace (cg_dra u), tg_ring (cg_dra u)), cg_kep u, cg_im u, cg_mp u, cg_mw u, cg_mu u, cg_mn u, cg_mi u, cg_mc u, cg_md u, cg_mo u, cg_ms u, cg_mq u, cg_se u, cg_sc u, cg_re u)) 29 (zI 7 q)) (zcpy (tg_cost (cg_now u)) (tg_cost (cg_dra u)) 7)).trans cc_dra_cost) ?_
  refine r_aload_n eX2_become_75 rfl rfl ?_
  refine r_aload_n eX2_become_76 rfl rfl ?_
  refine r_getf (v := .int (nI (tg_people (cg_now u)))) eX2_become_77 fX2_43 rfl rfl ?_
  refine cp_dra_people (v := tg_people (cg_now u)) eX2_become_80 fX2_43 rfl ?_
  refine r_aload_n eX2_become_83 rfl rfl ?_
  refine r_getf (v := .ref 22) eX2_become_84 fX2_27 rfl rfl ?_
  refine n_iconst 0 eX2_become_87 rfl ?_
  refine r_aload_n eX2_become_88 rfl rfl ?_
  refine r_getf (v := .ref 30) eX2_become_89 fX2_27 rfl rfl ?_
  refine n_iconst 0 eX2_become_92 rfl ?_
  refine n_bipush 10 eX2_become_93 rfl ?_
  refine r_copy (f := fun i => nI ((tg_door (cg_now u)) i)) (g := fun i => nI ((tg_door (cg_dra u)) i)) (sp := 0) (dp := 0) (n := 10) eX2_become_95 lX2_37 (by omega) (Nat.le_of_ble_eq_true rfl) rfl rfl rfl rfl rfl (by decide) (by decide) (by decide) (by decide) ?_
  refine z_h ((congrArg (fun q => zs (hA t (cg_let u, cg_lc u, cg_rt u, cg_rl u, cg_ra u, cg_rf u, cg_rn u, cg_rc u, cg_now u, ((zcp (tg_kind (cg_now u)) (tg_kind (cg_dra u)) 7), (zcp (tg_wakes (cg_now u)) (tg_wakes (cg_dra u)) 7), (zcp (tg_takes (cg_now u)) (tg_takes (cg_dra u)) 7), (zcp (tg_due (cg_now u)) (tg_due (cg_dra u)) 7), (zcp (tg_cost (cg_now u)) (tg_cost (cg_dra u)) 7), tg_people (cg_now u), tg_door (cg_dra u), tg_held (cg_dra u), tg_keys (cg_dra u), tg_watch (cg_dra u), tg_pace (cg_dra u), tg_ring (cg_dra u)), cg_kep u, cg_im u, cg_mp u, cg_mw u, cg_mu u, cg_mn u, cg_mi u, cg_mc u, cg_md u, cg_mo u, cg_ms u, cg_mq u, cg_se u, cg_sc u, cg_re u)) 30 (zI 10 q)) (zcpy (tg_door (cg_now u)) (tg_door (cg_dra u)) 10)).trans cc_dra_door) ?_
  refine r_aload_n eX2_become_98 rfl rfl ?_
  refine r_getf (v := .ref 23) eX2_become_99 fX2_30 rfl rfl ?_
  refine n_iconst 0 eX2_become_102 rfl ?_
  refine r_aload_n eX2_become_103 rfl rfl ?_
  refine r_getf (v := .ref 31) eX2_become_104 fX2_30 rfl rfl ?_
  refine n_iconst 0 eX2_become_107 rfl ?_
  refine n_bipush 10 eX2_become_108 rfl ?_
  refine r_copy (f := fun i => nI ((tg_held (cg_now u)) i)) (g := fun i => nI ((tg_held (cg_dra u)) i)) (sp := 0) (dp := 0) (n := 10) eX2_become_110 lX2_37 (by omega) (Nat.le_of_ble_eq_true rfl) rfl rfl rfl rfl rfl (by decide) (by decide) (by decide) (by decide) ?_
  refine z_h ((congrArg (fun q => zs (hA t (cg_let u, cg_lc u, cg_rt u, cg_rl u, cg_ra u, cg_rf u, cg_rn u, cg_rc u, cg_now u, ((zcp (tg_kind (cg_now u)) (tg_kind (cg_dra u)) 7), (zcp (tg_wakes (cg_now u)) (tg_wakes (cg_dra u)) 7), (zcp (tg_takes (cg_now u)) (tg_takes (cg_dra u)) 7), (zcp (tg_due (cg_now u)) (tg_due (cg_dra u)) 7), (zcp (tg_cost (cg_now u)) (tg_cost (cg_dra u)) 7), tg_people (cg_now u), (zcp (tg_door (cg_now u)) (tg_door (cg_dra u)) 10), tg_held (cg_dra u), tg_keys (cg_dra u), tg_watch (cg_dra u), tg_pace (cg_dra u), tg_ring (cg_dra u)), cg_kep u, cg_im u, cg_mp u, cg_mw u, cg_mu u, cg_mn u, cg_mi u, cg_mc u, cg_md u, cg_mo u, cg_ms u, cg_mq u, cg_se u, cg_sc u, cg_re u)) 31 (zI 10 q)) (zcpy (tg_held (cg_now u)) (tg_held (cg_dra u)) 10)).trans cc_dra_held) ?_
  refine r_aload_n eX2_become_113 rfl rfl ?_
  refine r_aload_n eX2_become_114 rfl rfl ?_
  refine r_getf (v := .int (nI (tg_keys (cg_now u)))) eX2_become_115 fX2_46 rfl rfl ?_
  refine cp_dra_keys (v := tg_keys (cg_now u)) eX2_become_118 fX2_46 rfl ?_
  refine r_aload_n eX2_become_121 rfl rfl ?_
  refine r_aload_n eX2_become_122 rfl rfl ?_
  refine r_getf (v := .int (nI (tg_watch (cg_now u)))) eX2_become_123 fX2_49 rfl rfl ?_
  refine cp_dra_watch (v := tg_watch (cg_now u)) eX2_become_126 fX2_49 rfl ?_
  refine r_aload_n eX2_become_129 rfl rfl ?_
  refine r_aload_n eX2_become_130 rfl rfl ?_
  refine r_getf (v := .int (nI (tg_pace (cg_now u)))) eX2_become_131 fX2_33 rfl rfl ?_
  refine cp_dra_pace (v := tg_pace (cg_now u)) eX2_become_134 fX2_33 rfl ?_
  refine r_aload_n eX2_become_137 rfl rfl ?_
  refine r_aload_n eX2_become_138 rfl rfl ?_
  refine r_getf (v := .int (nI (tg_ring (cg_now u)))) eX2_become_139 fX2_52 rfl rfl ?_
  refine cp_dra_ring (v := tg_ring (cg_now u)) eX2_become_142 fX2_52 rfl (by omega) ?_
  exact z_vret eX2_become_145 ⟨rfl, rfl⟩
set_option maxHeartbeats 1000000 in
set_option maxRecDepth 100000 in
theorem s2_become_now_dra {t : zMod} {u : zCls} (hr : tg_ring (cg_dra u) ≤ 1) : Mv mX2_become 2 [.ref 16, .ref 24] (hA t u) (fun h' => h' = hA t (cg_let u, cg_lc u, cg_rt u, cg_rl u, cg_ra u, cg_rf u, cg_rn u, cg_rc u, (zbec (cg_dra u) (cg_now u)), cg_dra u, cg_kep u, cg_im u, cg_mp u, cg_mw u, cg_mu u, cg_mn u, cg_mi u, cg_mc u, cg_md u, cg_mo u, cg_ms u, cg_mq u, cg_se u, cg_sc u, cg_re u)) := by
  refine Mv.of (by decide) rfl rfl (Nat.le_of_ble_eq_true rfl) ?_
  refine r_aload_n eX2_become_0 rfl rfl ?_
  refine r_getf (v := .ref 25) eX2_become_1 fX2_9 rfl rfl ?_
  refine n_iconst 0 eX2_become_4 rfl ?_
  refine r_aload_n eX2_become_5 rfl rfl ?_
  refine r_getf (v := .ref 17) eX2_become_6 fX2_9 rfl rfl ?_
  refine n_iconst 0 eX2_become_9 rfl ?_
  refine n_bipush 7 eX2_become_10 rfl ?_
  refine z_h (h' := hA t (cg_let u, cg_lc u, cg_rt u, cg_rl u, cg_ra u, cg_rf u, cg_rn u, cg_rc u, (tg_kind (cg_now u), tg_wakes (cg_now u), tg_takes (cg_now u), tg_due (cg_now u), tg_cost (cg_now u), tg_people (cg_now u), tg_door (cg_now u), tg_held (cg_now u), tg_keys (cg_now u), tg_watch (cg_now u), tg_pace (cg_now u), tg_ring (cg_now u)), cg_dra u, cg_kep u, cg_im u, cg_mp u, cg_mw u, cg_mu u, cg_mn u, cg_mi u, cg_mc u, cg_md u, cg_mo u, cg_ms u, cg_mq u, cg_se u, cg_sc u, cg_re u)) rfl ?_
  refine r_copy (f := fun i => nI ((tg_kind (cg_dra u)) i)) (g := fun i => nI ((tg_kind (cg_now u)) i)) (sp := 0) (dp := 0) (n := 7) eX2_become_12 lX2_37 (by omega) (Nat.le_of_ble_eq_true rfl) rfl rfl rfl rfl rfl (by decide) (by decide) (by decide) (by decide) ?_
  refine z_h ((congrArg (fun q => zs (hA t (cg_let u, cg_lc u, cg_rt u, cg_rl u, cg_ra u, cg_rf u, cg_rn u, cg_rc u, (tg_kind (cg_now u), tg_wakes (cg_now u), tg_takes (cg_now u), tg_due (cg_now u), tg_cost (cg_now u), tg_people (cg_now u), tg_door (cg_now u), tg_held (cg_now u), tg_keys (cg_now u), tg_watch (cg_now u), tg_pace (cg_now u), tg_ring (cg_now u)), cg_dra u, cg_kep u, cg_im u, cg_mp u, cg_mw u, cg_mu u, cg_mn u, cg_mi u, cg_mc u, cg_md u, cg_mo u, cg_ms u, cg_mq u, cg_se u, cg_sc u, cg_re u)) 17 (zI 7 q)) (zcpy (tg_kind (cg_dra u)) (tg_kind (cg_now u)) 7)).trans cc_now_kind) ?_
  refine r_aload_n eX2_become_15 rfl rfl ?_
  refine r_getf (v := .ref 26) eX2_become_16 fX2_15 rfl rfl ?_
  refine n_iconst 0 eX2_become_19 rfl ?_
  refine r_aload_n eX2_become_20 rfl rfl ?_
  refine r_getf (v := .ref 18) eX2_become_21 fX2_15 rfl rfl ?_
  refine n_iconst 0 eX2_become_24 rfl ?_
  refine n_bipush 7 eX2_become_25 rfl ?_
  refine r_copy (f := fun i => nI ((tg_wakes (cg_dra u)) i)) (g := fun i => nI ((tg_wakes (cg_now u)) i)) (sp := 0) (dp := 0) (n := 7) eX2_become_27 lX2_37 (by omega) (Nat.le_of_ble_eq_true rfl) rfl rfl rfl rfl rfl (by decide) (by decide) (by decide) (by decide) ?_
  refine z_h ((congrArg (fun q => zs (hA t (cg_let u, cg_lc u, cg_rt u, cg_rl u, cg_ra u, cg_rf u, cg_rn u, cg_rc u, ((zcp (tg_kind (cg_dra u)) (tg_kind (cg_now u)) 7), tg_wakes (cg_now u), tg_takes (cg_now u), tg_due (cg_now u), tg_cost (cg_now u), tg_people (cg_now u), tg_door (cg_now u), tg_held (cg_now u), tg_keys (cg_now u), tg_watch (cg_now u), tg_pace (cg_now u), tg_ring (cg_now u)), cg_dra u, cg_kep u, cg_im u, cg_mp u, cg_mw u, cg_mu u, cg_mn u, cg_mi u, cg_mc u, cg_md u, cg_mo u, cg_ms u, cg_mq u, cg_se u, cg_sc u, cg_re u)) 18 (zI 7 q)) (zcpy (tg_wakes (cg_dra u)) (tg_wakes (cg_now u)) 7)).trans cc_now_wakes) ?_
  refine r_aload_n eX2_become_30 rfl rfl ?_
  refine r_getf (v := .ref 27) eX2_become_31 fX2_18 rfl rfl ?_
  refine n_iconst 0 eX2_become_34 rfl ?_
  refine r_aload_n eX2_become_35 rfl rfl ?_
  refine r_getf (v := .ref 19) eX2_become_36 fX2_18 rfl rfl ?_
  refine n_iconst 0 eX2_become_39 rfl ?_
  refine n_bipush 7 eX2_become_40 rfl ?_
  refine r_copy (f := fun i => nI ((tg_takes (cg_dra u)) i)) (g := fun i => nI ((tg_takes (cg_now u)) i)) (sp := 0) (dp := 0) (n := 7) eX2_become_42 lX2_37 (by omega) (Nat.le_of_ble_eq_true rfl) rfl rfl rfl rfl rfl (by decide) (by decide) (by decide) (by decide) ?_
  refine z_h ((congrArg (fun q => zs (hA t (cg_let u, cg_lc u, cg_rt u, cg_rl u, cg_ra u, cg_rf u, cg_rn u, cg_rc u, ((zcp (tg_kind (cg_dra u)) (tg_kind (cg_now u)) 7), (zcp (tg_wakes (cg_dra u)) (tg_wakes (cg_now u)) 7), tg_takes (cg_now u), tg_due (cg_now u), tg_cost (cg_now u), tg_people (cg_now u), tg_door (cg_now u), tg_held (cg_now u), tg_keys (cg_now u), tg_watch (cg_now u), tg_pace (cg_now u), tg_ring (cg_now u)), cg_dra u, cg_kep u, cg_im u, cg_mp u, cg_mw u, cg_mu u, cg_mn u, cg_mi u, cg_mc u, cg_md u, cg_mo u, cg_ms u, cg_mq u, cg_se u, cg_sc u, cg_re u)) 19 (zI 7 q)) (zcpy (tg_takes (cg_dra u)) (tg_takes (cg_now u)) 7)).trans cc_now_takes) ?_
  refine r_aload_n eX2_become_45 rfl rfl ?_
  refine r_getf (v := .ref 28) eX2_become_46 fX2_21 rfl rfl ?_
  refine n_iconst 0 eX2_become_49 rfl ?_
  refine r_aload_n eX2_become_50 rfl rfl ?_
  refine r_getf (v := .ref 20) eX2_become_51 fX2_21 rfl rfl ?_
  refine n_iconst 0 eX2_become_54 rfl ?_
  refine n_bipush 7 eX2_become_55 rfl ?_
  refine r_copy (f := fun i => nI ((tg_due (cg_dra u)) i)) (g := fun i => nI ((tg_due (cg_now u)) i)) (sp := 0) (dp := 0) (n := 7) eX2_become_57 lX2_37 (by omega) (Nat.le_of_ble_eq_true rfl) rfl rfl rfl rfl rfl (by decide) (by decide) (by decide) (by decide) ?_
  refine z_h ((congrArg (fun q => zs (hA t (cg_let u, cg_lc u, cg_rt u, cg_rl u, cg_ra u, cg_rf u, cg_rn u, cg_rc u, ((zcp (tg_kind (cg_dra u)) (tg_kind (cg_now u)) 7), (zcp (tg_wakes (cg_dra u)) (tg_wakes (cg_now u)) 7), (zcp (tg_takes (cg_dra u)) (tg_takes (cg_now u)) 7), tg_due (cg_now u), tg_cost (cg_now u), tg_people (cg_now u), tg_door (cg_now u), tg_held (cg_now u), tg_keys (cg_now u), tg_watch (cg_now u), tg_pace (cg_now u), tg_ring (cg_now u)), cg_dra u, cg_kep u, cg_im u, cg_mp u, cg_mw u, cg_mu u, cg_mn u, cg_mi u, cg_mc u, cg_md u, cg_mo u, cg_ms u, cg_mq u, cg_se u, cg_sc u, cg_re u)) 20 (zI 7 q)) (zcpy (tg_due (cg_dra u)) (tg_due (cg_now u)) 7)).trans cc_now_due) ?_
  refine r_aload_n eX2_become_60 rfl rfl ?_
  refine r_getf (v := .ref 29) eX2_become_61 fX2_24 rfl rfl ?_
  refine n_iconst 0 eX2_become_64 rfl ?_
  refine r_aload_n eX2_become_65 rfl rfl ?_
  refine r_getf (v := .ref 21) eX2_become_66 fX2_24 rfl rfl ?_
  refine n_iconst 0 eX2_become_69 rfl ?_
  refine n_bipush 7 eX2_become_70 rfl ?_
  refine r_copy (f := fun i => nI ((tg_cost (cg_dra u)) i)) (g := fun i => nI ((tg_cost (cg_now u)) i)) (sp := 0) (dp := 0) (n := 7) eX2_become_72 lX2_37 (by omega) (Nat.le_of_ble_eq_true rfl) rfl rfl rfl rfl rfl (by decide) (by decide) (by decide) (by decide) ?_
  refine z_h ((congrArg (fun q => zs (hA t (cg_let u, cg_lc u, cg_rt u, cg_rl u, cg_ra u, cg_rf u, cg_rn u, cg_rc u, ((zcp (tg_kind (cg_dra u)) (tg_kind (cg_now u)) 7), (zcp (tg_wakes (cg_dra u)) (tg_wakes (cg_now u)) 7), (zcp (tg_takes (cg_dra u)) (tg_takes (cg_now u)) 7), (zcp (tg_due (cg_dra u)) (tg_due (cg_now u)) 7), tg_cost (cg_now u), tg_people (cg_now u), tg_door (cg_now u), tg_held (cg_now u), tg_keys (cg_now u), tg_watch (cg_now u), tg_pace (cg_now u), tg_ring (cg_now u)), cg_dra u, cg_kep u, cg_im u, cg_mp u, cg_mw u, cg_mu u, cg_mn u, cg_mi u, cg_mc u, cg_md u, cg_mo u, cg_ms u, cg_mq u, cg_se u, cg_sc u, cg_re u)) 21 (zI 7 q)) (zcpy (tg_cost (cg_dra u)) (tg_cost (cg_now u)) 7)).trans cc_now_cost) ?_
  refine r_aload_n eX2_become_75 rfl rfl ?_
  refine r_aload_n eX2_become_76 rfl rfl ?_
  refine r_getf (v := .int (nI (tg_people (cg_dra u)))) eX2_become_77 fX2_43 rfl rfl ?_
  refine cp_now_people (v := tg_people (cg_dra u)) eX2_become_80 fX2_43 rfl ?_
  refine r_aload_n eX2_become_83 rfl rfl ?_
  refine r_getf (v := .ref 30) eX2_become_84 fX2_27 rfl rfl ?_
  refine n_iconst 0 eX2_become_87 rfl ?_
  refine r_aload_n eX2_become_88 rfl rfl ?_
  refine r_getf (v := .ref 22) eX2_become_89 fX2_27 rfl rfl ?_
  refine n_iconst 0 eX2_become_92 rfl ?_
  refine n_bipush 10 eX2_become_93 rfl ?_
  refine r_copy (f := fun i => nI ((tg_door (cg_dra u)) i)) (g := fun i => nI ((tg_door (cg_now u)) i)) (sp := 0) (dp := 0) (n := 10) eX2_become_95 lX2_37 (by omega) (Nat.le_of_ble_eq_true rfl) rfl rfl rfl rfl rfl (by decide) (by decide) (by decide) (by decide) ?_
  refine z_h ((congrArg (fun q => zs (hA t (cg_let u, cg_lc u, cg_rt u, cg_rl u, cg_ra u, cg_rf u, cg_rn u, cg_rc u, ((zcp (tg_kind (cg_dra u)) (tg_kind (cg_now u)) 7), (zcp (tg_wakes (cg_dra u)) (tg_wakes (cg_now u)) 7), (zcp (tg_takes (cg_dra u)) (tg_takes (cg_now u)) 7), (zcp (tg_due (cg_dra u)) (tg_due (cg_now u)) 7), (zcp (tg_cost (cg_dra u)) (tg_cost (cg_now u)) 7), tg_people (cg_dra u), tg_door (cg_now u), tg_held (cg_now u), tg_keys (cg_now u), tg_watch (cg_now u), tg_pace (cg_now u), tg_ring (cg_now u)), cg_dra u, cg_kep u, cg_im u, cg_mp u, cg_mw u, cg_mu u, cg_mn u, cg_mi u, cg_mc u, cg_md u, cg_mo u, cg_ms u, cg_mq u, cg_se u, cg_sc u, cg_re u)) 22 (zI 10 q)) (zcpy (tg_door (cg_dra u)) (tg_door (cg_now u)) 10)).trans cc_now_door) ?_
  refine r_aload_n eX2_become_98 rfl rfl ?_
  refine r_getf (v := .ref 31) eX2_become_99 fX2_30 rfl rfl ?_
  refine n_iconst 0 eX2_become_102 rfl ?_
  refine r_aload_n eX2_become_103 rfl rfl ?_
  refine r_getf (v := .ref 23) eX2_become_104 fX2_30 rfl rfl ?_
  refine n_iconst 0 eX2_become_107 rfl ?_
  refine n_bipush 10 eX2_become_108 rfl ?_
  refine r_copy (f := fun i => nI ((tg_held (cg_dra u)) i)) (g := fun i => nI ((tg_held (cg_now u)) i)) (sp := 0) (dp := 0) (n := 10) eX2_become_110 lX2_37 (by omega) (Nat.le_of_ble_eq_true rfl) rfl rfl rfl rfl rfl (by decide) (by decide) (by decide) (by decide) ?_
  refine z_h ((congrArg (fun q => zs (hA t (cg_let u, cg_lc u, cg_rt u, cg_rl u, cg_ra u, cg_rf u, cg_rn u, cg_rc u, ((zcp (tg_kind (cg_dra u)) (tg_kind (cg_now u)) 7), (zcp (tg_wakes (cg_dra u)) (tg_wakes (cg_now u)) 7), (zcp (tg_takes (cg_dra u)) (tg_takes (cg_now u)) 7), (zcp (tg_due (cg_dra u)) (tg_due (cg_now u)) 7), (zcp (tg_cost (cg_dra u)) (tg_cost (cg_now u)) 7), tg_people (cg_dra u), (zcp (tg_door (cg_dra u)) (tg_door (cg_now u)) 10), tg_held (cg_now u), tg_keys (cg_now u), tg_watch (cg_now u), tg_pace (cg_now u), tg_ring (cg_now u)), cg_dra u, cg_kep u, cg_im u, cg_mp u, cg_mw u, cg_mu u, cg_mn u, cg_mi u, cg_mc u, cg_md u, cg_mo u, cg_ms u, cg_mq u, cg_se u, cg_sc u, cg_re u)) 23 (zI 10 q)) (zcpy (tg_held (cg_dra u)) (tg_held (cg_now u)) 10)).trans cc_now_held) ?_
  refine r_aload_n eX2_become_113 rfl rfl ?_
  refine r_aload_n eX2_become_114 rfl rfl ?_
  refine r_getf (v := .int (nI (tg_keys (cg_dra u)))) eX2_become_115 fX2_46 rfl rfl ?_
  refine cp_now_keys (v := tg_keys (cg_dra u)) eX2_become_118 fX2_46 rfl ?_
  refine r_aload_n eX2_become_121 rfl rfl ?_
  refine r_aload_n eX2_become_122 rfl rfl ?_
  refine r_getf (v := .int (nI (tg_watch (cg_dra u)))) eX2_become_123 fX2_49 rfl rfl ?_
  refine cp_now_watch (v := tg_watch (cg_dra u)) eX2_become_126 fX2_49 rfl ?_
  refine r_aload_n eX2_become_129 rfl rfl ?_
  refine r_aload_n eX2_become_130 rfl rfl ?_
  refine r_getf (v := .int (nI (tg_pace (cg_dra u)))) eX2_become_131 fX2_33 rfl rfl ?_
  refine cp_now_pace (v := tg_pace (cg_dra u)) eX2_become_134 fX2_33 rfl ?_
  refine r_aload_n eX2_become_137 rfl rfl ?_
  refine r_aload_n eX2_become_138 rfl rfl ?_
  refine r_getf (v := .int (nI (tg_ring (cg_dra u)))) eX2_become_139 fX2_52 rfl rfl ?_
  refine cp_now_ring (v := tg_ring (cg_dra u)) eX2_become_142 fX2_52 rfl (by omega) ?_
  exact z_vret eX2_become_145 ⟨rfl, rfl⟩
set_option maxHeartbeats 1000000 in
set_option maxRecDepth 100000 in
theorem s2_become_kep_now {t : zMod} {u : zCls} (hr : tg_ring (cg_now u) ≤ 1) : Mv mX2_become 2 [.ref 32, .ref 16] (hA t u) (fun h' => h' = hA t (cg_let u, cg_lc u, cg_rt u, cg_rl u, cg_ra u, cg_rf u, cg_rn u, cg_rc u, cg_now u, cg_dra u, (zbec (cg_now u) (cg_kep u)), cg_im u, cg_mp u, cg_mw u, cg_mu u, cg_mn u, cg_mi u, cg_mc u, cg_md u, cg_mo u, cg_ms u, cg_mq u, cg_se u, cg_sc u, cg_re u)) := by
  refine Mv.of (by decide) rfl rfl (Nat.le_of_ble_eq_true rfl) ?_
  refine r_aload_n eX2_become_0 rfl rfl ?_
  refine r_getf (v := .ref 17) eX2_become_1 fX2_9 rfl rfl ?_
  refine n_iconst 0 eX2_become_4 rfl ?_
  refine r_aload_n eX2_become_5 rfl rfl ?_
  refine r_getf (v := .ref 33) eX2_become_6 fX2_9 rfl rfl ?_
  refine n_iconst 0 eX2_become_9 rfl ?_
  refine n_bipush 7 eX2_become_10 rfl ?_
  refine z_h (h' := hA t (cg_let u, cg_lc u, cg_rt u, cg_rl u, cg_ra u, cg_rf u, cg_rn u, cg_rc u, cg_now u, cg_dra u, (tg_kind (cg_kep u), tg_wakes (cg_kep u), tg_takes (cg_kep u), tg_due (cg_kep u), tg_cost (cg_kep u), tg_people (cg_kep u), tg_door (cg_kep u), tg_held (cg_kep u), tg_keys (cg_kep u), tg_watch (cg_kep u), tg_pace (cg_kep u), tg_ring (cg_kep u)), cg_im u, cg_mp u, cg_mw u, cg_mu u, cg_mn u, cg_mi u, cg_mc u, cg_md u, cg_mo u, cg_ms u, cg_mq u, cg_se u, cg_sc u, cg_re u)) rfl ?_
  refine r_copy (f := fun i => nI ((tg_kind (cg_now u)) i)) (g := fun i => nI ((tg_kind (cg_kep u)) i)) (sp := 0) (dp := 0) (n := 7) eX2_become_12 lX2_37 (by omega) (Nat.le_of_ble_eq_true rfl) rfl rfl rfl rfl rfl (by decide) (by decide) (by decide) (by decide) ?_
  refine z_h ((congrArg (fun q => zs (hA t (cg_let u, cg_lc u, cg_rt u, cg_rl u, cg_ra u, cg_rf u, cg_rn u, cg_rc u, cg_now u, cg_dra u, (tg_kind (cg_kep u), tg_wakes (cg_kep u), tg_takes (cg_kep u), tg_due (cg_kep u), tg_cost (cg_kep u), tg_people (cg_kep u), tg_door (cg_kep u), tg_held (cg_kep u), tg_keys (cg_kep u), tg_watch (cg_kep u), tg_pace (cg_kep u), tg_ring (cg_kep u)), cg_im u, cg_mp u, cg_mw u, cg_mu u, cg_mn u, cg_mi u, cg_mc u, cg_md u, cg_mo u, cg_ms u, cg_mq u, cg_se u, cg_sc u, cg_re u)) 33 (zI 7 q)) (zcpy (tg_kind (cg_now u)) (tg_kind (cg_kep u)) 7)).trans cc_kep_kind) ?_
  refine r_aload_n eX2_become_15 rfl rfl ?_
  refine r_getf (v := .ref 18) eX2_become_16 fX2_15 rfl rfl ?_
  refine n_iconst 0 eX2_become_19 rfl ?_
  refine r_aload_n eX2_become_20 rfl rfl ?_
  refine r_getf (v := .ref 34) eX2_become_21 fX2_15 rfl rfl ?_
  refine n_iconst 0 eX2_become_24 rfl ?_
  refine n_bipush 7 eX2_become_25 rfl ?_
  refine r_copy (f := fun i => nI ((tg_wakes (cg_now u)) i)) (g := fun i => nI ((tg_wakes (cg_kep u)) i)) (sp := 0) (dp := 0) (n := 7) eX2_become_27 lX2_37 (by omega) (Nat.le_of_ble_eq_true rfl) rfl rfl rfl rfl rfl (by decide) (by decide) (by decide) (by decide) ?_
  refine z_h ((congrArg (fun q => zs (hA t (cg_let u, cg_lc u, cg_rt u, cg_rl u, cg_ra u, cg_rf u, cg_rn u, cg_rc u, cg_now u, cg_dra u, ((zcp (tg_kind (cg_now u)) (tg_kind (cg_kep u)) 7), tg_wakes (cg_kep u), tg_takes (cg_kep u), tg_due (cg_kep u), tg_cost (cg_kep u), tg_people (cg_kep u), tg_door (cg_kep u), tg_held (cg_kep u), tg_keys (cg_kep u), tg_watch (cg_kep u), tg_pace (cg_kep u), tg_ring (cg_kep u)), cg_im u, cg_mp u, cg_mw u, cg_mu u, cg_mn u, cg_mi u, cg_mc u, cg_md u, cg_mo u, cg_ms u, cg_mq u, cg_se u, cg_sc u, cg_re u)) 34 (zI 7 q)) (zcpy (tg_wakes (cg_now u)) (tg_wakes (cg_kep u)) 7)).trans cc_kep_wakes) ?_
  refine r_aload_n eX2_become_30 rfl rfl ?_
  refine r_getf (v := .ref 19) eX2_become_31 fX2_18 rfl rfl ?_
  refine n_iconst 0 eX2_become_34 rfl ?_
  refine r_aload_n eX2_become_35 rfl rfl ?_
  refine r_getf (v := .ref 35) eX2_become_36 fX2_18 rfl rfl ?_
  refine n_iconst 0 eX2_become_39 rfl ?_
  refine n_bipush 7 eX2_become_40 rfl ?_
  refine r_copy (f := fun i => nI ((tg_takes (cg_now u)) i)) (g := fun i => nI ((tg_takes (cg_kep u)) i)) (sp := 0) (dp := 0) (n := 7) eX2_become_42 lX2_37 (by omega) (Nat.le_of_ble_eq_true rfl) rfl rfl rfl rfl rfl (by decide) (by decide) (by decide) (by decide) ?_
  refine z_h ((congrArg (fun q => zs (hA t (cg_let u, cg_lc u, cg_rt u, cg_rl u, cg_ra u, cg_rf u, cg_rn u, cg_rc u, cg_now u, cg_dra u, ((zcp (tg_kind (cg_now u)) (tg_kind (cg_kep u)) 7), (zcp (tg_wakes (cg_now u)) (tg_wakes (cg_kep u)) 7), tg_takes (cg_kep u), tg_due (cg_kep u), tg_cost (cg_kep u), tg_people (cg_kep u), tg_door (cg_kep u), tg_held (cg_kep u), tg_keys (cg_kep u), tg_watch (cg_kep u), tg_pace (cg_kep u), tg_ring (cg_kep u)), cg_im u, cg_mp u, cg_mw u, cg_mu u, cg_mn u, cg_mi u, cg_mc u, cg_md u, cg_mo u, cg_ms u, cg_mq u, cg_se u, cg_sc u, cg_re u)) 35 (zI 7 q)) (zcpy (tg_takes (cg_now u)) (tg_takes (cg_kep u)) 7)).trans cc_kep_takes) ?_
  refine r_aload_n eX2_become_45 rfl rfl ?_
  refine r_getf (v := .ref 20) eX2_become_46 fX2_21 rfl rfl ?_
  refine n_iconst 0 eX2_become_49 rfl ?_
  refine r_aload_n eX2_become_50 rfl rfl ?_
  refine r_getf (v := .ref 36) eX2_become_51 fX2_21 rfl rfl ?_
  refine n_iconst 0 eX2_become_54 rfl ?_
  refine n_bipush 7 eX2_become_55 rfl ?_
  refine r_copy (f := fun i => nI ((tg_due (cg_now u)) i)) (g := fun i => nI ((tg_due (cg_kep u)) i)) (sp := 0) (dp := 0) (n := 7) eX2_become_57 lX2_37 (by omega) (Nat.le_of_ble_eq_true rfl) rfl rfl rfl rfl rfl (by decide) (by decide) (by decide) (by decide) ?_
  refine z_h ((congrArg (fun q => zs (hA t (cg_let u, cg_lc u, cg_rt u, cg_rl u, cg_ra u, cg_rf u, cg_rn u, cg_rc u, cg_now u, cg_dra u, ((zcp (tg_kind (cg_now u)) (tg_kind (cg_kep u)) 7), (zcp (tg_wakes (cg_now u)) (tg_wakes (cg_kep u)) 7), (zcp (tg_takes (cg_now u)) (tg_takes (cg_kep u)) 7), tg_due (cg_kep u), tg_cost (cg_kep u), tg_people (cg_kep u), tg_door (cg_kep u), tg_held (cg_kep u), tg_keys (cg_kep u), tg_watch (cg_kep u), tg_pace (cg_kep u), tg_ring (cg_kep u)), cg_im u, cg_mp u, cg_mw u, cg_mu u, cg_mn u, cg_mi u, cg_mc u, cg_md u, cg_mo u, cg_ms u, cg_mq u, cg_se u, cg_sc u, cg_re u)) 36 (zI 7 q)) (zcpy (tg_due (cg_now u)) (tg_due (cg_kep u)) 7)).trans cc_kep_due) ?_
  refine r_aload_n eX2_become_60 rfl rfl ?_
  refine r_getf (v := .ref 21) eX2_become_61 fX2_24 rfl rfl ?_
  refine n_iconst 0 eX2_become_64 rfl ?_
  refine r_aload_n eX2_become_65 rfl rfl ?_
  refine r_getf (v := .ref 37) eX2_become_66 fX2_24 rfl rfl ?_
  refine n_iconst 0 eX2_become_69 rfl ?_
  refine n_bipush 7 eX2_become_70 rfl ?_
  refine r_copy (f := fun i => nI ((tg_cost (cg_now u)) i)) (g := fun i => nI ((tg_cost (cg_kep u)) i)) (sp := 0) (dp := 0) (n := 7) eX2_become_72 lX2_37 (by omega) (Nat.le_of_ble_eq_true rfl) rfl rfl rfl rfl rfl (by decide) (by decide) (by decide) (by decide) ?_
  refine z_h ((congrArg (fun q => zs (hA t (cg_let u, cg_lc u, cg_rt u, cg_rl u, cg_ra u, cg_rf u, cg_rn u, cg_rc u, cg_now u, cg_dra u, ((zcp (tg_kind (cg_now u)) (tg_kind (cg_kep u)) 7), (zcp (tg_wakes (cg_now u)) (tg_wakes (cg_kep u)) 7), (zcp (tg_takes (cg_now u)) (tg_takes (cg_kep u)) 7), (zcp (tg_due (cg_now u)) (tg_due (cg_kep u)) 7), tg_cost (cg_kep u), tg_people (cg_kep u), tg_door (cg_kep u), tg_held (cg_kep u), tg_keys (cg_kep u), tg_watch (cg_kep u), tg_pace (cg_kep u), tg_ring (cg_kep u)), cg_im u, cg_mp u, cg_mw u, cg_mu u, cg_mn u, cg_mi u, cg_mc u, cg_md u, cg_mo u, cg_ms u, cg_mq u, cg_se u, cg_sc u, cg_re u)) 37 (zI 7 q)) (zcpy (tg_cost (cg_now u)) (tg_cost (cg_kep u)) 7)).trans cc_kep_cost) ?_
  refine r_aload_n eX2_become_75 rfl rfl ?_
  refine r_aload_n eX2_become_76 rfl rfl ?_
  refine r_getf (v := .int (nI (tg_people (cg_now u)))) eX2_become_77 fX2_43 rfl rfl ?_
  refine cp_kep_people (v := tg_people (cg_now u)) eX2_become_80 fX2_43 rfl ?_
  refine r_aload_n eX2_become_83 rfl rfl ?_
  refine r_getf (v := .ref 22) eX2_become_84 fX2_27 rfl rfl ?_
  refine n_iconst 0 eX2_become_87 rfl ?_
  refine r_aload_n eX2_become_88 rfl rfl ?_
  refine r_getf (v := .ref 38) eX2_become_89 fX2_27 rfl rfl ?_
  refine n_iconst 0 eX2_become_92 rfl ?_
  refine n_bipush 10 eX2_become_93 rfl ?_
  refine r_copy (f := fun i => nI ((tg_door (cg_now u)) i)) (g := fun i => nI ((tg_door (cg_kep u)) i)) (sp := 0) (dp := 0) (n := 10) eX2_become_95 lX2_37 (by omega) (Nat.le_of_ble_eq_true rfl) rfl rfl rfl rfl rfl (by decide) (by decide) (by decide) (by decide) ?_
  refine z_h ((congrArg (fun q => zs (hA t (cg_let u, cg_lc u, cg_rt u, cg_rl u, cg_ra u, cg_rf u, cg_rn u, cg_rc u, cg_now u, cg_dra u, ((zcp (tg_kind (cg_now u)) (tg_kind (cg_kep u)) 7), (zcp (tg_wakes (cg_now u)) (tg_wakes (cg_kep u)) 7), (zcp (tg_takes (cg_now u)) (tg_takes (cg_kep u)) 7), (zcp (tg_due (cg_now u)) (tg_due (cg_kep u)) 7), (zcp (tg_cost (cg_now u)) (tg_cost (cg_kep u)) 7), tg_people (cg_now u), tg_door (cg_kep u), tg_held (cg_kep u), tg_keys (cg_kep u), tg_watch (cg_kep u), tg_pace (cg_kep u), tg_ring (cg_kep u)), cg_im u, cg_mp u, cg_mw u, cg_mu u, cg_mn u, cg_mi u, cg_mc u, cg_md u, cg_mo u, cg_ms u, cg_mq u, cg_se u, cg_sc u, cg_re u)) 38 (zI 10 q)) (zcpy (tg_door (cg_now u)) (tg_door (cg_kep u)) 10)).trans cc_kep_door) ?_
  refine r_aload_n eX2_become_98 rfl rfl ?_
  refine r_getf (v := .ref 23) eX2_become_99 fX2_30 rfl rfl ?_
  refine n_iconst 0 eX2_become_102 rfl ?_
  refine r_aload_n eX2_become_103 rfl rfl ?_
  refine r_getf (v := .ref 39) eX2_become_104 fX2_30 rfl rfl ?_
  refine n_iconst 0 eX2_become_107 rfl ?_
  refine n_bipush 10 eX2_become_108 rfl ?_
  refine r_copy (f := fun i => nI ((tg_held (cg_now u)) i)) (g := fun i => nI ((tg_held (cg_kep u)) i)) (sp := 0) (dp := 0) (n := 10) eX2_become_110 lX2_37 (by omega) (Nat.le_of_ble_eq_true rfl) rfl rfl rfl rfl rfl (by decide) (by decide) (by decide) (by decide) ?_
  refine z_h ((congrArg (fun q => zs (hA t (cg_let u, cg_lc u, cg_rt u, cg_rl u, cg_ra u, cg_rf u, cg_rn u, cg_rc u, cg_now u, cg_dra u, ((zcp (tg_kind (cg_now u)) (tg_kind (cg_kep u)) 7), (zcp (tg_wakes (cg_now u)) (tg_wakes (cg_kep u)) 7), (zcp (tg_takes (cg_now u)) (tg_takes (cg_kep u)) 7), (zcp (tg_due (cg_now u)) (tg_due (cg_kep u)) 7), (zcp (tg_cost (cg_now u)) (tg_cost (cg_kep u)) 7), tg_people (cg_now u), (zcp (tg_door (cg_now u)) (tg_door (cg_kep u)) 10), tg_held (cg_kep u), tg_keys (cg_kep u), tg_watch (cg_kep u), tg_pace (cg_kep u), tg_ring (cg_kep u)), cg_im u, cg_mp u, cg_mw u, cg_mu u, cg_mn u, cg_mi u, cg_mc u, cg_md u, cg_mo u, cg_ms u, cg_mq u, cg_se u, cg_sc u, cg_re u)) 39 (zI 10 q)) (zcpy (tg_held (cg_now u)) (tg_held (cg_kep u)) 10)).trans cc_kep_held) ?_
  refine r_aload_n eX2_become_113 rfl rfl ?_
  refine r_aload_n eX2_become_114 rfl rfl ?_
  refine r_getf (v := .int (nI (tg_keys (cg_now u)))) eX2_become_115 fX2_46 rfl rfl ?_
  refine cp_kep_keys (v := tg_keys (cg_now u)) eX2_become_118 fX2_46 rfl ?_
  refine r_aload_n eX2_become_121 rfl rfl ?_
  refine r_aload_n eX2_become_122 rfl rfl ?_
  refine r_getf (v := .int (nI (tg_watch (cg_now u)))) eX2_become_123 fX2_49 rfl rfl ?_
  refine cp_kep_watch (v := tg_watch (cg_now u)) eX2_become_126 fX2_49 rfl ?_
  refine r_aload_n eX2_become_129 rfl rfl ?_
  refine r_aload_n eX2_become_130 rfl rfl ?_
  refine r_getf (v := .int (nI (tg_pace (cg_now u)))) eX2_become_131 fX2_33 rfl rfl ?_
  refine cp_kep_pace (v := tg_pace (cg_now u)) eX2_become_134 fX2_33 rfl ?_
  refine r_aload_n eX2_become_137 rfl rfl ?_
  refine r_aload_n eX2_become_138 rfl rfl ?_
  refine r_getf (v := .int (nI (tg_ring (cg_now u)))) eX2_become_139 fX2_52 rfl rfl ?_
  refine cp_kep_ring (v := tg_ring (cg_now u)) eX2_become_142 fX2_52 rfl (by omega) ?_
  exact z_vret eX2_become_145 ⟨rfl, rfl⟩
set_option maxHeartbeats 1000000 in
set_option maxRecDepth 100000 in
theorem s2_become_now_kep {t : zMod} {u : zCls} (hr : tg_ring (cg_kep u) ≤ 1) : Mv mX2_become 2 [.ref 16, .ref 32] (hA t u) (fun h' => h' = hA t (cg_let u, cg_lc u, cg_rt u, cg_rl u, cg_ra u, cg_rf u, cg_rn u, cg_rc u, (zbec (cg_kep u) (cg_now u)), cg_dra u, cg_kep u, cg_im u, cg_mp u, cg_mw u, cg_mu u, cg_mn u, cg_mi u, cg_mc u, cg_md u, cg_mo u, cg_ms u, cg_mq u, cg_se u, cg_sc u, cg_re u)) := by
  refine Mv.of (by decide) rfl rfl (Nat.le_of_ble_eq_true rfl) ?_
  refine r_aload_n eX2_become_0 rfl rfl ?_
  refine r_getf (v := .ref 33) eX2_become_1 fX2_9 rfl rfl ?_
  refine n_iconst 0 eX2_become_4 rfl ?_
  refine r_aload_n eX2_become_5 rfl rfl ?_
  refine r_getf (v := .ref 17) eX2_become_6 fX2_9 rfl rfl ?_
  refine n_iconst 0 eX2_become_9 rfl ?_
  refine n_bipush 7 eX2_become_10 rfl ?_
  refine z_h (h' := hA t (cg_let u, cg_lc u, cg_rt u, cg_rl u, cg_ra u, cg_rf u, cg_rn u, cg_rc u, (tg_kind (cg_now u), tg_wakes (cg_now u), tg_takes (cg_now u), tg_due (cg_now u), tg_cost (cg_now u), tg_people (cg_now u), tg_door (cg_now u), tg_held (cg_now u), tg_keys (cg_now u), tg_watch (cg_now u), tg_pace (cg_now u), tg_ring (cg_now u)), cg_dra u, cg_kep u, cg_im u, cg_mp u, cg_mw u, cg_mu u, cg_mn u, cg_mi u, cg_mc u, cg_md u, cg_mo u, cg_ms u, cg_mq u, cg_se u, cg_sc u, cg_re u)) rfl ?_
  refine r_copy (f := fun i => nI ((tg_kind (cg_kep u)) i)) (g := fun i => nI ((tg_kind (cg_now u)) i)) (sp := 0) (dp := 0) (n := 7) eX2_become_12 lX2_37 (by omega) (Nat.le_of_ble_eq_true rfl) rfl rfl rfl rfl rfl (by decide) (by decide) (by decide) (by decide) ?_
  refine z_h ((congrArg (fun q => zs (hA t (cg_let u, cg_lc u, cg_rt u, cg_rl u, cg_ra u, cg_rf u, cg_rn u, cg_rc u, (tg_kind (cg_now u), tg_wakes (cg_now u), tg_takes (cg_now u), tg_due (cg_now u), tg_cost (cg_now u), tg_people (cg_now u), tg_door (cg_now u), tg_held (cg_now u), tg_keys (cg_now u), tg_watch (cg_now u), tg_pace (cg_now u), tg_ring (cg_now u)), cg_dra u, cg_kep u, cg_im u, cg_mp u, cg_mw u, cg_mu u, cg_mn u, cg_mi u, cg_mc u, cg_md u, cg_mo u, cg_ms u, cg_mq u, cg_se u, cg_sc u, cg_re u)) 17 (zI 7 q)) (zcpy (tg_kind (cg_kep u)) (tg_kind (cg_now u)) 7)).trans cc_now_kind) ?_
  refine r_aload_n eX2_become_15 rfl rfl ?_
  refine r_getf (v := .ref 34) eX2_become_16 fX2_15 rfl rfl ?_
  refine n_iconst 0 eX2_become_19 rfl ?_
  refine r_aload_n eX2_become_20 rfl rfl ?_
  refine r_getf (v := .ref 18) eX2_become_21 fX2_15 rfl rfl ?_
  refine n_iconst 0 eX2_become_24 rfl ?_
  refine n_bipush 7 eX2_become_25 rfl ?_
  refine r_copy (f := fun i => nI ((tg_wakes (cg_kep u)) i)) (g := fun i => nI ((tg_wakes (cg_now u)) i)) (sp := 0) (dp := 0) (n := 7) eX2_become_27 lX2_37 (by omega) (Nat.le_of_ble_eq_true rfl) rfl rfl rfl rfl rfl (by decide) (by decide) (by decide) (by decide) ?_
  refine z_h ((congrArg (fun q => zs (hA t (cg_let u, cg_lc u, cg_rt u, cg_rl u, cg_ra u, cg_rf u, cg_rn u, cg_rc u, ((zcp (tg_kind (cg_kep u)) (tg_kind (cg_now u)) 7), tg_wakes (cg_now u), tg_takes (cg_now u), tg_due (cg_now u), tg_cost (cg_now u), tg_people (cg_now u), tg_door (cg_now u), tg_held (cg_now u), tg_keys (cg_now u), tg_watch (cg_now u), tg_pace (cg_now u), tg_ring (cg_now u)), cg_dra u, cg_kep u, cg_im u, cg_mp u, cg_mw u, cg_mu u, cg_mn u, cg_mi u, cg_mc u, cg_md u, cg_mo u, cg_ms u, cg_mq u, cg_se u, cg_sc u, cg_re u)) 18 (zI 7 q)) (zcpy (tg_wakes (cg_kep u)) (tg_wakes (cg_now u)) 7)).trans cc_now_wakes) ?_
  refine r_aload_n eX2_become_30 rfl rfl ?_
  refine r_getf (v := .ref 35) eX2_become_31 fX2_18 rfl rfl ?_
  refine n_iconst 0 eX2_become_34 rfl ?_
  refine r_aload_n eX2_become_35 rfl rfl ?_
  refine r_getf (v := .ref 19) eX2_become_36 fX2_18 rfl rfl ?_
  refine n_iconst 0 eX2_become_39 rfl ?_
  refine n_bipush 7 eX2_become_40 rfl ?_
  refine r_copy (f := fun i => nI ((tg_takes (cg_kep u)) i)) (g := fun i => nI ((tg_takes (cg_now u)) i)) (sp := 0) (dp := 0) (n := 7) eX2_become_42 lX2_37 (by omega) (Nat.le_of_ble_eq_true rfl) rfl rfl rfl rfl rfl (by decide) (by decide) (by decide) (by decide) ?_
  refine z_h ((congrArg (fun q => zs (hA t (cg_let u, cg_lc u, cg_rt u, cg_rl u, cg_ra u, cg_rf u, cg_rn u, cg_rc u, ((zcp (tg_kind (cg_kep u)) (tg_kind (cg_now u)) 7), (zcp (tg_wakes (cg_kep u)) (tg_wakes (cg_now u)) 7), tg_takes (cg_now u), tg_due (cg_now u), tg_cost (cg_now u), tg_people (cg_now u), tg_door (cg_now u), tg_held (cg_now u), tg_keys (cg_now u), tg_watch (cg_now u), tg_pace (cg_now u), tg_ring (cg_now u)), cg_dra u, cg_kep u, cg_im u, cg_mp u, cg_mw u, cg_mu u, cg_mn u, cg_mi u, cg_mc u, cg_md u, cg_mo u, cg_ms u, cg_mq u, cg_se u, cg_sc u, cg_re u)) 19 (zI 7 q)) (zcpy (tg_takes (cg_kep u)) (tg_takes (cg_now u)) 7)).trans cc_now_takes) ?_
  refine r_aload_n eX2_become_45 rfl rfl ?_
  refine r_getf (v := .ref 36) eX2_become_46 fX2_21 rfl rfl ?_
  refine n_iconst 0 eX2_become_49 rfl ?_
  refine r_aload_n eX2_become_50 rfl rfl ?_
  refine r_getf (v := .ref 20) eX2_become_51 fX2_21 rfl rfl ?_
  refine n_iconst 0 eX2_become_54 rfl ?_
  refine n_bipush 7 eX2_become_55 rfl ?_
  refine r_copy (f := fun i => nI ((tg_due (cg_kep u)) i)) (g := fun i => nI ((tg_due (cg_now u)) i)) (sp := 0) (dp := 0) (n := 7) eX2_become_57 lX2_37 (by omega) (Nat.le_of_ble_eq_true rfl) rfl rfl rfl rfl rfl (by decide) (by decide) (by decide) (by decide) ?_
  refine z_h ((congrArg (fun q => zs (hA t (cg_let u, cg_lc u, cg_rt u, cg_rl u, cg_ra u, cg_rf u, cg_rn u, cg_rc u, ((zcp (tg_kind (cg_kep u)) (tg_kind (cg_now u)) 7), (zcp (tg_wakes (cg_kep u)) (tg_wakes (cg_now u)) 7), (zcp (tg_takes (cg_kep u)) (tg_takes (cg_now u)) 7), tg_due (cg_now u), tg_cost (cg_now u), tg_people (cg_now u), tg_door (cg_now u), tg_held (cg_now u), tg_keys (cg_now u), tg_watch (cg_now u), tg_pace (cg_now u), tg_ring (cg_now u)), cg_dra u, cg_kep u, cg_im u, cg_mp u, cg_mw u, cg_mu u, cg_mn u, cg_mi u, cg_mc u, cg_md u, cg_mo u, cg_ms u, cg_mq u, cg_se u, cg_sc u, cg_re u)) 20 (zI 7 q)) (zcpy (tg_due (cg_kep u)) (tg_due (cg_now u)) 7)).trans cc_now_due) ?_
  refine r_aload_n eX2_become_60 rfl rfl ?_
  refine r_getf (v := .ref 37) eX2_become_61 fX2_24 rfl rfl ?_
  refine n_iconst 0 eX2_become_64 rfl ?_
  refine r_aload_n eX2_become_65 rfl rfl ?_
  refine r_getf (v := .ref 21) eX2_become_66 fX2_24 rfl rfl ?_
  refine n_iconst 0 eX2_become_69 rfl ?_
  refine n_bipush 7 eX2_become_70 rfl ?_
  refine r_copy (f := fun i => nI ((tg_cost (cg_kep u)) i)) (g := fun i => nI ((tg_cost (cg_now u)) i)) (sp := 0) (dp := 0) (n := 7) eX2_become_72 lX2_37 (by omega) (Nat.le_of_ble_eq_true rfl) rfl rfl rfl rfl rfl (by decide) (by decide) (by decide) (by decide) ?_
  refine z_h ((congrArg (fun q => zs (hA t (cg_let u, cg_lc u, cg_rt u, cg_rl u, cg_ra u, cg_rf u, cg_rn u, cg_rc u, ((zcp (tg_kind (cg_kep u)) (tg_kind (cg_now u)) 7), (zcp (tg_wakes (cg_kep u)) (tg_wakes (cg_now u)) 7), (zcp (tg_takes (cg_kep u)) (tg_takes (cg_now u)) 7), (zcp (tg_due (cg_kep u)) (tg_due (cg_now u)) 7), tg_cost (cg_now u), tg_people (cg_now u), tg_door (cg_now u), tg_held (cg_now u), tg_keys (cg_now u), tg_watch (cg_now u), tg_pace (cg_now u), tg_ring (cg_now u)), cg_dra u, cg_kep u, cg_im u, cg_mp u, cg_mw u, cg_mu u, cg_mn u, cg_mi u, cg_mc u, cg_md u, cg_mo u, cg_ms u, cg_mq u, cg_se u, cg_sc u, cg_re u)) 21 (zI 7 q)) (zcpy (tg_cost (cg_kep u)) (tg_cost (cg_now u)) 7)).trans cc_now_cost) ?_
  refine r_aload_n eX2_become_75 rfl rfl ?_
  refine r_aload_n eX2_become_76 rfl rfl ?_
  refine r_getf (v := .int (nI (tg_people (cg_kep u)))) eX2_become_77 fX2_43 rfl rfl ?_
  refine cp_now_people (v := tg_people (cg_kep u)) eX2_become_80 fX2_43 rfl ?_
  refine r_aload_n eX2_become_83 rfl rfl ?_
  refine r_getf (v := .ref 38) eX2_become_84 fX2_27 rfl rfl ?_
  refine n_iconst 0 eX2_become_87 rfl ?_
  refine r_aload_n eX2_become_88 rfl rfl ?_
  refine r_getf (v := .ref 22) eX2_become_89 fX2_27 rfl rfl ?_
  refine n_iconst 0 eX2_become_92 rfl ?_
  refine n_bipush 10 eX2_become_93 rfl ?_
  refine r_copy (f := fun i => nI ((tg_door (cg_kep u)) i)) (g := fun i => nI ((tg_door (cg_now u)) i)) (sp := 0) (dp := 0) (n := 10) eX2_become_95 lX2_37 (by omega) (Nat.le_of_ble_eq_true rfl) rfl rfl rfl rfl rfl (by decide) (by decide) (by decide) (by decide) ?_
  refine z_h ((congrArg (fun q => zs (hA t (cg_let u, cg_lc u, cg_rt u, cg_rl u, cg_ra u, cg_rf u, cg_rn u, cg_rc u, ((zcp (tg_kind (cg_kep u)) (tg_kind (cg_now u)) 7), (zcp (tg_wakes (cg_kep u)) (tg_wakes (cg_now u)) 7), (zcp (tg_takes (cg_kep u)) (tg_takes (cg_now u)) 7), (zcp (tg_due (cg_kep u)) (tg_due (cg_now u)) 7), (zcp (tg_cost (cg_kep u)) (tg_cost (cg_now u)) 7), tg_people (cg_kep u), tg_door (cg_now u), tg_held (cg_now u), tg_keys (cg_now u), tg_watch (cg_now u), tg_pace (cg_now u), tg_ring (cg_now u)), cg_dra u, cg_kep u, cg_im u, cg_mp u, cg_mw u, cg_mu u, cg_mn u, cg_mi u, cg_mc u, cg_md u, cg_mo u, cg_ms u, cg_mq u, cg_se u, cg_sc u, cg_re u)) 22 (zI 10 q)) (zcpy (tg_door (cg_kep u)) (tg_door (cg_now u)) 10)).trans cc_now_door) ?_
  refine r_aload_n eX2_become_98 rfl rfl ?_
  refine r_getf (v := .ref 39) eX2_become_99 fX2_30 rfl rfl ?_
  refine n_iconst 0 eX2_become_102 rfl ?_
  refine r_aload_n eX2_become_103 rfl rfl ?_
  refine r_getf (v := .ref 23) eX2_become_104 fX2_30 rfl rfl ?_
  refine n_iconst 0 eX2_become_107 rfl ?_
  refine n_bipush 10 eX2_become_108 rfl ?_
  refine r_copy (f := fun i => nI ((tg_held (cg_kep u)) i)) (g := fun i => nI ((tg_held (cg_now u)) i)) (sp := 0) (dp := 0) (n := 10) eX2_become_110 lX2_37 (by omega) (Nat.le_of_ble_eq_true rfl) rfl rfl rfl rfl rfl (by decide) (by decide) (by decide) (by decide) ?_
  refine z_h ((congrArg (fun q => zs (hA t (cg_let u, cg_lc u, cg_rt u, cg_rl u, cg_ra u, cg_rf u, cg_rn u, cg_rc u, ((zcp (tg_kind (cg_kep u)) (tg_kind (cg_now u)) 7), (zcp (tg_wakes (cg_kep u)) (tg_wakes (cg_now u)) 7), (zcp (tg_takes (cg_kep u)) (tg_takes (cg_now u)) 7), (zcp (tg_due (cg_kep u)) (tg_due (cg_now u)) 7), (zcp (tg_cost (cg_kep u)) (tg_cost (cg_now u)) 7), tg_people (cg_kep u), (zcp (tg_door (cg_kep u)) (tg_door (cg_now u)) 10), tg_held (cg_now u), tg_keys (cg_now u), tg_watch (cg_now u), tg_pace (cg_now u), tg_ring (cg_now u)), cg_dra u, cg_kep u, cg_im u, cg_mp u, cg_mw u, cg_mu u, cg_mn u, cg_mi u, cg_mc u, cg_md u, cg_mo u, cg_ms u, cg_mq u, cg_se u, cg_sc u, cg_re u)) 23 (zI 10 q)) (zcpy (tg_held (cg_kep u)) (tg_held (cg_now u)) 10)).trans cc_now_held) ?_
  refine r_aload_n eX2_become_113 rfl rfl ?_
  refine r_aload_n eX2_become_114 rfl rfl ?_
  refine r_getf (v := .int (nI (tg_keys (cg_kep u)))) eX2_become_115 fX2_46 rfl rfl ?_
  refine cp_now_keys (v := tg_keys (cg_kep u)) eX2_become_118 fX2_46 rfl ?_
  refine r_aload_n eX2_become_121 rfl rfl ?_
  refine r_aload_n eX2_become_122 rfl rfl ?_
  refine r_getf (v := .int (nI (tg_watch (cg_kep u)))) eX2_become_123 fX2_49 rfl rfl ?_
  refine cp_now_watch (v := tg_watch (cg_kep u)) eX2_become_126 fX2_49 rfl ?_
  refine r_aload_n eX2_become_129 rfl rfl ?_
  refine r_aload_n eX2_become_130 rfl rfl ?_
  refine r_getf (v := .int (nI (tg_pace (cg_kep u)))) eX2_become_131 fX2_33 rfl rfl ?_
  refine cp_now_pace (v := tg_pace (cg_kep u)) eX2_become_134 fX2_33 rfl ?_
  refine r_aload_n eX2_become_137 rfl rfl ?_
  refine r_aload_n eX2_become_138 rfl rfl ?_
  refine r_getf (v := .int (nI (tg_ring (cg_kep u)))) eX2_become_139 fX2_52 rfl rfl ?_
  refine cp_now_ring (v := tg_ring (cg_kep u)) eX2_become_142 fX2_52 rfl (by omega) ?_
  exact z_vret eX2_become_145 ⟨rfl, rfl⟩
set_option maxHeartbeats 1000000 in
set_option maxRecDepth 100000 in
theorem s2_addKey_y_now {t : zMod} {u : zCls} (ho : tOk (cg_now u)) (hk10 : tg_keys (cg_now u) ≤ 10) {v x : Nat} (hf : tg_keys (cg_now u) < 10) (hv : v < tg_people (cg_now u)) (hx : x < tg_people (cg_now u)) : Mi mX2_addKey 3 [.ref 16, .int (nI (v)), .int (nI (x))] (hA t u) (fun r h' => r = nI 1 ∧ h' = hA t (cg_let u, cg_lc u, cg_rt u, cg_rl u, cg_ra u, cg_rf u, cg_rn u, cg_rc u, (tg_kind (cg_now u), tg_wakes (cg_now u), tg_takes (cg_now u), tg_due (cg_now u), tg_cost (cg_now u), tg_people (cg_now u), (va_up (tg_door (cg_now u)) (tg_keys (cg_now u)) v), (va_up (tg_held (cg_now u)) (tg_keys (cg_now u)) x), (tg_keys (cg_now u) + 1), tg_watch (cg_now u), tg_pace (cg_now u), tg_ring (cg_now u)), cg_dra u, cg_kep u, cg_im u, cg_mp u, cg_mw u, cg_mu u, cg_mn u, cg_mi u, cg_mc u, cg_md u, cg_mo u, cg_ms u, cg_mq u, cg_se u, cg_sc u, cg_re u)) := by
  obtain ⟨hp7, hk12, hpc, hwt, hrg, hpp⟩ := id ho
  refine Mi.of (by decide) rfl (Nat.le_of_ble_eq_true rfl) ?_
  refine r_aload_n eX2_addKey_0 rfl rfl ?_
  refine r_getf (v := .int (nI (tg_keys (cg_now u)))) eX2_addKey_1 fX2_46 rfl rfl ?_
  refine n_bipush 10 eX2_addKey_4 rfl ?_
  refine n_icmp_ge eX2_addKey_6 (by omega) (by omega) (fun hc6 => absurd hc6 (by omega)) (fun hc6 => ?_)
  refine r_aload_n eX2_addKey_9 rfl rfl ?_
  refine r_iload_n eX2_addKey_10 rfl rfl ?_
  refine r_callVi1 eX2_addKey_11 lX2_67 (Or.inl ⟨_, _, _, rfl, rfl, rfl⟩) (s2_hasPerson_y_now (t := t) (u := u) ho hv) (by omega) (Nat.le_of_ble_eq_true rfl) (fun r1 h1 hq => ?_)
  obtain ⟨rfl, rfl⟩ := (show r1 = nI (1) ∧ h1 = hA t u from hq)
  refine n_if_eq eX2_addKey_14 (by omega) (fun hc14 => absurd hc14 (by decide)) (fun hc14 => ?_)
  refine r_aload_n eX2_addKey_17 rfl rfl ?_
  refine r_iload_n eX2_addKey_18 rfl rfl ?_
  refine r_callVi1 eX2_addKey_19 lX2_67 (Or.inl ⟨_, _, _, rfl, rfl, rfl⟩) (s2_hasPerson_y_now (t := t) (u := u) ho hx) (by omega) (Nat.le_of_ble_eq_true rfl) (fun r1 h1 hq => ?_)
  obtain ⟨rfl, rfl⟩ := (show r1 = nI (1) ∧ h1 = hA t u from hq)
  refine n_if_ne eX2_addKey_22 (by omega) (fun hc22 => ?_) (fun hc22 => absurd hc22 (by decide))
  refine r_aload_n eX2_addKey_27 rfl rfl ?_
  refine r_getf (v := .ref 22) eX2_addKey_28 fX2_27 rfl rfl ?_
  refine r_aload_n eX2_addKey_31 rfl rfl ?_
  refine r_getf (v := .int (nI (tg_keys (cg_now u)))) eX2_addKey_32 fX2_46 rfl rfl ?_
  refine r_iload_n eX2_addKey_35 rfl rfl ?_
  refine z_h (h' := hA t (cg_let u, cg_lc u, cg_rt u, cg_rl u, cg_ra u, cg_rf u, cg_rn u, cg_rc u, (tg_kind (cg_now u), tg_wakes (cg_now u), tg_takes (cg_now u), tg_due (cg_now u), tg_cost (cg_now u), tg_people (cg_now u), tg_door (cg_now u), tg_held (cg_now u), tg_keys (cg_now u), tg_watch (cg_now u), tg_pace (cg_now u), tg_ring (cg_now u)), cg_dra u, cg_kep u, cg_im u, cg_mp u, cg_mw u, cg_mu u, cg_mn u, cg_mi u, cg_mc u, cg_md u, cg_mo u, cg_ms u, cg_mq u, cg_se u, cg_sc u, cg_re u)) rfl ?_
  refine cw_now_door (j := tg_keys (cg_now u)) (v := v) eX2_addKey_36 rfl rfl (by omega) ?_
  refine r_aload_n eX2_addKey_37 rfl rfl ?_
  refine r_getf (v := .ref 23) eX2_addKey_38 fX2_30 rfl rfl ?_
  refine r_aload_n eX2_addKey_41 rfl rfl ?_
  refine r_getf (v := .int (nI (tg_keys (cg_now u)))) eX2_addKey_42 fX2_46 rfl rfl ?_
  refine r_iload_n eX2_addKey_45 rfl rfl ?_
  refine cw_now_held (j := tg_keys (cg_now u)) (v := x) eX2_addKey_46 rfl rfl (by omega) ?_
  refine r_aload_n eX2_addKey_47 rfl rfl ?_
  refine r_dup eX2_addKey_48 rfl ?_
  refine r_getf (v := .int (nI (tg_keys (cg_now u)))) eX2_addKey_49 fX2_46 rfl rfl ?_
  refine n_iconst 1 eX2_addKey_52 rfl ?_
  refine n_add eX2_addKey_53 ?_
  refine cp_now_keys (v := (tg_keys (cg_now u)) + 1) eX2_addKey_54 fX2_46 rfl ?_
  refine n_iconst 1 eX2_addKey_57 rfl ?_
  exact z_iret eX2_addKey_58 rfl (by decide) ⟨_, rfl, rfl, rfl⟩
set_option maxHeartbeats 1000000 in
set_option maxRecDepth 100000 in
theorem s2_addKey_f_now {t : zMod} {u : zCls} (ho : tOk (cg_now u)) (hk10 : tg_keys (cg_now u) ≤ 10) {v x : Nat} (hf : tg_keys (cg_now u) = 10) : Mi mX2_addKey 3 [.ref 16, .int (nI (v)), .int (nI (x))] (hA t u) (fun r h' => r = nI 0 ∧ h' = hA t u) := by
  obtain ⟨hp7, hk12, hpc, hwt, hrg, hpp⟩ := id ho
  refine Mi.of (by decide) rfl (Nat.le_of_ble_eq_true rfl) ?_
  refine r_aload_n eX2_addKey_0 rfl rfl ?_
  refine r_getf (v := .int (nI (tg_keys (cg_now u)))) eX2_addKey_1 fX2_46 rfl rfl ?_
  refine n_bipush 10 eX2_addKey_4 rfl ?_
  refine n_icmp_ge eX2_addKey_6 (by omega) (by omega) (fun hc6 => ?_) (fun hc6 => absurd hc6 (by omega))
  refine n_iconst 0 eX2_addKey_25 rfl ?_
  exact z_iret eX2_addKey_26 rfl (by decide) ⟨_, rfl, rfl, rfl⟩
set_option maxHeartbeats 1000000 in
set_option maxRecDepth 100000 in
theorem s2_addKey_y_dra {t : zMod} {u : zCls} (ho : tOk (cg_dra u)) (hk10 : tg_keys (cg_dra u) ≤ 10) {v x : Nat} (hf : tg_keys (cg_dra u) < 10) (hv : v < tg_people (cg_dra u)) (hx : x < tg_people (cg_dra u)) : Mi mX2_addKey 3 [.ref 24, .int (nI (v)), .int (nI (x))] (hA t u) (fun r h' => r = nI 1 ∧ h' = hA t (cg_let u, cg_lc u, cg_rt u, cg_rl u, cg_ra u, cg_rf u, cg_rn u, cg_rc u, cg_now u, (tg_kind (cg_dra u), tg_wakes (cg_dra u), tg_takes (cg_dra u), tg_due (cg_dra u), tg_cost (cg_dra u), tg_people (cg_dra u), (va_up (tg_door (cg_dra u)) (tg_keys (cg_dra u)) v), (va_up (tg_held (cg_dra u)) (tg_keys (cg_dra u)) x), (tg_keys (cg_dra u) + 1), tg_watch (cg_dra u), tg_pace (cg_dra u), tg_ring (cg_dra u)), cg_kep u, cg_im u, cg_mp u, cg_mw u, cg_mu u, cg_mn u, cg_mi u, cg_mc u, cg_md u, cg_mo u, cg_ms u, cg_mq u, cg_se u, cg_sc u, cg_re u)) := by
  obtain ⟨hp7, hk12, hpc, hwt, hrg, hpp⟩ := id ho
  refine Mi.of (by decide) rfl (Nat.le_of_ble_eq_true rfl) ?_
  refine r_aload_n eX2_addKey_0 rfl rfl ?_
  refine r_getf (v := .int (nI (tg_keys (cg_dra u)))) eX2_addKey_1 fX2_46 rfl rfl ?_
  refine n_bipush 10 eX2_addKey_4 rfl ?_
  refine n_icmp_ge eX2_addKey_6 (by omega) (by omega) (fun hc6 => absurd hc6 (by omega)) (fun hc6 => ?_)
  refine r_aload_n eX2_addKey_9 rfl rfl ?_
  refine r_iload_n eX2_addKey_10 rfl rfl ?_
  refine r_callVi1 eX2_addKey_11 lX2_67 (Or.inl ⟨_, _, _, rfl, rfl, rfl⟩) (s2_hasPerson_y_dra (t := t) (u := u) ho hv) (by omega) (Nat.le_of_ble_eq_true rfl) (fun r1 h1 hq => ?_)
  obtain ⟨rfl, rfl⟩ := (show r1 = nI (1) ∧ h1 = hA t u from hq)
  refine n_if_eq eX2_addKey_14 (by omega) (fun hc14 => absurd hc14 (by decide)) (fun hc14 => ?_)
  refine r_aload_n eX2_addKey_17 rfl rfl ?_
  refine r_iload_n eX2_addKey_18 rfl rfl ?_
  refine r_callVi1 eX2_addKey_19 lX2_67 (Or.inl ⟨_, _, _, rfl, rfl, rfl⟩) (s2_hasPerson_y_dra (t := t) (u := u) ho hx) (by omega) (Nat.le_of_ble_eq_true rfl) (fun r1 h1 hq => ?_)
  obtain ⟨rfl, rfl⟩ := (show r1 = nI (1) ∧ h1 = hA t u from hq)
  refine n_if_ne eX2_addKey_22 (by omega) (fun hc22 => ?_) (fun hc22 => absurd hc22 (by decide))
  refine r_aload_n eX2_addKey_27 rfl rfl ?_
  refine r_getf (v := .ref 30) eX2_addKey_28 fX2_27 rfl rfl ?_
  refine r_aload_n eX2_addKey_31 rfl rfl ?_
  refine r_getf (v := .int (nI (tg_keys (cg_dra u)))) eX2_addKey_32 fX2_46 rfl rfl ?_
  refine r_iload_n eX2_addKey_35 rfl rfl ?_
  refine z_h (h' := hA t (cg_let u, cg_lc u, cg_rt u, cg_rl u, cg_ra u, cg_rf u, cg_rn u, cg_rc u, cg_now u, (tg_kind (cg_dra u), tg_wakes (cg_dra u), tg_takes (cg_dra u), tg_due (cg_dra u), tg_cost (cg_dra u), tg_people (cg_dra u), tg_door (cg_dra u), tg_held (cg_dra u), tg_keys (cg_dra u), tg_watch (cg_dra u), tg_pace (cg_dra u), tg_ring (cg_dra u)), cg_kep u, cg_im u, cg_mp u, cg_mw u, cg_mu u, cg_mn u, cg_mi u, cg_mc u, cg_md u, cg_mo u, cg_ms u, cg_mq u, cg_se u, cg_sc u, cg_re u)) rfl ?_
  refine cw_dra_door (j := tg_keys (cg_dra u)) (v := v) eX2_addKey_36 rfl rfl (by omega) ?_
  refine r_aload_n eX2_addKey_37 rfl rfl ?_
  refine r_getf (v := .ref 31) eX2_addKey_38 fX2_30 rfl rfl ?_
  refine r_aload_n eX2_addKey_41 rfl rfl ?_
  refine r_getf (v := .int (nI (tg_keys (cg_dra u)))) eX2_addKey_42 fX2_46 rfl rfl ?_
  refine r_iload_n eX2_addKey_45 rfl rfl ?_
  refine cw_dra_held (j := tg_keys (cg_dra u)) (v := x) eX2_addKey_46 rfl rfl (by omega) ?_
  refine r_aload_n eX2_addKey_47 rfl rfl ?_
  refine r_dup eX2_addKey_48 rfl ?_
  refine r_getf (v := .int (nI (tg_keys (cg_dra u)))) eX2_addKey_49 fX2_46 rfl rfl ?_
  refine n_iconst 1 eX2_addKey_52 rfl ?_
  refine n_add eX2_addKey_53 ?_
  refine cp_dra_keys (v := (tg_keys (cg_dra u)) + 1) eX2_addKey_54 fX2_46 rfl ?_
  refine n_iconst 1 eX2_addKey_57 rfl ?_
  exact z_iret eX2_addKey_58 rfl (by decide) ⟨_, rfl, rfl, rfl⟩
set_option maxHeartbeats 1000000 in
set_option maxRecDepth 100000 in
theorem s2_addKey_f_dra {t : zMod} {u : zCls} (ho : tOk (cg_dra u)) (hk10 : tg_keys (cg_dra u) ≤ 10) {v x : Nat} (hf : tg_keys (cg_dra u) = 10) : Mi mX2_addKey 3 [.ref 24, .int (nI (v)), .int (nI (x))] (hA t u) (fun r h' => r = nI 0 ∧ h' = hA t u) := by
  obtain ⟨hp7, hk12, hpc, hwt, hrg, hpp⟩ := id ho
  refine Mi.of (by decide) rfl (Nat.le_of_ble_eq_true rfl) ?_
  refine r_aload_n eX2_addKey_0 rfl rfl ?_
  refine r_getf (v := .int (nI (tg_keys (cg_dra u)))) eX2_addKey_1 fX2_46 rfl rfl ?_
  refine n_bipush 10 eX2_addKey_4 rfl ?_
  refine n_icmp_ge eX2_addKey_6 (by omega) (by omega) (fun hc6 => ?_) (fun hc6 => absurd hc6 (by omega))
  refine n_iconst 0 eX2_addKey_25 rfl ?_
  exact z_iret eX2_addKey_26 rfl (by decide) ⟨_, rfl, rfl, rfl⟩
set_option maxHeartbeats 1000000 in
set_option maxRecDepth 100000 in
theorem s2_addKey_n1_dra {t : zMod} {u : zCls} (ho : tOk (cg_dra u)) (hk10 : tg_keys (cg_dra u) ≤ 10) {v x : Nat} (hv9 : v ≤ 9) (hv : tg_people (cg_dra u) ≤ v) : Mi mX2_addKey 3 [.ref 24, .int (nI (v)), .int (nI (x))] (hA t u) (fun r h' => r = nI 0 ∧ h' = hA t u) := by
  obtain ⟨hp7, hk12, hpc, hwt, hrg, hpp⟩ := id ho
  refine Mi.of (by decide) rfl (Nat.le_of_ble_eq_true rfl) ?_
  refine r_aload_n eX2_addKey_0 rfl rfl ?_
  refine r_getf (v := .int (nI (tg_keys (cg_dra u)))) eX2_addKey_1 fX2_46 rfl rfl ?_
  refine n_bipush 10 eX2_addKey_4 rfl ?_
  refine n_icmp_ge eX2_addKey_6 (by omega) (by omega) (fun hc6 => ?_) (fun hc6 => ?_)
  · refine n_iconst 0 eX2_addKey_25 rfl ?_
    exact z_iret eX2_addKey_26 rfl (by decide) ⟨_, rfl, rfl, rfl⟩
  · refine r_aload_n eX2_addKey_9 rfl rfl ?_
    refine r_iload_n eX2_addKey_10 rfl rfl ?_
    refine r_callVi1 eX2_addKey_11 lX2_67 (Or.inl ⟨_, _, _, rfl, rfl, rfl⟩) (s2_hasPerson_n_dra (t := t) (u := u) (Or.inr (nI_le hv (by omega)))) (by omega) (Nat.le_of_ble_eq_true rfl) (fun r1 h1 hq => ?_)
    obtain ⟨rfl, rfl⟩ := (show r1 = nI (0) ∧ h1 = hA t u from hq)
    refine n_if_eq eX2_addKey_14 (by omega) (fun hc14 => ?_) (fun hc14 => absurd hc14 (by decide))
    refine n_iconst 0 eX2_addKey_25 rfl ?_
    exact z_iret eX2_addKey_26 rfl (by decide) ⟨_, rfl, rfl, rfl⟩
set_option maxHeartbeats 1000000 in
set_option maxRecDepth 100000 in
theorem s2_addKey_n2_dra {t : zMod} {u : zCls} (ho : tOk (cg_dra u)) (hk10 : tg_keys (cg_dra u) ≤ 10) {v x : Nat} (hx9 : x ≤ 99) (hv : v < tg_people (cg_dra u)) (hx : tg_people (cg_dra u) ≤ x) : Mi mX2_addKey 3 [.ref 24, .int (nI (v)), .int (nI (x))] (hA t u) (fun r h' => r = nI 0 ∧ h' = hA t u) := by
  obtain ⟨hp7, hk12, hpc, hwt, hrg, hpp⟩ := id ho
  refine Mi.of (by decide) rfl (Nat.le_of_ble_eq_true rfl) ?_
  refine r_aload_n eX2_addKey_0 rfl rfl ?_
  refine r_getf (v := .int (nI (tg_keys (cg_dra u)))) eX2_addKey_1 fX2_46 rfl rfl ?_
  refine n_bipush 10 eX2_addKey_4 rfl ?_
  refine n_icmp_ge eX2_addKey_6 (by omega) (by omega) (fun hc6 => ?_) (fun hc6 => ?_)
  · refine n_iconst 0 eX2_addKey_25 rfl ?_
    exact z_iret eX2_addKey_26 rfl (by decide) ⟨_, rfl, rfl, rfl⟩
  · refine r_aload_n eX2_addKey_9 rfl rfl ?_
    refine r_iload_n eX2_addKey_10 rfl rfl ?_
    refine r_callVi1 eX2_addKey_11 lX2_67 (Or.inl ⟨_, _, _, rfl, rfl, rfl⟩) (s2_hasPerson_y_dra (t := t) (u := u) ho hv) (by omega) (Nat.le_of_ble_eq_true rfl) (fun r1 h1 hq => ?_)
    obtain ⟨rfl, rfl⟩ := (show r1 = nI (1) ∧ h1 = hA t u from hq)
    refine n_if_eq eX2_addKey_14 (by omega) (fun hc14 => absurd hc14 (by decide)) (fun hc14 => ?_)
    refine r_aload_n eX2_addKey_17 rfl rfl ?_
    refine r_iload_n eX2_addKey_18 rfl rfl ?_
    refine r_callVi1 eX2_addKey_19 lX2_67 (Or.inl ⟨_, _, _, rfl, rfl, rfl⟩) (s2_hasPerson_n_dra (t := t) (u := u) (Or.inr (nI_le hx (by omega)))) (by omega) (Nat.le_of_ble_eq_true rfl) (fun r1 h1 hq => ?_)
    obtain ⟨rfl, rfl⟩ := (show r1 = nI (0) ∧ h1 = hA t u from hq)
    refine n_if_ne eX2_addKey_22 (by omega) (fun hc22 => absurd hc22 (by decide)) (fun hc22 => ?_)
    refine n_iconst 0 eX2_addKey_25 rfl ?_
    exact z_iret eX2_addKey_26 rfl (by decide) ⟨_, rfl, rfl, rfl⟩
set_option maxHeartbeats 1000000 in
set_option maxRecDepth 100000 in
theorem s2_changeWatcher_n {t : zMod} {u : zCls} (ho : tOk (cg_dra u)) {v : Nat} (hv9 : v ≤ 9) (hv : tg_people (cg_dra u) ≤ v) : Mi mX2_changeWatcher 3 [.ref 24, .int (nI (v))] (hA t u) (fun r h' => r = nI 0 ∧ h' = hA t u) := by
  obtain ⟨hp7, hk12, hpc, hwt, hrg, hpp⟩ := id ho
  refine Mi.of (by decide) rfl (Nat.le_of_ble_eq_true rfl) ?_
  refine r_aload_n eX2_changeWatcher_0 rfl rfl ?_
  refine r_iload_n eX2_changeWatcher_1 rfl rfl ?_
  refine r_callVi1 eX2_changeWatcher_2 lX2_67 (Or.inl ⟨_, _, _, rfl, rfl, rfl⟩) (s2_hasPerson_n_dra (t := t) (u := u) (Or.inr (nI_le hv (by omega)))) (by omega) (Nat.le_of_ble_eq_true rfl) (fun r1 h1 hq => ?_)
  obtain ⟨rfl, rfl⟩ := (show r1 = nI (0) ∧ h1 = hA t u from hq)
  refine n_if_ne eX2_changeWatcher_5 (by omega) (fun hc5 => absurd hc5 (by decide)) (fun hc5 => ?_)
  refine n_iconst 0 eX2_changeWatcher_8 rfl ?_
  exact z_iret eX2_changeWatcher_9 rfl (by decide) ⟨_, rfl, rfl, rfl⟩
set_option maxHeartbeats 1000000 in
set_option maxRecDepth 100000 in
theorem s2_changeWatcher_y {t : zMod} {u : zCls} (ho : tOk (cg_dra u)) {v : Nat} (hv : v < tg_people (cg_dra u)) : Mi mX2_changeWatcher 3 [.ref 24, .int (nI (v))] (hA t u) (fun r h' => r = nI 1 ∧ h' = hA t (cg_let u, cg_lc u, cg_rt u, cg_rl u, cg_ra u, cg_rf u, cg_rn u, cg_rc u, cg_now u, (tg_kind (cg_dra u), tg_wakes (cg_dra u), tg_takes (cg_dra u), tg_due (cg_dra u), tg_cost (cg_dra u), tg_people (cg_dra u), tg_door (cg_dra u), tg_held (cg_dra u), tg_keys (cg_dra u), (tg_watch (cg_dra u) ^^^ 1 * 2 ^ v), tg_pace (cg_dra u), tg_ring (cg_dra u)), cg_kep u, cg_im u, cg_mp u, cg_mw u, cg_mu u, cg_mn u, cg_mi u, cg_mc u, cg_md u, cg_mo u, cg_ms u, cg_mq u, cg_se u, cg_sc u, cg_re u)) := by
  obtain ⟨hp7, hk12, hpc, hwt, hrg, hpp⟩ := id ho
  refine Mi.of (by decide) rfl (Nat.le_of_ble_eq_true rfl) ?_
  refine r_aload_n eX2_changeWatcher_0 rfl rfl ?_
  refine r_iload_n eX2_changeWatcher_1 rfl rfl ?_
  refine r_callVi1 eX2_changeWatcher_2 lX2_67 (Or.inl ⟨_, _, _, rfl, rfl, rfl⟩) (s2_hasPerson_y_dra (t := t) (u := u) ho hv) (by omega) (Nat.le_of_ble_eq_true rfl) (fun r1 h1 hq => ?_)
  obtain ⟨rfl, rfl⟩ := (show r1 = nI (1) ∧ h1 = hA t u from hq)
  refine n_if_ne eX2_changeWatcher_5 (by omega) (fun hc5 => ?_) (fun hc5 => absurd hc5 (by decide))
  refine r_aload_n eX2_changeWatcher_10 rfl rfl ?_
  refine r_dup eX2_changeWatcher_11 rfl ?_
  refine r_getf (v := .int (nI (tg_watch (cg_dra u)))) eX2_changeWatcher_12 fX2_49 rfl rfl ?_
  refine n_iconst 1 eX2_changeWatcher_15 rfl ?_
  refine r_iload_n eX2_changeWatcher_16 rfl rfl ?_
  refine n_shl eX2_changeWatcher_17 (by omega) (by have := Nat.pow_lt_pow_right (show 1 < 2 by omega) (show v < 7 by omega); omega) ?_
  refine n_xor eX2_changeWatcher_18 ?_
  refine z_h (h' := hA t (cg_let u, cg_lc u, cg_rt u, cg_rl u, cg_ra u, cg_rf u, cg_rn u, cg_rc u, cg_now u, (tg_kind (cg_dra u), tg_wakes (cg_dra u), tg_takes (cg_dra u), tg_due (cg_dra u), tg_cost (cg_dra u), tg_people (cg_dra u), tg_door (cg_dra u), tg_held (cg_dra u), tg_keys (cg_dra u), tg_watch (cg_dra u), tg_pace (cg_dra u), tg_ring (cg_dra u)), cg_kep u, cg_im u, cg_mp u, cg_mw u, cg_mu u, cg_mn u, cg_mi u, cg_mc u, cg_md u, cg_mo u, cg_ms u, cg_mq u, cg_se u, cg_sc u, cg_re u)) rfl ?_
  refine cp_dra_watch (v := (tg_watch (cg_dra u)) ^^^ (1 * 2 ^ v)) eX2_changeWatcher_19 fX2_49 rfl ?_
  refine n_iconst 1 eX2_changeWatcher_22 rfl ?_
  exact z_iret eX2_changeWatcher_23 rfl (by decide) ⟨_, rfl, rfl, rfl⟩
set_option maxHeartbeats 1000000 in
set_option maxRecDepth 100000 in
theorem s2_addPerson_y {t : zMod} {u : zCls} (ho : tOk (cg_dra u)) (hf : tg_people (cg_dra u) < 7) : Mi mX2_addPerson 3 [.ref 24, .ref 15] (hA t u) (fun r h' => r = nI 1 ∧ h' = hA t (cg_let u, cg_lc u, cg_rt u, cg_rl u, cg_ra u, cg_rf u, cg_rn u, cg_rc u, cg_now u, ((va_up (tg_kind (cg_dra u)) (tg_people (cg_dra u)) (cg_rn u 0)), (va_up (tg_wakes (cg_dra u)) (tg_people (cg_dra u)) (cg_rn u 1)), (va_up (tg_takes (cg_dra u)) (tg_people (cg_dra u)) (cg_rn u 2)), (va_up (tg_due (cg_dra u)) (tg_people (cg_dra u)) (cg_rn u 3)), (va_up (tg_cost (cg_dra u)) (tg_people (cg_dra u)) (cg_rn u 4)), (tg_people (cg_dra u) + 1), tg_door (cg_dra u), tg_held (cg_dra u), tg_keys (cg_dra u), tg_watch (cg_dra u), tg_pace (cg_dra u), tg_ring (cg_dra u)), cg_kep u, cg_im u, cg_mp u, cg_mw u, cg_mu u, cg_mn u, cg_mi u, cg_mc u, cg_md u, cg_mo u, cg_ms u, cg_mq u, cg_se u, cg_sc u, cg_re u)) := by
  obtain ⟨hp7, hk12, hpc, hwt, hrg, hpp⟩ := id ho
  refine Mi.of (by decide) rfl (Nat.le_of_ble_eq_true rfl) ?_
  refine r_aload_n eX2_addPerson_0 rfl rfl ?_
  refine r_getf (v := .int (nI (tg_people (cg_dra u)))) eX2_addPerson_1 fX2_43 rfl rfl ?_
  refine n_bipush 7 eX2_addPerson_4 rfl ?_
  refine n_icmp_ge eX2_addPerson_6 (by omega) (by omega) (fun hc6 => absurd hc6 (by omega)) (fun hc6 => ?_)
  refine r_aload_n eX2_addPerson_9 rfl rfl ?_
  refine r_alen eX2_addPerson_10 rfl ?_
  refine n_iconst 5 eX2_addPerson_11 rfl ?_
  refine n_icmp_ge eX2_addPerson_12 (by omega) (by omega) (fun hc12 => ?_) (fun hc12 => absurd hc12 (by decide))
  refine r_aload_n eX2_addPerson_17 rfl rfl ?_
  refine r_getf (v := .ref 25) eX2_addPerson_18 fX2_9 rfl rfl ?_
  refine r_aload_n eX2_addPerson_21 rfl rfl ?_
  refine r_getf (v := .int (nI (tg_people (cg_dra u)))) eX2_addPerson_22 fX2_43 rfl rfl ?_
  refine r_aload_n eX2_addPerson_25 rfl rfl ?_
  refine n_iconst 0 eX2_addPerson_26 rfl ?_
  refine n_iald (f := cg_rn u) (j := 0) eX2_addPerson_27 rfl rfl (by omega) (by decide) ?_
  refine z_h (h' := hA t (cg_let u, cg_lc u, cg_rt u, cg_rl u, cg_ra u, cg_rf u, cg_rn u, cg_rc u, cg_now u, (tg_kind (cg_dra u), tg_wakes (cg_dra u), tg_takes (cg_dra u), tg_due (cg_dra u), tg_cost (cg_dra u), tg_people (cg_dra u), tg_door (cg_dra u), tg_held (cg_dra u), tg_keys (cg_dra u), tg_watch (cg_dra u), tg_pace (cg_dra u), tg_ring (cg_dra u)), cg_kep u, cg_im u, cg_mp u, cg_mw u, cg_mu u, cg_mn u, cg_mi u, cg_mc u, cg_md u, cg_mo u, cg_ms u, cg_mq u, cg_se u, cg_sc u, cg_re u)) rfl ?_
  refine cw_dra_kind (j := tg_people (cg_dra u)) (v := (cg_rn u) (0)) eX2_addPerson_28 rfl rfl (by omega) ?_
  refine r_aload_n eX2_addPerson_29 rfl rfl ?_
  refine r_getf (v := .ref 26) eX2_addPerson_30 fX2_15 rfl rfl ?_
  refine r_aload_n eX2_addPerson_33 rfl rfl ?_
  refine r_getf (v := .int (nI (tg_people (cg_dra u)))) eX2_addPerson_34 fX2_43 rfl rfl ?_
  refine r_aload_n eX2_addPerson_37 rfl rfl ?_
  refine n_iconst 1 eX2_addPerson_38 rfl ?_
  refine n_iald (f := cg_rn u) (j := 1) eX2_addPerson_39 rfl rfl (by omega) (by decide) ?_
  refine cw_dra_wakes (j := tg_people (cg_dra u)) (v := (cg_rn u) (1)) eX2_addPerson_40 rfl rfl (by omega) ?_
  refine r_aload_n eX2_addPerson_41 rfl rfl ?_
  refine r_getf (v := .ref 27) eX2_addPerson_42 fX2_18 rfl rfl ?_
  refine r_aload_n eX2_addPerson_45 rfl rfl ?_
  refine r_getf (v := .int (nI (tg_people (cg_dra u)))) eX2_addPerson_46 fX2_43 rfl rfl ?_
  refine r_aload_n eX2_addPerson_49 rfl rfl ?_
  refine n_iconst 2 eX2_addPerson_50 rfl ?_
  refine n_iald (f := cg_rn u) (j := 2) eX2_addPerson_51 rfl rfl (by omega) (by decide) ?_
  refine cw_dra_takes (j := tg_people (cg_dra u)) (v := (cg_rn u) (2)) eX2_addPerson_52 rfl rfl (by omega) ?_
  refine r_aload_n eX2_addPerson_53 rfl rfl ?_
  refine r_getf (v := .ref 28) eX2_addPerson_54 fX2_21 rfl rfl ?_
  refine r_aload_n eX2_addPerson_57 rfl rfl ?_
  refine r_getf (v := .int (nI (tg_people (cg_dra u)))) eX2_addPerson_58 fX2_43 rfl rfl ?_
  refine r_aload_n eX2_addPerson_61 rfl rfl ?_
  refine n_iconst 3 eX2_addPerson_62 rfl ?_
  refine n_iald (f := cg_rn u) (j := 3) eX2_addPerson_63 rfl rfl (by omega) (by decide) ?_
  refine cw_dra_due (j := tg_people (cg_dra u)) (v := (cg_rn u) (3)) eX2_addPerson_64 rfl rfl (by omega) ?_
  refine r_aload_n eX2_addPerson_65 rfl rfl ?_
  refine r_getf (v := .ref 29) eX2_addPerson_66 fX2_24 rfl rfl ?_
  refine r_aload_n eX2_addPerson_69 rfl rfl ?_
  refine r_getf (v := .int (nI (tg_people (cg_dra u)))) eX2_addPerson_70 fX2_43 rfl rfl ?_
  refine r_aload_n eX2_addPerson_73 rfl rfl ?_
  refine n_iconst 4 eX2_addPerson_74 rfl ?_
  refine n_iald (f := cg_rn u) (j := 4) eX2_addPerson_75 rfl rfl (by omega) (by decide) ?_
  refine cw_dra_cost (j := tg_people (cg_dra u)) (v := (cg_rn u) (4)) eX2_addPerson_76 rfl rfl (by omega) ?_
  refine r_aload_n eX2_addPerson_77 rfl rfl ?_
  refine r_dup eX2_addPerson_78 rfl ?_
  refine r_getf (v := .int (nI (tg_people (cg_dra u)))) eX2_addPerson_79 fX2_43 rfl rfl ?_
  refine n_iconst 1 eX2_addPerson_82 rfl ?_
  refine n_add eX2_addPerson_83 ?_
  refine cp_dra_people (v := (tg_people (cg_dra u)) + 1) eX2_addPerson_84 fX2_43 rfl ?_
  refine n_iconst 1 eX2_addPerson_87 rfl ?_
  exact z_iret eX2_addPerson_88 rfl (by decide) ⟨_, rfl, rfl, rfl⟩
set_option maxHeartbeats 1000000 in
set_option maxRecDepth 100000 in
theorem s2_addPerson_n {t : zMod} {u : zCls} (ho : tOk (cg_dra u)) (hf : tg_people (cg_dra u) = 7) : Mi mX2_addPerson 3 [.ref 24, .ref 15] (hA t u) (fun r h' => r = nI 0 ∧ h' = hA t u) := by
  obtain ⟨hp7, hk12, hpc, hwt, hrg, hpp⟩ := id ho
  refine Mi.of (by decide) rfl (Nat.le_of_ble_eq_true rfl) ?_
  refine r_aload_n eX2_addPerson_0 rfl rfl ?_
  refine r_getf (v := .int (nI (tg_people (cg_dra u)))) eX2_addPerson_1 fX2_43 rfl rfl ?_
  refine n_bipush 7 eX2_addPerson_4 rfl ?_
  refine n_icmp_ge eX2_addPerson_6 (by omega) (by omega) (fun hc6 => ?_) (fun hc6 => absurd hc6 (by omega))
  refine n_iconst 0 eX2_addPerson_15 rfl ?_
  exact z_iret eX2_addPerson_16 rfl (by decide) ⟨_, rfl, rfl, rfl⟩
set_option maxHeartbeats 1000000 in
set_option maxRecDepth 100000 in
theorem s2_exchange {t : zMod} {u : zCls} (ho : tOk (cg_dra u)) (hk10 : tg_keys (cg_dra u) ≤ 10) {a b : Nat} (ha : a < tg_keys (cg_dra u)) (hb : b < tg_keys (cg_dra u)) : Mv mX2_exchangeHolders 3 [.ref 24, .int (nI (a)), .int (nI (b))] (hA t u) (fun h' => h' = hA t (cg_let u, cg_lc u, cg_rt u, cg_rl u, cg_ra u, cg_rf u, cg_rn u, cg_rc u, cg_now u, (tg_kind (cg_dra u), tg_wakes (cg_dra u), tg_takes (cg_dra u), tg_due (cg_dra u), tg_cost (cg_dra u), tg_people (cg_dra u), tg_door (cg_dra u), (va_up (va_up (tg_held (cg_dra u)) a (tg_held (cg_dra u) b)) b (tg_held (cg_dra u) a)), tg_keys (cg_dra u), tg_watch (cg_dra u), tg_pace (cg_dra u), tg_ring (cg_dra u)), cg_kep u, cg_im u, cg_mp u, cg_mw u, cg_mu u, cg_mn u, cg_mi u, cg_mc u, cg_md u, cg_mo u, cg_ms u, cg_mq u, cg_se u, cg_sc u, cg_re u)) := by
  obtain ⟨hp7, hk12, hpc, hwt, hrg, hpp⟩ := id ho
  refine Mv.of (by decide) rfl rfl (Nat.le_of_ble_eq_true rfl) ?_
  refine r_aload_n eX2_exchangeHolders_0 rfl rfl ?_
  refine r_getf (v := .ref 31) eX2_exchangeHolders_1 fX2_30 rfl rfl ?_
  refine r_iload_n eX2_exchangeHolders_4 rfl rfl ?_
  refine n_iald (f := tg_held (cg_dra u)) (j := a) eX2_exchangeHolders_5 rfl rfl (by omega) (by decide) ?_
  refine r_istore_n eX2_exchangeHolders_6 rfl (by decide) ?_
  refine r_aload_n eX2_exchangeHolders_7 rfl rfl ?_
  refine r_getf (v := .ref 31) eX2_exchangeHolders_8 fX2_30 rfl rfl ?_
  refine r_iload_n eX2_exchangeHolders_11 rfl rfl ?_
  refine r_aload_n eX2_exchangeHolders_12 rfl rfl ?_
  refine r_getf (v := .ref 31) eX2_exchangeHolders_13 fX2_30 rfl rfl ?_
  refine r_iload_n eX2_exchangeHolders_16 rfl rfl ?_
  refine n_iald (f := tg_held (cg_dra u)) (j := b) eX2_exchangeHolders_17 rfl rfl (by omega) (by decide) ?_
  refine z_h (h' := hA t (cg_let u, cg_lc u, cg_rt u, cg_rl u, cg_ra u, cg_rf u, cg_rn u, cg_rc u, cg_now u, (tg_kind (cg_dra u), tg_wakes (cg_dra u), tg_takes (cg_dra u), tg_due (cg_dra u), tg_cost (cg_dra u), tg_people (cg_dra u), tg_door (cg_dra u), tg_held (cg_dra u), tg_keys (cg_dra u), tg_watch (cg_dra u), tg_pace (cg_dra u), tg_ring (cg_dra u)), cg_kep u, cg_im u, cg_mp u, cg_mw u, cg_mu u, cg_mn u, cg_mi u, cg_mc u, cg_md u, cg_mo u, cg_ms u, cg_mq u, cg_se u, cg_sc u, cg_re u)) rfl ?_
  refine cw_dra_held (j := a) (v := (tg_held (cg_dra u)) (b)) eX2_exchangeHolders_18 rfl rfl (by omega) ?_
  refine r_aload_n eX2_exchangeHolders_19 rfl rfl ?_
  refine r_getf (v := .ref 31) eX2_exchangeHolders_20 fX2_30 rfl rfl ?_
  refine r_iload_n eX2_exchangeHolders_23 rfl rfl ?_
  refine r_iload_n eX2_exchangeHolders_24 rfl rfl ?_
  refine cw_dra_held (j := b) (v := (tg_held (cg_dra u)) (a)) eX2_exchangeHolders_25 rfl rfl (by omega) ?_
  exact z_vret eX2_exchangeHolders_26 ⟨rfl, rfl⟩
def zdp (D : Nat → Nat) (k0 m i : Nat) : Nat := if k0 ≤ i ∧ i + 1 < m then D (i + 1) else D i
def tDrop (T : zTown) (k : Nat) : zTown := (tg_kind T, tg_wakes T, tg_takes T, tg_due T, tg_cost T, tg_people T, zdp (tg_door T) k (tg_keys T), zdp (tg_held T) k (tg_keys T), tg_keys T - 1, tg_watch T, tg_pace T, tg_ring T)
set_option maxHeartbeats 1000000 in
set_option maxRecDepth 100000 in
theorem s2_dropKey_l_now {t : zMod} {u : zCls} (ho : tOk (cg_now u)) (hk10 : tg_keys (cg_now u) ≤ 10) {k0 : Nat} : ∀ (k : Nat) (kk : Nat) (X : Nat → Nat) (Y : Nat → Nat) (hd : kk + k + 1 = tg_keys (cg_now u)) (hk : k0 ≤ kk) (hX : ∀ i, X i = if k0 ≤ i ∧ i < kk then tg_door (cg_now u) (i + 1) else tg_door (cg_now u) i) (hY : ∀ i, Y i = if k0 ≤ i ∧ i < kk then tg_held (cg_now u) (i + 1) else tg_held (cg_now u) i), Rq mX2_dropKey 1 none 2 [.ref 16, .int (nI (k0)), .int (nI (kk))] [] (hA t (cg_let u, cg_lc u, cg_rt u, cg_rl u, cg_ra u, cg_rf u, cg_rn u, cg_rc u, (tg_kind (cg_now u), tg_wakes (cg_now u), tg_takes (cg_now u), tg_due (cg_now u), tg_cost (cg_now u), tg_people (cg_now u), X, Y, tg_keys (cg_now u), tg_watch (cg_now u), tg_pace (cg_now u), tg_ring (cg_now u)), cg_dra u, cg_kep u, cg_im u, cg_mp u, cg_mw u, cg_mu u, cg_mn u, cg_mi u, cg_mc u, cg_md u, cg_mo u, cg_ms u, cg_mq u, cg_se u, cg_sc u, cg_re u)) (fun r h' => r = none ∧ h' = hA t (cg_let u, cg_lc u, cg_rt u, cg_rl u, cg_ra u, cg_rf u, cg_rn u, cg_rc u, (tDrop (cg_now u) k0), cg_dra u, cg_kep u, cg_im u, cg_mp u, cg_mw u, cg_mu u, cg_mn u, cg_mi u, cg_mc u, cg_md u, cg_mo u, cg_ms u, cg_mq u, cg_se u, cg_sc u, cg_re u)) := by
  intro k
  induction k with
  | zero =>
    intro kk X Y hd hk hX hY
    obtain ⟨hp7, hk12, hpc, hwt, hrg, hpp⟩ := id ho
    have e1 : X = zdp (tg_door (cg_now u)) k0 (tg_keys (cg_now u)) := by
      funext i
      rw [hX i]
      unfold zdp
      by_cases h9 : k0 ≤ i ∧ i < kk
      · rw [if_pos h9, if_pos (by omega)]
      · rw [if_neg h9, if_neg (by omega)]
    have e2 : Y = zdp (tg_held (cg_now u)) k0 (tg_keys (cg_now u)) := by
      funext i
      rw [hY i]
      unfold zdp
      by_cases h9 : k0 ≤ i ∧ i < kk
      · rw [if_pos h9, if_pos (by omega)]
      · rw [if_neg h9, if_neg (by omega)]
    subst e1
    subst e2
    refine r_iload_n eX2_dropKey_2 rfl rfl ?_
    refine n_iconst 1 eX2_dropKey_3 rfl ?_
    refine n_add eX2_dropKey_4 ?_
    refine r_aload_n eX2_dropKey_5 rfl rfl ?_
    refine r_getf (v := .int (nI (tg_keys (cg_now u)))) eX2_dropKey_6 fX2_46 rfl rfl ?_
    refine n_icmp_ge eX2_dropKey_9 (by omega) (by omega) (fun hc9 => ?_) (fun hc9 => absurd hc9 (by omega))
    refine r_aload_n eX2_dropKey_46 rfl rfl ?_
    refine r_dup eX2_dropKey_47 rfl ?_
    refine r_getf (v := .int (nI (tg_keys (cg_now u)))) eX2_dropKey_48 fX2_46 rfl rfl ?_
    refine n_iconst 1 eX2_dropKey_51 rfl ?_
    refine n_sub eX2_dropKey_52 (by omega) ?_
    refine cp_now_keys (v := (tg_keys (cg_now u)) - 1) eX2_dropKey_53 fX2_46 rfl ?_
    exact z_vret eX2_dropKey_56 ⟨rfl, rfl⟩
  | succ k ih =>
    intro kk X Y hd hk hX hY
    obtain ⟨hp7, hk12, hpc, hwt, hrg, hpp⟩ := id ho
    refine r_iload_n eX2_dropKey_2 rfl rfl ?_
    refine n_iconst 1 eX2_dropKey_3 rfl ?_
    refine n_add eX2_dropKey_4 ?_
    refine r_aload_n eX2_dropKey_5 rfl rfl ?_
    refine r_getf (v := .int (nI (tg_keys (cg_now u)))) eX2_dropKey_6 fX2_46 rfl rfl ?_
    refine n_icmp_ge eX2_dropKey_9 (by omega) (by omega) (fun hc9 => absurd hc9 (by omega)) (fun hc9 => ?_)
    refine r_aload_n eX2_dropKey_12 rfl rfl ?_
    refine r_getf (v := .ref 22) eX2_dropKey_13 fX2_27 rfl rfl ?_
    refine r_iload_n eX2_dropKey_16 rfl rfl ?_
    refine r_aload_n eX2_dropKey_17 rfl rfl ?_
    refine r_getf (v := .ref 22) eX2_dropKey_18 fX2_27 rfl rfl ?_
    refine r_iload_n eX2_dropKey_21 rfl rfl ?_
    refine n_iconst 1 eX2_dropKey_22 rfl ?_
    refine n_add eX2_dropKey_23 ?_
    refine n_iald (f := X) (j := kk + 1) eX2_dropKey_24 rfl rfl (by omega) (by decide) ?_
    refine cw_now_door (j := kk) (v := X (kk + 1)) eX2_dropKey_25 rfl rfl (by omega) ?_
    refine r_aload_n eX2_dropKey_26 rfl rfl ?_
    refine r_getf (v := .ref 23) eX2_dropKey_27 fX2_30 rfl rfl ?_
    refine r_iload_n eX2_dropKey_30 rfl rfl ?_
    refine r_aload_n eX2_dropKey_31 rfl rfl ?_
    refine r_getf (v := .ref 23) eX2_dropKey_32 fX2_30 rfl rfl ?_
    refine r_iload_n eX2_dropKey_35 rfl rfl ?_
    refine n_iconst 1 eX2_dropKey_36 rfl ?_
    refine n_add eX2_dropKey_37 ?_
    refine n_iald (f := Y) (j := kk + 1) eX2_dropKey_38 rfl rfl (by omega) (by decide) ?_
    refine cw_now_held (j := kk) (v := Y (kk + 1)) eX2_dropKey_39 rfl rfl (by omega) ?_
    refine n_iinc (k := 1) eX2_dropKey_40 rfl (by decide) rfl ?_
    refine r_goto eX2_dropKey_43 ?_
    refine ih (kk + 1) _ _ (by omega) (by omega) (fun i => ?_) (fun i => ?_)
    · by_cases e : i = kk
      · rw [e, zu_s, hX (kk + 1), if_neg (by omega), if_pos (by omega)]
      · rw [zu_n e, hX i]
        by_cases h9 : k0 ≤ i ∧ i < kk
        · rw [if_pos h9, if_pos (by omega)]
        · rw [if_neg h9, if_neg (by omega)]
    · by_cases e : i = kk
      · rw [e, zu_s, hY (kk + 1), if_neg (by omega), if_pos (by omega)]
      · rw [zu_n e, hY i]
        by_cases h9 : k0 ≤ i ∧ i < kk
        · rw [if_pos h9, if_pos (by omega)]
        · rw [if_neg h9, if_neg (by omega)]
set_option maxHeartbeats 1000000 in
set_option maxRecDepth 100000 in
theorem s2_dropKey_now {t : zMod} {u : zCls} (ho : tOk (cg_now u)) (hk10 : tg_keys (cg_now u) ≤ 10) {k0 : Nat} (hk0 : k0 < tg_keys (cg_now u)) : Mv mX2_dropKey 1 [.ref 16, .int (nI (k0))] (hA t u) (fun h' => h' = hA t (cg_let u, cg_lc u, cg_rt u, cg_rl u, cg_ra u, cg_rf u, cg_rn u, cg_rc u, (tDrop (cg_now u) k0), cg_dra u, cg_kep u, cg_im u, cg_mp u, cg_mw u, cg_mu u, cg_mn u, cg_mi u, cg_mc u, cg_md u, cg_mo u, cg_ms u, cg_mq u, cg_se u, cg_sc u, cg_re u)) := by
  refine Mv.of (by decide) rfl rfl (Nat.le_of_ble_eq_true rfl) ?_
  refine r_iload_n eX2_dropKey_0 rfl rfl ?_
  refine r_istore_n eX2_dropKey_1 rfl (by decide) ?_
  refine z_h (h' := hA t (cg_let u, cg_lc u, cg_rt u, cg_rl u, cg_ra u, cg_rf u, cg_rn u, cg_rc u, (tg_kind (cg_now u), tg_wakes (cg_now u), tg_takes (cg_now u), tg_due (cg_now u), tg_cost (cg_now u), tg_people (cg_now u), tg_door (cg_now u), tg_held (cg_now u), tg_keys (cg_now u), tg_watch (cg_now u), tg_pace (cg_now u), tg_ring (cg_now u)), cg_dra u, cg_kep u, cg_im u, cg_mp u, cg_mw u, cg_mu u, cg_mn u, cg_mi u, cg_mc u, cg_md u, cg_mo u, cg_ms u, cg_mq u, cg_se u, cg_sc u, cg_re u)) rfl ?_
  exact s2_dropKey_l_now ho hk10 (tg_keys (cg_now u) - k0 - 1) k0 _ _ (by omega) (Nat.le_refl _) (fun i => by rw [if_neg (by omega)]) (fun i => by rw [if_neg (by omega)])
set_option maxHeartbeats 1000000 in
set_option maxRecDepth 100000 in
theorem s2_dropKey_l_dra {t : zMod} {u : zCls} (ho : tOk (cg_dra u)) (hk10 : tg_keys (cg_dra u) ≤ 10) {k0 : Nat} : ∀ (k : Nat) (kk : Nat) (X : Nat → Nat) (Y : Nat → Nat) (hd : kk + k + 1 = tg_keys (cg_dra u)) (hk : k0 ≤ kk) (hX : ∀ i, X i = if k0 ≤ i ∧ i < kk then tg_door (cg_dra u) (i + 1) else tg_door (cg_dra u) i) (hY : ∀ i, Y i = if k0 ≤ i ∧ i < kk then tg_held (cg_dra u) (i + 1) else tg_held (cg_dra u) i), Rq mX2_dropKey 1 none 2 [.ref 24, .int (nI (k0)), .int (nI (kk))] [] (hA t (cg_let u, cg_lc u, cg_rt u, cg_rl u, cg_ra u, cg_rf u, cg_rn u, cg_rc u, cg_now u, (tg_kind (cg_dra u), tg_wakes (cg_dra u), tg_takes (cg_dra u), tg_due (cg_dra u), tg_cost (cg_dra u), tg_people (cg_dra u), X, Y, tg_keys (cg_dra u), tg_watch (cg_dra u), tg_pace (cg_dra u), tg_ring (cg_dra u)), cg_kep u, cg_im u, cg_mp u, cg_mw u, cg_mu u, cg_mn u, cg_mi u, cg_mc u, cg_md u, cg_mo u, cg_ms u, cg_mq u, cg_se u, cg_sc u, cg_re u)) (fun r h' => r = none ∧ h' = hA t (cg_let u, cg_lc u, cg_rt u, cg_rl u, cg_ra u, cg_rf u, cg_rn u, cg_rc u, cg_now u, (tDrop (cg_dra u) k0), cg_kep u, cg_im u, cg_mp u, cg_mw u, cg_mu u, cg_mn u, cg_mi u, cg_mc u, cg_md u, cg_mo u, cg_ms u, cg_mq u, cg_se u, cg_sc u, cg_re u)) := by
  intro k
  induction k with
  | zero =>
    intro kk X Y hd hk hX hY
    obtain ⟨hp7, hk12, hpc, hwt, hrg, hpp⟩ := id ho
    have e1 : X = zdp (tg_door (cg_dra u)) k0 (tg_keys (cg_dra u)) := by
      funext i
      rw [hX i]
      unfold zdp
      by_cases h9 : k0 ≤ i ∧ i < kk
      · rw [if_pos h9, if_pos (by omega)]
      · rw [if_neg h9, if_neg (by omega)]
    have e2 : Y = zdp (tg_held (cg_dra u)) k0 (tg_keys (cg_dra u)) := by
      funext i
      rw [hY i]
      unfold zdp
      by_cases h9 : k0 ≤ i ∧ i < kk
      · rw [if_pos h9, if_pos (by omega)]
      · rw [if_neg h9, if_neg (by omega)]
    subst e1
    subst e2
    refine r_iload_n eX2_dropKey_2 rfl rfl ?_
    refine n_iconst 1 eX2_dropKey_3 rfl ?_
    refine n_add eX2_dropKey_4 ?_
    refine r_aload_n eX2_dropKey_5 rfl rfl ?_
    refine r_getf (v := .int (nI (tg_keys (cg_dra u)))) eX2_dropKey_6 fX2_46 rfl rfl ?_
    refine n_icmp_ge eX2_dropKey_9 (by omega) (by omega) (fun hc9 => ?_) (fun hc9 => absurd hc9 (by omega))
    refine r_aload_n eX2_dropKey_46 rfl rfl ?_
    refine r_dup eX2_dropKey_47 rfl ?_
    refine r_getf (v := .int (nI (tg_keys (cg_dra u)))) eX2_dropKey_48 fX2_46 rfl rfl ?_
    refine n_iconst 1 eX2_dropKey_51 rfl ?_
    refine n_sub eX2_dropKey_52 (by omega) ?_
    refine cp_dra_keys (v := (tg_keys (cg_dra u)) - 1) eX2_dropKey_53 fX2_46 rfl ?_
    exact z_vret eX2_dropKey_56 ⟨rfl, rfl⟩
  | succ k ih =>
    intro kk X Y hd hk hX hY
    obtain ⟨hp7, hk12, hpc, hwt, hrg, hpp⟩ := id ho
    refine r_iload_n eX2_dropKey_2 rfl rfl ?_
    refine n_iconst 1 eX2_dropKey_3 rfl ?_
    refine n_add eX2_dropKey_4 ?_
    refine r_aload_n eX2_dropKey_5 rfl rfl ?_
    refine r_getf (v := .int (nI (tg_keys (cg_dra u)))) eX2_dropKey_6 fX2_46 rfl rfl ?_
    refine n_icmp_ge eX2_dropKey_9 (by omega) (by omega) (fun hc9 => absurd hc9 (by omega)) (fun hc9 => ?_)
    refine r_aload_n eX2_dropKey_12 rfl rfl ?_
    refine r_getf (v := .ref 30) eX2_dropKey_13 fX2_27 rfl rfl ?_
    refine r_iload_n eX2_dropKey_16 rfl rfl ?_
    refine r_aload_n eX2_dropKey_17 rfl rfl ?_
    refine r_getf (v := .ref 30) eX2_dropKey_18 fX2_27 rfl rfl ?_
    refine r_iload_n eX2_dropKey_21 rfl rfl ?_
    refine n_iconst 1 eX2_dropKey_22 rfl ?_
    refine n_add eX2_dropKey_23 ?_
    refine n_iald (f := X) (j := kk + 1) eX2_dropKey_24 rfl rfl (by omega) (by decide) ?_
    refine cw_dra_door (j := kk) (v := X (kk + 1)) eX2_dropKey_25 rfl rfl (by omega) ?_
    refine r_aload_n eX2_dropKey_26 rfl rfl ?_
    refine r_getf (v := .ref 31) eX2_dropKey_27 fX2_30 rfl rfl ?_
    refine r_iload_n eX2_dropKey_30 rfl rfl ?_
    refine r_aload_n eX2_dropKey_31 rfl rfl ?_
    refine r_getf (v := .ref 31) eX2_dropKey_32 fX2_30 rfl rfl ?_
    refine r_iload_n eX2_dropKey_35 rfl rfl ?_
    refine n_iconst 1 eX2_dropKey_36 rfl ?_
    refine n_add eX2_dropKey_37 ?_
    refine n_iald (f := Y) (j := kk + 1) eX2_dropKey_38 rfl rfl (by omega) (by decide) ?_
    refine cw_dra_held (j := kk) (v := Y (kk + 1)) eX2_dropKey_39 rfl rfl (by omega) ?_
    refine n_iinc (k := 1) eX2_dropKey_40 rfl (by decide) rfl ?_
    refine r_goto eX2_dropKey_43 ?_
    refine ih (kk + 1) _ _ (by omega) (by omega) (fun i => ?_) (fun i => ?_)
    · by_cases e : i = kk
      · rw [e, zu_s, hX (kk + 1), if_neg (by omega), if_pos (by omega)]
      · rw [zu_n e, hX i]
        by_cases h9 : k0 ≤ i ∧ i < kk
        · rw [if_pos h9, if_pos (by omega)]
        · rw [if_neg h9, if_neg (by omega)]
    · by_cases e : i = kk
      · rw [e, zu_s, hY (kk + 1), if_neg (by omega), if_pos (by omega)]
      · rw [zu_n e, hY i]
        by_cases h9 : k0 ≤ i ∧ i < kk
        · rw [if_pos h9, if_pos (by omega)]
        · rw [if_neg h9, if_neg (by omega)]
set_option maxHeartbeats 1000000 in
set_option maxRecDepth 100000 in
theorem s2_dropKey_dra {t : zMod} {u : zCls} (ho : tOk (cg_dra u)) (hk10 : tg_keys (cg_dra u) ≤ 10) {k0 : Nat} (hk0 : k0 < tg_keys (cg_dra u)) : Mv mX2_dropKey 1 [.ref 24, .int (nI (k0))] (hA t u) (fun h' => h' = hA t (cg_let u, cg_lc u, cg_rt u, cg_rl u, cg_ra u, cg_rf u, cg_rn u, cg_rc u, cg_now u, (tDrop (cg_dra u) k0), cg_kep u, cg_im u, cg_mp u, cg_mw u, cg_mu u, cg_mn u, cg_mi u, cg_mc u, cg_md u, cg_mo u, cg_ms u, cg_mq u, cg_se u, cg_sc u, cg_re u)) := by
  refine Mv.of (by decide) rfl rfl (Nat.le_of_ble_eq_true rfl) ?_
  refine r_iload_n eX2_dropKey_0 rfl rfl ?_
  refine r_istore_n eX2_dropKey_1 rfl (by decide) ?_
  refine z_h (h' := hA t (cg_let u, cg_lc u, cg_rt u, cg_rl u, cg_ra u, cg_rf u, cg_rn u, cg_rc u, cg_now u, (tg_kind (cg_dra u), tg_wakes (cg_dra u), tg_takes (cg_dra u), tg_due (cg_dra u), tg_cost (cg_dra u), tg_people (cg_dra u), tg_door (cg_dra u), tg_held (cg_dra u), tg_keys (cg_dra u), tg_watch (cg_dra u), tg_pace (cg_dra u), tg_ring (cg_dra u)), cg_kep u, cg_im u, cg_mp u, cg_mw u, cg_mu u, cg_mn u, cg_mi u, cg_mc u, cg_md u, cg_mo u, cg_ms u, cg_mq u, cg_se u, cg_sc u, cg_re u)) rfl ?_
  exact s2_dropKey_l_dra ho hk10 (tg_keys (cg_dra u) - k0 - 1) k0 _ _ (by omega) (Nat.le_refl _) (fun i => by rw [if_neg (by omega)]) (fun i => by rw [if_neg (by omega)])
def zit (pi : Nat → Nat) : Nat → Nat → Nat
  | 0, p => p
  | k + 1, p => zit pi k (pi p)
theorem zit_s (pi : Nat → Nat) : ∀ (k p : Nat), zit pi (k + 1) p = pi (zit pi k p)
  | 0, _ => rfl
  | k + 1, p => zit_s pi k (pi p)
theorem zit_lt {pi : Nat → Nat} {n : Nat} (h : ∀ q, q < n → pi q < n) : ∀ (k : Nat) {p : Nat}, p < n → zit pi k p < n
  | 0, _, hp => hp
  | k + 1, _, hp => zit_lt h k (h _ hp)
/-- as many steps as there are people -/
def zwk (pi : Nat → Nat) (p : Nat) : Nat → Nat × Nat
  | 0 => (0, p)
  | k + 1 => ((zwk pi p k).1 ||| 1 * 2 ^ (zwk pi p k).2, pi (zwk pi p k).2)
theorem zwk_2 (pi : Nat → Nat) (p : Nat) : ∀ k, (zwk pi p k).2 = zit pi k p
  | 0 => rfl
  | k + 1 => by rw [zwk, zit_s, zwk_2 pi p k]
theorem zwk_1 (pi : Nat → Nat) (p x : Nat) : ∀ k, (zwk pi p k).1.testBit x = true ↔ ∃ i, i < k ∧ zit pi i p = x
  | 0 => by
    rw [zwk, Nat.zero_testBit]
    constructor
    · intro z; cases z
    · rintro ⟨i, hi, _⟩; omega
  | k + 1 => by
    rw [zwk, zwk_2]
    show ((zwk pi p k).1 ||| 1 * 2 ^ zit pi k p).testBit x = true ↔ _
    rw [zor_bit, Bool.or_eq_true, zwk_1 pi p x k, decide_eq_true_eq]
    constructor
    · rintro (⟨i, hi, he⟩ | rfl)
      · exact ⟨i, by omega, he⟩
      · exact ⟨k, by omega, rfl⟩
    · rintro ⟨i, hi, he⟩
      by_cases e : i = k
      · subst e; exact Or.inr he.symm
      · exact Or.inl ⟨i, by omega, he⟩
theorem zwk_c {pi : Nat → Nat} {p k : Nat} (h : (zwk pi p k).1.testBit (zit pi k p) = true) : ∀ i, (zwk pi p k).1.testBit (zit pi i p) = true
  | 0 => by
    obtain ⟨j, hj, he⟩ := (zwk_1 pi p _ k).mp h
    exact (zwk_1 pi p _ k).mpr ⟨0, by omega, rfl⟩
  | i + 1 => by
    obtain ⟨j, hj, he⟩ := (zwk_1 pi p _ k).mp (zwk_c h i)
    rw [zit_s, ← he, ← zit_s pi]
    by_cases e : j + 1 = k
    · rw [e]; exact h
    · exact (zwk_1 pi p _ k).mpr ⟨j + 1, by omega, rfl⟩
theorem zleft_z : ∀ n, zleft 0 n = n
  | 0 => rfl
  | n + 1 => by
    rw [zleft, zleft_z n, Nat.zero_testBit]
    rfl
theorem zwk_n {pi : Nat → Nat} {n p : Nat} (h : ∀ q, q < n → pi q < n) (hp : p < n) : ∀ k, zleft (zwk pi p k).1 n + k = n ∨ (zwk pi p k).1.testBit (zit pi k p) = true
  | 0 => Or.inl (zleft_z n)
  | k + 1 => by
    by_cases hb : (zwk pi p k).1.testBit (zit pi k p) = true
    · right
      obtain ⟨j, hj, he⟩ := (zwk_1 pi p _ k).mp hb
      refine (zwk_1 pi p _ (k + 1)).mpr ⟨j + 1, by omega, ?_⟩
      rw [zit_s, he, ← zit_s pi]
    · rcases zwk_n h hp k with hl | hr
      · left
        have h1 := zleft_or (G := (zwk pi p k).1) (p := zit pi k p) (n := n) (Bool.not_eq_true _ ▸ hb)
        rw [if_pos (zit_lt h k hp)] at h1
        rw [zwk, zwk_2]
        show zleft ((zwk pi p k).1 ||| 1 * 2 ^ zit pi k p) n + (k + 1) = n
        omega
      · exact absurd hr hb
theorem zwk_all {pi : Nat → Nat} {n p : Nat} (h : ∀ q, q < n → pi q < n) (hp : p < n) (x : Nat) : (zwk pi p n).1.testBit x = true ↔ ∃ i, zit pi i p = x := by
  constructor
  · intro hx
    obtain ⟨i, _, he⟩ := (zwk_1 pi p x n).mp hx
    exact ⟨i, he⟩
  · rintro ⟨i, rfl⟩
    rcases zwk_n h hp n with hl | hr
    · exact zleft_0 (n := n) (by omega) _ (zit_lt h i hp)
    · exact zwk_c hr i
theorem zorb_all {pi : Nat → Nat} {n : Nat} (h : ∀ q, q < n → pi q < n) : ∀ {f a s : Nat}, a < n → zleft s n < f → (∀ q, s.testBit q = true → s.testBit (pi q) = true ∨ pi q = a) → ∀ x, (zorb pi f a s).testBit x = true ↔ (s.testBit x = true ∨ ∃ i, zit pi i a = x)
  | 0, a, s, _, hf, _, x => by omega
  | f + 1, a, s, ha, hf, hc, x => by
    rw [zorb]
    by_cases hb : s.testBit a = true
    · rw [if_pos hb]
      constructor
      · exact Or.inl
      · rintro (hx | ⟨i, rfl⟩)
        · exact hx
        · have hall : ∀ i, s.testBit (zit pi i a) = true := by
            intro i
            induction i with
            | zero => exact hb
            | succ i ih =>
              rw [zit_s]
              rcases hc _ ih with h1 | h1
              · exact h1
              · rw [h1]; exact hb
          exact hall i
    · rw [if_neg hb]
      have h1 := zleft_or (G := s) (p := a) (n := n) (Bool.not_eq_true _ ▸ hb)
      rw [if_pos ha] at h1
      rw [zorb_all h (h a ha) (by omega) (fun q hq => by
        rw [zor_bit, Bool.or_eq_true, decide_eq_true_eq] at hq
        rw [zor_bit, Bool.or_eq_true, decide_eq_true_eq]
        rcases hq with hq | rfl
        · rcases hc q hq with h2 | h2
          · exact Or.inl (Or.inl h2)
          · exact Or.inl (Or.inr h2)
        · exact Or.inr rfl) x]
      rw [zor_bit, Bool.or_eq_true, decide_eq_true_eq]
      constructor
      · rintro ((h2 | rfl) | ⟨i, h2⟩)
        · exact Or.inl h2
        · exact Or.inr ⟨0, rfl⟩
        · exact Or.inr ⟨i + 1, h2⟩
      · rintro (h2 | ⟨i, h2⟩)
        · exact Or.inl (Or.inl h2)
        · cases i with
          | zero => exact Or.inl (Or.inr h2.symm)
          | succ i => exact Or.inr ⟨i, h2⟩
/-- the class's count -/
def zrc (pi : Nat → Nat) (n : Nat) : Nat → Nat × Nat
  | 0 => (0, 0)
  | p + 1 => if (zrc pi n p).2.testBit p = true then zrc pi n p else ((zrc pi n p).1 + 1, (zrc pi n p).2 ||| (zwk pi p n).1)
theorem zrc_eq {pi : Nat → Nat} {n : Nat} (h : ∀ q, q < n → pi q < n) : ∀ {p : Nat}, p ≤ n → zrc pi n p = zrgs pi n p ∧ ∀ q, (zrc pi n p).2.testBit q = true → (zrc pi n p).2.testBit (pi q) = true
  | 0, _ => ⟨rfl, fun q hq => by rw [zrc, Nat.zero_testBit] at hq; cases hq⟩
  | p + 1, hp => by
    obtain ⟨ih1, ih2⟩ := zrc_eq h (p := p) (by omega)
    rw [zrc, zrgs, ← ih1]
    by_cases hb : (zrc pi n p).2.testBit p = true
    · rw [if_pos hb, if_pos hb]
      exact ⟨rfl, ih2⟩
    · rw [if_neg hb, if_neg hb]
      have ho : ∀ x, (zorb pi (n + 1) p (zrc pi n p).2).testBit x = true ↔ ((zrc pi n p).2 ||| (zwk pi p n).1).testBit x = true := fun x => by
        rw [zorb_all h (show p < n by omega) (by have := zleft_le (zrc pi n p).2 n; omega) (fun q hq => Or.inl (ih2 q hq)) x, Nat.testBit_or, Bool.or_eq_true, zwk_all h (show p < n by omega) x]
      refine ⟨Prod.ext rfl (Nat.eq_of_testBit_eq fun x => ?_), fun q hq => ?_⟩
      · exact (Bool.eq_iff_iff.mpr (ho x)).symm
      · dsimp only at hq ⊢
        rw [Nat.testBit_or, Bool.or_eq_true, zwk_all h (show p < n by omega)] at hq ⊢
        rcases hq with hq | ⟨i, hq⟩
        · exact Or.inl (ih2 q hq)
        · exact Or.inr ⟨i + 1, by rw [zit_s, hq]⟩
theorem zwk_lt {pi : Nat → Nat} {p : Nat} (h : ∀ q, q < 7 → pi q < 7) (hp : p < 7) : ∀ k, (zwk pi p k).1 < 128 ∧ (zwk pi p k).2 < 7
  | 0 => ⟨show 0 < 128 by decide, hp⟩
  | k + 1 => by
    have ih := zwk_lt h hp k
    exact ⟨zor_lt ih.1 ih.2, h _ ih.2⟩
theorem zrc_lt {pi : Nat → Nat} {n : Nat} (h : ∀ q, q < 7 → pi q < 7) : ∀ {p : Nat}, p ≤ 7 → (zrc pi n p).2 < 128 ∧ (zrc pi n p).1 ≤ p
  | 0, _ => ⟨show 0 < 128 by decide, Nat.le_refl _⟩
  | p + 1, hp => by
    have ih := zrc_lt (n := n) h (p := p) (by omega)
    rw [zrc]
    split
    · exact ⟨ih.1, by omega⟩
    · exact ⟨Nat.or_lt_two_pow (n := 7) ih.1 (zwk_lt h (by omega) n).1, by dsimp only; omega⟩
set_option maxHeartbeats 1000000 in
set_option maxRecDepth 100000 in
theorem s2_doorHeldBy_l_now {t : zMod} {u : zCls} (ho : tOk (cg_now u)) (hk10 : tg_keys (cg_now u) ≤ 10) (hty : tKeys (cg_now u)) {p : Nat} (hp : p < tg_people (cg_now u)) : ∀ (k : Nat) (kx : Nat) (hd : kx + k = tg_keys (cg_now u)) (hno : ∀ j, j < kx → decide (tg_held (cg_now u) j = p) = false), Rq mX2_doorHeldBy 1 none 2 [.ref 16, .int (nI (p)), .int (nI (kx))] [] (hA t u) (fun r h' => ∃ x, r = some x ∧ (x = nI ((zpi (tg_door (cg_now u)) (tg_held (cg_now u)) (tg_keys (cg_now u))) p) ∧ h' = hA t u)) := by
  intro k
  induction k with
  | zero =>
    intro kx hd hno
    obtain ⟨hp7, hk12, hpc, hwt, hrg, hpp⟩ := id ho
    refine r_iload_n eX2_doorHeldBy_2 rfl rfl ?_
    refine r_aload_n eX2_doorHeldBy_3 rfl rfl ?_
    refine r_getf (v := .int (nI (tg_keys (cg_now u)))) eX2_doorHeldBy_4 fX2_46 rfl rfl ?_
    refine n_icmp_ge eX2_doorHeldBy_7 (by omega) (by omega) (fun hc7 => ?_) (fun hc7 => absurd hc7 (by omega))
    refine r_iload_n eX2_doorHeldBy_33 rfl rfl ?_
    have q9 : (zpi (tg_door (cg_now u)) (tg_held (cg_now u)) (tg_keys (cg_now u))) p = p := by unfold zpi; rw [zfind_none (fun j hj => hno j (by omega))]
    rw [q9]
    exact z_iret eX2_doorHeldBy_34 rfl rfl ⟨_, rfl, rfl, rfl⟩
  | succ k ih =>
    intro kx hd hno
    obtain ⟨hp7, hk12, hpc, hwt, hrg, hpp⟩ := id ho
    have hty1 := hty kx (by omega)
    refine r_iload_n eX2_doorHeldBy_2 rfl rfl ?_
    refine r_aload_n eX2_doorHeldBy_3 rfl rfl ?_
    refine r_getf (v := .int (nI (tg_keys (cg_now u)))) eX2_doorHeldBy_4 fX2_46 rfl rfl ?_
    refine n_icmp_ge eX2_doorHeldBy_7 (by omega) (by omega) (fun hc7 => absurd hc7 (by omega)) (fun hc7 => ?_)
    refine r_aload_n eX2_doorHeldBy_10 rfl rfl ?_
    refine r_getf (v := .ref 23) eX2_doorHeldBy_11 fX2_30 rfl rfl ?_
    refine r_iload_n eX2_doorHeldBy_14 rfl rfl ?_
    refine n_iald (f := tg_held (cg_now u)) (j := kx) eX2_doorHeldBy_15 rfl rfl (by omega) (by decide) ?_
    refine r_iload_n eX2_doorHeldBy_16 rfl rfl ?_
    refine n_icmp_ne eX2_doorHeldBy_17 (by omega) (by omega) (fun hc17 => ?_) (fun hc17 => ?_)
    · refine n_iinc (k := 1) eX2_doorHeldBy_27 rfl (by decide) rfl ?_
      refine r_goto eX2_doorHeldBy_30 ?_
      refine ih (kx + 1) (by omega) (fun j hj => ?_)
      by_cases e : j = kx
      · rw [e]; exact decide_eq_false hc17
      · exact hno j (by omega)
    · refine r_aload_n eX2_doorHeldBy_20 rfl rfl ?_
      refine r_getf (v := .ref 22) eX2_doorHeldBy_21 fX2_27 rfl rfl ?_
      refine r_iload_n eX2_doorHeldBy_24 rfl rfl ?_
      refine n_iald (f := tg_door (cg_now u)) (j := kx) eX2_doorHeldBy_25 rfl rfl (by omega) (by decide) ?_
      have q9 : (zpi (tg_door (cg_now u)) (tg_held (cg_now u)) (tg_keys (cg_now u))) p = tg_door (cg_now u) kx := by unfold zpi; rw [zfind_some hno (decide_eq_true hc17) (by omega)]
      rw [q9]
      exact z_iret eX2_doorHeldBy_26 rfl rfl ⟨_, rfl, rfl, rfl⟩
set_option maxHeartbeats 1000000 in
set_option maxRecDepth 100000 in
theorem s2_doorHeldBy_now {t : zMod} {u : zCls} (ho : tOk (cg_now u)) (hk10 : tg_keys (cg_now u) ≤ 10) (hty : tKeys (cg_now u)) {p : Nat} (hp : p < tg_people (cg_now u)) : Mi mX2_doorHeldBy 1 [.ref 16, .int (nI (p))] (hA t u) (fun r h' => r = nI ((zpi (tg_door (cg_now u)) (tg_held (cg_now u)) (tg_keys (cg_now u))) p) ∧ h' = hA t u) := by
  refine Mi.of (by decide) rfl (Nat.le_of_ble_eq_true rfl) ?_
  refine n_iconst 0 eX2_doorHeldBy_0 rfl ?_
  refine r_istore_n eX2_doorHeldBy_1 rfl (by decide) ?_
  exact s2_doorHeldBy_l_now ho hk10 hty hp (tg_keys (cg_now u)) 0 (Nat.zero_add _) (fun j hj => by omega)
set_option maxHeartbeats 1000000 in
set_option maxRecDepth 100000 in
theorem s2_ringOf_l_now {t : zMod} {u : zCls} (ho : tOk (cg_now u)) (hk10 : tg_keys (cg_now u) ≤ 10) (hty : tKeys (cg_now u)) {p : Nat} (hp : p < tg_people (cg_now u)) : ∀ (k : Nat) (st : Nat) (hd : st + k = tg_people (cg_now u)), Rq mX2_ringOf 3 none 7 [.ref 16, .int (nI (p)), .int (nI ((zwk (zpi (tg_door (cg_now u)) (tg_held (cg_now u)) (tg_keys (cg_now u))) p st).1)), .int (nI ((zwk (zpi (tg_door (cg_now u)) (tg_held (cg_now u)) (tg_keys (cg_now u))) p st).2)), .int (nI (st))] [] (hA t u) (fun r h' => ∃ x, r = some x ∧ (x = nI (zwk (zpi (tg_door (cg_now u)) (tg_held (cg_now u)) (tg_keys (cg_now u))) p (tg_people (cg_now u))).1 ∧ h' = hA t u)) := by
  intro k
  induction k with
  | zero =>
    intro st hd
    obtain ⟨hp7, hk12, hpc, hwt, hrg, hpp⟩ := id ho
    refine r_iload eX2_ringOf_7 rfl ?_
    refine r_aload_n eX2_ringOf_9 rfl rfl ?_
    refine r_getf (v := .int (nI (tg_people (cg_now u)))) eX2_ringOf_10 fX2_43 rfl rfl ?_
    refine n_icmp_ge eX2_ringOf_13 (by omega) (by omega) (fun hc13 => ?_) (fun hc13 => absurd hc13 (by omega))
    refine r_iload_n eX2_ringOf_34 rfl rfl ?_
    have e9 : st = tg_people (cg_now u) := by omega
    subst e9
    exact z_iret eX2_ringOf_35 rfl rfl ⟨_, rfl, rfl, rfl⟩
  | succ k ih =>
    intro st hd
    obtain ⟨hp7, hk12, hpc, hwt, hrg, hpp⟩ := id ho
    have hpi : ∀ q, q < tg_people (cg_now u) → (zpi (tg_door (cg_now u)) (tg_held (cg_now u)) (tg_keys (cg_now u))) q < tg_people (cg_now u) := fun q hq => zpi_lt (fun k hk => (hty k hk).1) hq
    have hpi7 : ∀ q, q < 7 → (zpi (tg_door (cg_now u)) (tg_held (cg_now u)) (tg_keys (cg_now u))) q < 7 := fun q hq => zpi_7 (fun k hk => Nat.lt_of_lt_of_le (hty k hk).1 hp7) hq
    have hw7 := zwk_lt hpi7 (show p < 7 by omega) st
    have hwp : (zwk (zpi (tg_door (cg_now u)) (tg_held (cg_now u)) (tg_keys (cg_now u))) p st).2 < tg_people (cg_now u) := by rw [zwk_2]; exact zit_lt hpi st hp
    have hpw := Nat.pow_lt_pow_right (show 1 < 2 by omega) hw7.2
    refine r_iload eX2_ringOf_7 rfl ?_
    refine r_aload_n eX2_ringOf_9 rfl rfl ?_
    refine r_getf (v := .int (nI (tg_people (cg_now u)))) eX2_ringOf_10 fX2_43 rfl rfl ?_
    refine n_icmp_ge eX2_ringOf_13 (by omega) (by omega) (fun hc13 => absurd hc13 (by omega)) (fun hc13 => ?_)
    refine r_iload_n eX2_ringOf_16 rfl rfl ?_
    refine n_iconst 1 eX2_ringOf_17 rfl ?_
    refine r_iload_n eX2_ringOf_18 rfl rfl ?_
    refine n_shl eX2_ringOf_19 (by omega) (by omega) ?_
    refine n_or eX2_ringOf_20 ?_
    refine r_istore_n eX2_ringOf_21 rfl (by decide) ?_
    refine r_aload_n eX2_ringOf_22 rfl rfl ?_
    refine r_iload_n eX2_ringOf_23 rfl rfl ?_
    refine r_callVi1 eX2_ringOf_24 lX2_78 (Or.inl ⟨_, _, _, rfl, rfl, rfl⟩) (s2_doorHeldBy_now (t := t) (u := u) ho hk10 hty hwp) (by omega) (Nat.le_of_ble_eq_true rfl) (fun r1 h1 hq => ?_)
    obtain ⟨rfl, rfl⟩ := (show r1 = nI ((zpi (tg_door (cg_now u)) (tg_held (cg_now u)) (tg_keys (cg_now u))) (zwk (zpi (tg_door (cg_now u)) (tg_held (cg_now u)) (tg_keys (cg_now u))) p st).2) ∧ h1 = hA t u from hq)
    refine r_istore_n eX2_ringOf_27 rfl (by decide) ?_
    refine n_iinc (k := 1) eX2_ringOf_28 rfl (by decide) rfl ?_
    refine r_goto eX2_ringOf_31 ?_
    exact ih (st + 1) (by omega)
set_option maxHeartbeats 1000000 in
set_option maxRecDepth 100000 in
theorem s2_ringOf_now {t : zMod} {u : zCls} (ho : tOk (cg_now u)) (hk10 : tg_keys (cg_now u) ≤ 10) (hty : tKeys (cg_now u)) {p : Nat} (hp : p < tg_people (cg_now u)) : Mi mX2_ringOf 3 [.ref 16, .int (nI (p))] (hA t u) (fun r h' => r = nI (zwk (zpi (tg_door (cg_now u)) (tg_held (cg_now u)) (tg_keys (cg_now u))) p (tg_people (cg_now u))).1 ∧ h' = hA t u) := by
  refine Mi.of (by decide) rfl (Nat.le_of_ble_eq_true rfl) ?_
  refine n_iconst 0 eX2_ringOf_0 rfl ?_
  refine r_istore_n eX2_ringOf_1 rfl (by decide) ?_
  refine r_iload_n eX2_ringOf_2 rfl rfl ?_
  refine r_istore_n eX2_ringOf_3 rfl (by decide) ?_
  refine n_iconst 0 eX2_ringOf_4 rfl ?_
  refine r_istore eX2_ringOf_5 (by decide) ?_
  exact s2_ringOf_l_now ho hk10 hty hp (tg_people (cg_now u)) 0 (Nat.zero_add _)
set_option maxHeartbeats 1000000 in
set_option maxRecDepth 100000 in
theorem s2_ringCount_b_now {t : zMod} {u : zCls} (ho : tOk (cg_now u)) (hk10 : tg_keys (cg_now u) ≤ 10) (hty : tKeys (cg_now u)) (hful : tg_keys (cg_now u) = tg_people (cg_now u) ∧ zmask (tg_door (cg_now u)) (tg_keys (cg_now u)) = 2 ^ tg_people (cg_now u) - 1 ∧ zmask (tg_held (cg_now u)) (tg_keys (cg_now u)) = 2 ^ tg_people (cg_now u) - 1) {do_ ho_ : Nat} : ∀ (k : Nat) (p : Nat) (hd : p + k = tg_people (cg_now u)), Rq mX2_ringCount 6 none 80 [.ref 16, .int (nI (do_)), .int (nI (ho_)), .int (nI ((zrc (zpi (tg_door (cg_now u)) (tg_held (cg_now u)) (tg_keys (cg_now u))) (tg_people (cg_now u)) p).2)), .int (nI ((zrc (zpi (tg_door (cg_now u)) (tg_held (cg_now u)) (tg_keys (cg_now u))) (tg_people (cg_now u)) p).1)), .int (nI (p))] [] (hA t u) (fun r h' => ∃ x, r = some x ∧ (x = tRings (cg_now u) ∧ h' = hA t u)) := by
  intro k
  induction k with
  | zero =>
    intro p hd
    obtain ⟨hp7, hk12, hpc, hwt, hrg, hpp⟩ := id ho
    have hpi : ∀ q, q < tg_people (cg_now u) → (zpi (tg_door (cg_now u)) (tg_held (cg_now u)) (tg_keys (cg_now u))) q < tg_people (cg_now u) := fun q hq => zpi_lt (fun k hk => (hty k hk).1) hq
    have hpi7 : ∀ q, q < 7 → (zpi (tg_door (cg_now u)) (tg_held (cg_now u)) (tg_keys (cg_now u))) q < 7 := fun q hq => zpi_7 (fun k hk => Nat.lt_of_lt_of_le (hty k hk).1 hp7) hq
    refine r_iload eX2_ringCount_80 rfl ?_
    refine r_aload_n eX2_ringCount_82 rfl rfl ?_
    refine r_getf (v := .int (nI (tg_people (cg_now u)))) eX2_ringCount_83 fX2_43 rfl rfl ?_
    refine n_icmp_ge eX2_ringCount_86 (by omega) (by omega) (fun hc86 => ?_) (fun hc86 => absurd hc86 (by omega))
    refine r_iload eX2_ringCount_116 rfl ?_
    have e9 : p = tg_people (cg_now u) := by omega
    subst e9
    have q9 : tRings (cg_now u) = nI (zrc (zpi (tg_door (cg_now u)) (tg_held (cg_now u)) (tg_keys (cg_now u))) (tg_people (cg_now u)) (tg_people (cg_now u))).1 := by rw [(zrc_eq hpi (Nat.le_refl _)).1]; exact if_pos hful
    rw [q9]
    exact z_iret eX2_ringCount_118 rfl rfl ⟨_, rfl, rfl, rfl⟩
  | succ k ih =>
    intro p hd
    obtain ⟨hp7, hk12, hpc, hwt, hrg, hpp⟩ := id ho
    have hpi : ∀ q, q < tg_people (cg_now u) → (zpi (tg_door (cg_now u)) (tg_held (cg_now u)) (tg_keys (cg_now u))) q < tg_people (cg_now u) := fun q hq => zpi_lt (fun k hk => (hty k hk).1) hq
    have hpi7 : ∀ q, q < 7 → (zpi (tg_door (cg_now u)) (tg_held (cg_now u)) (tg_keys (cg_now u))) q < 7 := fun q hq => zpi_7 (fun k hk => Nat.lt_of_lt_of_le (hty k hk).1 hp7) hq
    have hr7 := zrc_lt (n := tg_people (cg_now u)) hpi7 (show p ≤ 7 by omega)
    have hw7 := zwk_lt hpi7 (show p < 7 by omega) (tg_people (cg_now u))
    have hb2 := zb2 (zrc (zpi (tg_door (cg_now u)) (tg_held (cg_now u)) (tg_keys (cg_now u))) (tg_people (cg_now u)) p).2 p
    refine r_iload eX2_ringCount_80 rfl ?_
    refine r_aload_n eX2_ringCount_82 rfl rfl ?_
    refine r_getf (v := .int (nI (tg_people (cg_now u)))) eX2_ringCount_83 fX2_43 rfl rfl ?_
    refine n_icmp_ge eX2_ringCount_86 (by omega) (by omega) (fun hc86 => absurd hc86 (by omega)) (fun hc86 => ?_)
    refine r_iload_n eX2_ringCount_89 rfl rfl ?_
    refine r_iload eX2_ringCount_90 rfl ?_
    refine n_shr eX2_ringCount_92 (by omega) (by omega) ?_
    refine n_iconst 1 eX2_ringCount_93 rfl ?_
    refine n_and eX2_ringCount_94 ?_
    refine n_if_ne eX2_ringCount_95 (by omega) (fun hc95 => ?_) (fun hc95 => ?_)
    · refine n_iinc (k := 1) eX2_ringCount_110 rfl (by decide) rfl ?_
      refine r_goto eX2_ringCount_113 ?_
      have hbt := zb1' hc95
      have q9 : (zrc (zpi (tg_door (cg_now u)) (tg_held (cg_now u)) (tg_keys (cg_now u))) (tg_people (cg_now u)) (p + 1)) = (zrc (zpi (tg_door (cg_now u)) (tg_held (cg_now u)) (tg_keys (cg_now u))) (tg_people (cg_now u)) p) := by rw [zrc, if_pos hbt]
      have ih9 := ih (p + 1) (by omega)
      rw [q9] at ih9
      exact ih9
    · refine n_iinc (k := 1) eX2_ringCount_98 rfl (by decide) rfl ?_
      refine r_iload_n eX2_ringCount_101 rfl rfl ?_
      refine r_aload_n eX2_ringCount_102 rfl rfl ?_
      refine r_iload eX2_ringCount_103 rfl ?_
      refine r_callVi1 eX2_ringCount_105 lX2_75 (Or.inl ⟨_, _, _, rfl, rfl, rfl⟩) (s2_ringOf_now (t := t) (u := u) ho hk10 hty (show p < tg_people (cg_now u) by omega)) (by omega) (Nat.le_of_ble_eq_true rfl) (fun r1 h1 hq => ?_)
      obtain ⟨rfl, rfl⟩ := (show r1 = nI ((zwk (zpi (tg_door (cg_now u)) (tg_held (cg_now u)) (tg_keys (cg_now u))) p (tg_people (cg_now u))).1) ∧ h1 = hA t u from hq)
      refine n_or eX2_ringCount_108 ?_
      refine r_istore_n eX2_ringCount_109 rfl (by decide) ?_
      refine n_iinc (k := 1) eX2_ringCount_110 rfl (by decide) rfl ?_
      refine r_goto eX2_ringCount_113 ?_
      have hbt := zb0' hc95
      have q9 : (zrc (zpi (tg_door (cg_now u)) (tg_held (cg_now u)) (tg_keys (cg_now u))) (tg_people (cg_now u)) (p + 1)) = ((zrc (zpi (tg_door (cg_now u)) (tg_held (cg_now u)) (tg_keys (cg_now u))) (tg_people (cg_now u)) p).1 + 1, (zrc (zpi (tg_door (cg_now u)) (tg_held (cg_now u)) (tg_keys (cg_now u))) (tg_people (cg_now u)) p).2 ||| (zwk (zpi (tg_door (cg_now u)) (tg_held (cg_now u)) (tg_keys (cg_now u))) p (tg_people (cg_now u))).1) := by rw [zrc, if_neg (by rw [hbt]; decide)]
      have ih9 := ih (p + 1) (by omega)
      rw [q9] at ih9
      exact ih9
set_option maxHeartbeats 1000000 in
set_option maxRecDepth 100000 in
theorem s2_ringCount_a_now {t : zMod} {u : zCls} (ho : tOk (cg_now u)) (hk10 : tg_keys (cg_now u) ≤ 10) (hty : tKeys (cg_now u)) : ∀ (k : Nat) (kx : Nat) (v4 : Value) (v5 : Value) (hd : kx + k = tg_keys (cg_now u)), Rq mX2_ringCount 6 none 6 [.ref 16, .int (nI ((zmask (tg_door (cg_now u)) kx))), .int (nI ((zmask (tg_held (cg_now u)) kx))), .int (nI (kx)), v4, v5] [] (hA t u) (fun r h' => ∃ x, r = some x ∧ (x = tRings (cg_now u) ∧ h' = hA t u)) := by
  intro k
  induction k with
  | zero =>
    intro kx v4 v5 hd
    obtain ⟨hp7, hk12, hpc, hwt, hrg, hpp⟩ := id ho
    have hmd : (zmask (tg_door (cg_now u)) kx) < 2 ^ tg_people (cg_now u) := zmask_lt (fun k hk => (hty k (by omega)).1)
    have hmh : (zmask (tg_held (cg_now u)) kx) < 2 ^ tg_people (cg_now u) := zmask_lt (fun k hk => (hty k (by omega)).2)
    have hpw : 2 ^ tg_people (cg_now u) ≤ 2 ^ 7 := Nat.pow_le_pow_right (by omega) hp7
    have e9 : kx = tg_keys (cg_now u) := by omega
    subst e9
    refine r_iload_n eX2_ringCount_6 rfl rfl ?_
    refine r_aload_n eX2_ringCount_7 rfl rfl ?_
    refine r_getf (v := .int (nI (tg_keys (cg_now u)))) eX2_ringCount_8 fX2_46 rfl rfl ?_
    refine n_icmp_ge eX2_ringCount_11 (by omega) (by omega) (fun hc11 => ?_) (fun hc11 => absurd hc11 (by omega))
    refine r_aload_n eX2_ringCount_42 rfl rfl ?_
    refine r_getf (v := .int (nI (tg_keys (cg_now u)))) eX2_ringCount_43 fX2_46 rfl rfl ?_
    refine r_aload_n eX2_ringCount_46 rfl rfl ?_
    refine r_getf (v := .int (nI (tg_people (cg_now u)))) eX2_ringCount_47 fX2_43 rfl rfl ?_
    refine n_icmp_ne eX2_ringCount_50 (by omega) (by omega) (fun hc50 => ?_) (fun hc50 => ?_)
    · refine r_bipush (v := (-9)) eX2_ringCount_69 rfl ?_
      have q9 : tRings (cg_now u) = -9 := if_neg (fun z => hc50 z.1)
      rw [q9]
      exact z_iret eX2_ringCount_71 rfl rfl ⟨_, rfl, rfl, rfl⟩
    · refine r_iload_n eX2_ringCount_53 rfl rfl ?_
      refine r_aload_n eX2_ringCount_54 rfl rfl ?_
      refine r_callVi0 eX2_ringCount_55 lX2_71 (Or.inl ⟨_, _, _, rfl, rfl, rfl⟩) (s2_everyone_now (t := t) (u := u) ho) (by omega) (Nat.le_of_ble_eq_true rfl) (fun r1 h1 hq => ?_)
      obtain ⟨rfl, rfl⟩ := (show r1 = nI (2 ^ tg_people (cg_now u) - 1) ∧ h1 = hA t u from hq)
      refine n_icmp_ne eX2_ringCount_58 (by omega) (by omega) (fun hc58 => ?_) (fun hc58 => ?_)
      · refine r_bipush (v := (-9)) eX2_ringCount_69 rfl ?_
        have q9 : tRings (cg_now u) = -9 := if_neg (fun z => hc58 z.2.1)
        rw [q9]
        exact z_iret eX2_ringCount_71 rfl rfl ⟨_, rfl, rfl, rfl⟩
      · refine r_iload_n eX2_ringCount_61 rfl rfl ?_
        refine r_aload_n eX2_ringCount_62 rfl rfl ?_
        refine r_callVi0 eX2_ringCount_63 lX2_71 (Or.inl ⟨_, _, _, rfl, rfl, rfl⟩) (s2_everyone_now (t := t) (u := u) ho) (by omega) (Nat.le_of_ble_eq_true rfl) (fun r1 h1 hq => ?_)
        obtain ⟨rfl, rfl⟩ := (show r1 = nI (2 ^ tg_people (cg_now u) - 1) ∧ h1 = hA t u from hq)
        refine n_icmp_eq eX2_ringCount_66 (by omega) (by omega) (fun hc66 => ?_) (fun hc66 => ?_)
        · refine n_iconst 0 eX2_ringCount_72 rfl ?_
          refine r_istore_n eX2_ringCount_73 rfl (by decide) ?_
          refine n_iconst 0 eX2_ringCount_74 rfl ?_
          refine r_istore eX2_ringCount_75 (by decide) ?_
          refine n_iconst 0 eX2_ringCount_77 rfl ?_
          refine r_istore eX2_ringCount_78 (by decide) ?_
          exact s2_ringCount_b_now ho hk10 hty ⟨hc50, hc58, hc66⟩ (tg_people (cg_now u)) 0 (Nat.zero_add _)
        · refine r_bipush (v := (-9)) eX2_ringCount_69 rfl ?_
          have q9 : tRings (cg_now u) = -9 := if_neg (fun z => hc66 z.2.2)
          rw [q9]
          exact z_iret eX2_ringCount_71 rfl rfl ⟨_, rfl, rfl, rfl⟩
  | succ k ih =>
    intro kx v4 v5 hd
    obtain ⟨hp7, hk12, hpc, hwt, hrg, hpp⟩ := id ho
    have hmd : (zmask (tg_door (cg_now u)) kx) < 2 ^ tg_people (cg_now u) := zmask_lt (fun k hk => (hty k (by omega)).1)
    have hmh : (zmask (tg_held (cg_now u)) kx) < 2 ^ tg_people (cg_now u) := zmask_lt (fun k hk => (hty k (by omega)).2)
    have hpw : 2 ^ tg_people (cg_now u) ≤ 2 ^ 7 := Nat.pow_le_pow_right (by omega) hp7
    have hty1 := hty kx (by omega)
    have hp1 := Nat.pow_le_pow_right (show 0 < 2 by omega) (Nat.le_of_lt hty1.1)
    have hp2 := Nat.pow_le_pow_right (show 0 < 2 by omega) (Nat.le_of_lt hty1.2)
    refine r_iload_n eX2_ringCount_6 rfl rfl ?_
    refine r_aload_n eX2_ringCount_7 rfl rfl ?_
    refine r_getf (v := .int (nI (tg_keys (cg_now u)))) eX2_ringCount_8 fX2_46 rfl rfl ?_
    refine n_icmp_ge eX2_ringCount_11 (by omega) (by omega) (fun hc11 => absurd hc11 (by omega)) (fun hc11 => ?_)
    refine r_iload_n eX2_ringCount_14 rfl rfl ?_
    refine n_iconst 1 eX2_ringCount_15 rfl ?_
    refine r_aload_n eX2_ringCount_16 rfl rfl ?_
    refine r_getf (v := .ref 22) eX2_ringCount_17 fX2_27 rfl rfl ?_
    refine r_iload_n eX2_ringCount_20 rfl rfl ?_
    refine n_iald (f := tg_door (cg_now u)) (j := kx) eX2_ringCount_21 rfl rfl (by omega) (by decide) ?_
    refine n_shl eX2_ringCount_22 (by omega) (by omega) ?_
    refine n_or eX2_ringCount_23 ?_
    refine r_istore_n eX2_ringCount_24 rfl (by decide) ?_
    refine r_iload_n eX2_ringCount_25 rfl rfl ?_
    refine n_iconst 1 eX2_ringCount_26 rfl ?_
    refine r_aload_n eX2_ringCount_27 rfl rfl ?_
    refine r_getf (v := .ref 23) eX2_ringCount_28 fX2_30 rfl rfl ?_
    refine r_iload_n eX2_ringCount_31 rfl rfl ?_
    refine n_iald (f := tg_held (cg_now u)) (j := kx) eX2_ringCount_32 rfl rfl (by omega) (by decide) ?_
    refine n_shl eX2_ringCount_33 (by omega) (by omega) ?_
    refine n_or eX2_ringCount_34 ?_
    refine r_istore_n eX2_ringCount_35 rfl (by decide) ?_
    refine n_iinc (k := 1) eX2_ringCount_36 rfl (by decide) rfl ?_
    refine r_goto eX2_ringCount_39 ?_
    exact ih (kx + 1) v4 v5 (by omega)
set_option maxHeartbeats 1000000 in
set_option maxRecDepth 100000 in
theorem s2_ringCount_now {t : zMod} {u : zCls} (ho : tOk (cg_now u)) (hk10 : tg_keys (cg_now u) ≤ 10) (hty : tKeys (cg_now u)) : Mi mX2_ringCount 6 [.ref 16] (hA t u) (fun r h' => r = tRings (cg_now u) ∧ h' = hA t u) := by
  refine Mi.of (by decide) rfl (Nat.le_of_ble_eq_true rfl) ?_
  refine n_iconst 0 eX2_ringCount_0 rfl ?_
  refine r_istore_n eX2_ringCount_1 rfl (by decide) ?_
  refine n_iconst 0 eX2_ringCount_2 rfl ?_
  refine r_istore_n eX2_ringCount_3 rfl (by decide) ?_
  refine n_iconst 0 eX2_ringCount_4 rfl ?_
  refine r_istore_n eX2_ringCount_5 rfl (by decide) ?_
  exact s2_ringCount_a_now ho hk10 hty (tg_keys (cg_now u)) 0 (.retAddr 0) (.retAddr 0) (Nat.zero_add _)
set_option maxHeartbeats 1000000 in
set_option maxRecDepth 100000 in
theorem s2_doorHeldBy_l_dra {t : zMod} {u : zCls} (ho : tOk (cg_dra u)) (hk10 : tg_keys (cg_dra u) ≤ 10) (hty : tKeys (cg_dra u)) {p : Nat} (hp : p < tg_people (cg_dra u)) : ∀ (k : Nat) (kx : Nat) (hd : kx + k = tg_keys (cg_dra u)) (hno : ∀ j, j < kx → decide (tg_held (cg_dra u) j = p) = false), Rq mX2_doorHeldBy 1 none 2 [.ref 24, .int (nI (p)), .int (nI (kx))] [] (hA t u) (fun r h' => ∃ x, r = some x ∧ (x = nI ((zpi (tg_door (cg_dra u)) (tg_held (cg_dra u)) (tg_keys (cg_dra u))) p) ∧ h' = hA t u)) := by
  intro k
  induction k with
  | zero =>
    intro kx hd hno
    obtain ⟨hp7, hk12, hpc, hwt, hrg, hpp⟩ := id ho
    refine r_iload_n eX2_doorHeldBy_2 rfl rfl ?_
    refine r_aload_n eX2_doorHeldBy_3 rfl rfl ?_
    refine r_getf (v := .int (nI (tg_keys (cg_dra u)))) eX2_doorHeldBy_4 fX2_46 rfl rfl ?_
    refine n_icmp_ge eX2_doorHeldBy_7 (by omega) (by omega) (fun hc7 => ?_) (fun hc7 => absurd hc7 (by omega))
    refine r_iload_n eX2_doorHeldBy_33 rfl rfl ?_
    have q9 : (zpi (tg_door (cg_dra u)) (tg_held (cg_dra u)) (tg_keys (cg_dra u))) p = p := by unfold zpi; rw [zfind_none (fun j hj => hno j (by omega))]
    rw [q9]
    exact z_iret eX2_doorHeldBy_34 rfl rfl ⟨_, rfl, rfl, rfl⟩
  | succ k ih =>
    intro kx hd hno
    obtain ⟨hp7, hk12, hpc, hwt, hrg, hpp⟩ := id ho
    have hty1 := hty kx (by omega)
    refine r_iload_n eX2_doorHeldBy_2 rfl rfl ?_
    refine r_aload_n eX2_doorHeldBy_3 rfl rfl ?_
    refine r_getf (v := .int (nI (tg_keys (cg_dra u)))) eX2_doorHeldBy_4 fX2_46 rfl rfl ?_
    refine n_icmp_ge eX2_doorHeldBy_7 (by omega) (by omega) (fun hc7 => absurd hc7 (by omega)) (fun hc7 => ?_)
    refine r_aload_n eX2_doorHeldBy_10 rfl rfl ?_
    refine r_getf (v := .ref 31) eX2_doorHeldBy_11 fX2_30 rfl rfl ?_
    refine r_iload_n eX2_doorHeldBy_14 rfl rfl ?_
    refine n_iald (f := tg_held (cg_dra u)) (j := kx) eX2_doorHeldBy_15 rfl rfl (by omega) (by decide) ?_
    refine r_iload_n eX2_doorHeldBy_16 rfl rfl ?_
    refine n_icmp_ne eX2_doorHeldBy_17 (by omega) (by omega) (fun hc17 => ?_) (fun hc17 => ?_)
    · refine n_iinc (k := 1) eX2_doorHeldBy_27 rfl (by decide) rfl ?_
      refine r_goto eX2_doorHeldBy_30 ?_
      refine ih (kx + 1) (by omega) (fun j hj => ?_)
      by_cases e : j = kx
      · rw [e]; exact decide_eq_false hc17
      · exact hno j (by omega)
    · refine r_aload_n eX2_doorHeldBy_20 rfl rfl ?_
      refine r_getf (v := .ref 30) eX2_doorHeldBy_21 fX2_27 rfl rfl ?_
      refine r_iload_n eX2_doorHeldBy_24 rfl rfl ?_
      refine n_iald (f := tg_door (cg_dra u)) (j := kx) eX2_doorHeldBy_25 rfl rfl (by omega) (by decide) ?_
      have q9 : (zpi (tg_door (cg_dra u)) (tg_held (cg_dra u)) (tg_keys (cg_dra u))) p = tg_door (cg_dra u) kx := by unfold zpi; rw [zfind_some hno (decide_eq_true hc17) (by omega)]
      rw [q9]
      exact z_iret eX2_doorHeldBy_26 rfl rfl ⟨_, rfl, rfl, rfl⟩
set_option maxHeartbeats 1000000 in
set_option maxRecDepth 100000 in
theorem s2_doorHeldBy_dra {t : zMod} {u : zCls} (ho : tOk (cg_dra u)) (hk10 : tg_keys (cg_dra u) ≤ 10) (hty : tKeys (cg_dra u)) {p : Nat} (hp : p < tg_people (cg_dra u)) : Mi mX2_doorHeldBy 1 [.ref 24, .int (nI (p))] (hA t u) (fun r h' => r = nI ((zpi (tg_door (cg_dra u)) (tg_held (cg_dra u)) (tg_keys (cg_dra u))) p) ∧ h' = hA t u) := by
  refine Mi.of (by decide) rfl (Nat.le_of_ble_eq_true rfl) ?_
  refine n_iconst 0 eX2_doorHeldBy_0 rfl ?_
  refine r_istore_n eX2_doorHeldBy_1 rfl (by decide) ?_
  exact s2_doorHeldBy_l_dra ho hk10 hty hp (tg_keys (cg_dra u)) 0 (Nat.zero_add _) (fun j hj => by omega)
set_option maxHeartbeats 1000000 in
set_option maxRecDepth 100000 in
theorem s2_ringOf_l_dra {t : zMod} {u : zCls} (ho : tOk (cg_dra u)) (hk10 : tg_keys (cg_dra u) ≤ 10) (hty : tKeys (cg_dra u)) {p : Nat} (hp : p < tg_people (cg_dra u)) : ∀ (k : Nat) (st : Nat) (hd : st + k = tg_people (cg_dra u)), Rq mX2_ringOf 3 none 7 [.ref 24, .int (nI (p)), .int (nI ((zwk (zpi (tg_door (cg_dra u)) (tg_held (cg_dra u)) (tg_keys (cg_dra u))) p st).1)), .int (nI ((zwk (zpi (tg_door (cg_dra u)) (tg_held (cg_dra u)) (tg_keys (cg_dra u))) p st).2)), .int (nI (st))] [] (hA t u) (fun r h' => ∃ x, r = some x ∧ (x = nI (zwk (zpi (tg_door (cg_dra u)) (tg_held (cg_dra u)) (tg_keys (cg_dra u))) p (tg_people (cg_dra u))).1 ∧ h' = hA t u)) := by
  intro k
  induction k with
  | zero =>
    intro st hd
    obtain ⟨hp7, hk12, hpc, hwt, hrg, hpp⟩ := id ho
    refine r_iload eX2_ringOf_7 rfl ?_
    refine r_aload_n eX2_ringOf_9 rfl rfl ?_
    refine r_getf (v := .int (nI (tg_people (cg_dra u)))) eX2_ringOf_10 fX2_43 rfl rfl ?_
    refine n_icmp_ge eX2_ringOf_13 (by omega) (by omega) (fun hc13 => ?_) (fun hc13 => absurd hc13 (by omega))
    refine r_iload_n eX2_ringOf_34 rfl rfl ?_
    have e9 : st = tg_people (cg_dra u) := by omega
    subst e9
    exact z_iret eX2_ringOf_35 rfl rfl ⟨_, rfl, rfl, rfl⟩
  | succ k ih =>
    intro st hd
    obtain ⟨hp7, hk12, hpc, hwt, hrg, hpp⟩ := id ho
    have hpi : ∀ q, q < tg_people (cg_dra u) → (zpi (tg_door (cg_dra u)) (tg_held (cg_dra u)) (tg_keys (cg_dra u))) q < tg_people (cg_dra u) := fun q hq => zpi_lt (fun k hk => (hty k hk).1) hq
    have hpi7 : ∀ q, q < 7 → (zpi (tg_door (cg_dra u)) (tg_held (cg_dra u)) (tg_keys (cg_dra u))) q < 7 := fun q hq => zpi_7 (fun k hk => Nat.lt_of_lt_of_le (hty k hk).1 hp7) hq
    have hw7 := zwk_lt hpi7 (show p < 7 by omega) st
    have hwp : (zwk (zpi (tg_door (cg_dra u)) (tg_held (cg_dra u)) (tg_keys (cg_dra u))) p st).2 < tg_people (cg_dra u) := by rw [zwk_2]; exact zit_lt hpi st hp
    have hpw := Nat.pow_lt_pow_right (show 1 < 2 by omega) hw7.2
    refine r_iload eX2_ringOf_7 rfl ?_
    refine r_aload_n eX2_ringOf_9 rfl rfl ?_
    refine r_getf (v := .int (nI (tg_people (cg_dra u)))) eX2_ringOf_10 fX2_43 rfl rfl ?_
    refine n_icmp_ge eX2_ringOf_13 (by omega) (by omega) (fun hc13 => absurd hc13 (by omega)) (fun hc13 => ?_)
    refine r_iload_n eX2_ringOf_16 rfl rfl ?_
    refine n_iconst 1 eX2_ringOf_17 rfl ?_
    refine r_iload_n eX2_ringOf_18 rfl rfl ?_
    refine n_shl eX2_ringOf_19 (by omega) (by omega) ?_
    refine n_or eX2_ringOf_20 ?_
    refine r_istore_n eX2_ringOf_21 rfl (by decide) ?_
    refine r_aload_n eX2_ringOf_22 rfl rfl ?_
    refine r_iload_n eX2_ringOf_23 rfl rfl ?_
    refine r_callVi1 eX2_ringOf_24 lX2_78 (Or.inl ⟨_, _, _, rfl, rfl, rfl⟩) (s2_doorHeldBy_dra (t := t) (u := u) ho hk10 hty hwp) (by omega) (Nat.le_of_ble_eq_true rfl) (fun r1 h1 hq => ?_)
    obtain ⟨rfl, rfl⟩ := (show r1 = nI ((zpi (tg_door (cg_dra u)) (tg_held (cg_dra u)) (tg_keys (cg_dra u))) (zwk (zpi (tg_door (cg_dra u)) (tg_held (cg_dra u)) (tg_keys (cg_dra u))) p st).2) ∧ h1 = hA t u from hq)
    refine r_istore_n eX2_ringOf_27 rfl (by decide) ?_
    refine n_iinc (k := 1) eX2_ringOf_28 rfl (by decide) rfl ?_
    refine r_goto eX2_ringOf_31 ?_
    exact ih (st + 1) (by omega)
set_option maxHeartbeats 1000000 in
set_option maxRecDepth 100000 in
theorem s2_ringOf_dra {t : zMod} {u : zCls} (ho : tOk (cg_dra u)) (hk10 : tg_keys (cg_dra u) ≤ 10) (hty : tKeys (cg_dra u)) {p : Nat} (hp : p < tg_people (cg_dra u)) : Mi mX2_ringOf 3 [.ref 24, .int (nI (p))] (hA t u) (fun r h' => r = nI (zwk (zpi (tg_door (cg_dra u)) (tg_held (cg_dra u)) (tg_keys (cg_dra u))) p (tg_people (cg_dra u))).1 ∧ h' = hA t u) := by
  refine Mi.of (by decide) rfl (Nat.le_of_ble_eq_true rfl) ?_
  refine n_iconst 0 eX2_ringOf_0 rfl ?_
  refine r_istore_n eX2_ringOf_1 rfl (by decide) ?_
  refine r_iload_n eX2_ringOf_2 rfl rfl ?_
  refine r_istore_n eX2_ringOf_3 rfl (by decide) ?_
  refine n_iconst 0 eX2_ringOf_4 rfl ?_
  refine r_istore eX2_ringOf_5 (by decide) ?_
  exact s2_ringOf_l_dra ho hk10 hty hp (tg_people (cg_dra u)) 0 (Nat.zero_add _)
set_option maxHeartbeats 1000000 in
set_option maxRecDepth 100000 in
theorem s2_ringCount_b_dra {t : zMod} {u : zCls} (ho : tOk (cg_dra u)) (hk10 : tg_keys (cg_dra u) ≤ 10) (hty : tKeys (cg_dra u)) (hful : tg_keys (cg_dra u) = tg_people (cg_dra u) ∧ zmask (tg_door (cg_dra u)) (tg_keys (cg_dra u)) = 2 ^ tg_people (cg_dra u) - 1 ∧ zmask (tg_held (cg_dra u)) (tg_keys (cg_dra u)) = 2 ^ tg_people (cg_dra u) - 1) {do_ ho_ : Nat} : ∀ (k : Nat) (p : Nat) (hd : p + k = tg_people (cg_dra u)), Rq mX2_ringCount 6 none 80 [.ref 24, .int (nI (do_)), .int (nI (ho_)), .int (nI ((zrc (zpi (tg_door (cg_dra u)) (tg_held (cg_dra u)) (tg_keys (cg_dra u))) (tg_people (cg_dra u)) p).2)), .int (nI ((zrc (zpi (tg_door (cg_dra u)) (tg_held (cg_dra u)) (tg_keys (cg_dra u))) (tg_people (cg_dra u)) p).1)), .int (nI (p))] [] (hA t u) (fun r h' => ∃ x, r = some x ∧ (x = tRings (cg_dra u) ∧ h' = hA t u)) := by
  intro k
  induction k with
  | zero =>
    intro p hd
    obtain ⟨hp7, hk12, hpc, hwt, hrg, hpp⟩ := id ho
    have hpi : ∀ q, q < tg_people (cg_dra u) → (zpi (tg_door (cg_dra u)) (tg_held (cg_dra u)) (tg_keys (cg_dra u))) q < tg_people (cg_dra u) := fun q hq => zpi_lt (fun k hk => (hty k hk).1) hq
    have hpi7 : ∀ q, q < 7 → (zpi (tg_door (cg_dra u)) (tg_held (cg_dra u)) (tg_keys (cg_dra u))) q < 7 := fun q hq => zpi_7 (fun k hk => Nat.lt_of_lt_of_le (hty k hk).1 hp7) hq
    refine r_iload eX2_ringCount_80 rfl ?_
    refine r_aload_n eX2_ringCount_82 rfl rfl ?_
    refine r_getf (v := .int (nI (tg_people (cg_dra u)))) eX2_ringCount_83 fX2_43 rfl rfl ?_
    refine n_icmp_ge eX2_ringCount_86 (by omega) (by omega) (fun hc86 => ?_) (fun hc86 => absurd hc86 (by omega))
    refine r_iload eX2_ringCount_116 rfl ?_
    have e9 : p = tg_people (cg_dra u) := by omega
    subst e9
    have q9 : tRings (cg_dra u) = nI (zrc (zpi (tg_door (cg_dra u)) (tg_held (cg_dra u)) (tg_keys (cg_dra u))) (tg_people (cg_dra u)) (tg_people (cg_dra u))).1 := by rw [(zrc_eq hpi (Nat.le_refl _)).1]; exact if_pos hful
    rw [q9]
    exact z_iret eX2_ringCount_118 rfl rfl ⟨_, rfl, rfl, rfl⟩
  | succ k ih =>
    intro p hd
    obtain ⟨hp7, hk12, hpc, hwt, hrg, hpp⟩ := id ho
    have hpi : ∀ q, q < tg_people (cg_dra u) → (zpi (tg_door (cg_dra u)) (tg_held (cg_dra u)) (tg_keys (cg_dra u))) q < tg_people (cg_dra u) := fun q hq => zpi_lt (fun k hk => (hty k hk).1) hq
    have hpi7 : ∀ q, q < 7 → (zpi (tg_door (cg_dra u)) (tg_held (cg_dra u)) (tg_keys (cg_dra u))) q < 7 := fun q hq => zpi_7 (fun k hk => Nat.lt_of_lt_of_le (hty k hk).1 hp7) hq
    have hr7 := zrc_lt (n := tg_people (cg_dra u)) hpi7 (show p ≤ 7 by omega)
    have hw7 := zwk_lt hpi7 (show p < 7 by omega) (tg_people (cg_dra u))
    have hb2 := zb2 (zrc (zpi (tg_door (cg_dra u)) (tg_held (cg_dra u)) (tg_keys (cg_dra u))) (tg_people (cg_dra u)) p).2 p
    refine r_iload eX2_ringCount_80 rfl ?_
    refine r_aload_n eX2_ringCount_82 rfl rfl ?_
    refine r_getf (v := .int (nI (tg_people (cg_dra u)))) eX2_ringCount_83 fX2_43 rfl rfl ?_
    refine n_icmp_ge eX2_ringCount_86 (by omega) (by omega) (fun hc86 => absurd hc86 (by omega)) (fun hc86 => ?_)
    refine r_iload_n eX2_ringCount_89 rfl rfl ?_
    refine r_iload eX2_ringCount_90 rfl ?_
    refine n_shr eX2_ringCount_92 (by omega) (by omega) ?_
    refine n_iconst 1 eX2_ringCount_93 rfl ?_
    refine n_and eX2_ringCount_94 ?_
    refine n_if_ne eX2_ringCount_95 (by omega) (fun hc95 => ?_) (fun hc95 => ?_)
    · refine n_iinc (k := 1) eX2_ringCount_110 rfl (by decide) rfl ?_
      refine r_goto eX2_ringCount_113 ?_
      have hbt := zb1' hc95
      have q9 : (zrc (zpi (tg_door (cg_dra u)) (tg_held (cg_dra u)) (tg_keys (cg_dra u))) (tg_people (cg_dra u)) (p + 1)) = (zrc (zpi (tg_door (cg_dra u)) (tg_held (cg_dra u)) (tg_keys (cg_dra u))) (tg_people (cg_dra u)) p) := by rw [zrc, if_pos hbt]
      have ih9 := ih (p + 1) (by omega)
      rw [q9] at ih9
      exact ih9
    · refine n_iinc (k := 1) eX2_ringCount_98 rfl (by decide) rfl ?_
      refine r_iload_n eX2_ringCount_101 rfl rfl ?_
      refine r_aload_n eX2_ringCount_102 rfl rfl ?_
      refine r_iload eX2_ringCount_103 rfl ?_
      refine r_callVi1 eX2_ringCount_105 lX2_75 (Or.inl ⟨_, _, _, rfl, rfl, rfl⟩) (s2_ringOf_dra (t := t) (u := u) ho hk10 hty (show p < tg_people (cg_dra u) by omega)) (by omega) (Nat.le_of_ble_eq_true rfl) (fun r1 h1 hq => ?_)
      obtain ⟨rfl, rfl⟩ := (show r1 = nI ((zwk (zpi (tg_door (cg_dra u)) (tg_held (cg_dra u)) (tg_keys (cg_dra u))) p (tg_people (cg_dra u))).1) ∧ h1 = hA t u from hq)
      refine n_or eX2_ringCount_108 ?_
      refine r_istore_n eX2_ringCount_109 rfl (by decide) ?_
      refine n_iinc (k := 1) eX2_ringCount_110 rfl (by decide) rfl ?_
      refine r_goto eX2_ringCount_113 ?_
      have hbt := zb0' hc95
      have q9 : (zrc (zpi (tg_door (cg_dra u)) (tg_held (cg_dra u)) (tg_keys (cg_dra u))) (tg_people (cg_dra u)) (p + 1)) = ((zrc (zpi (tg_door (cg_dra u)) (tg_held (cg_dra u)) (tg_keys (cg_dra u))) (tg_people (cg_dra u)) p).1 + 1, (zrc (zpi (tg_door (cg_dra u)) (tg_held (cg_dra u)) (tg_keys (cg_dra u))) (tg_people (cg_dra u)) p).2 ||| (zwk (zpi (tg_door (cg_dra u)) (tg_held (cg_dra u)) (tg_keys (cg_dra u))) p (tg_people (cg_dra u))).1) := by rw [zrc, if_neg (by rw [hbt]; decide)]
      have ih9 := ih (p + 1) (by omega)
      rw [q9] at ih9
      exact ih9
set_option maxHeartbeats 1000000 in
set_option maxRecDepth 100000 in
theorem s2_ringCount_a_dra {t : zMod} {u : zCls} (ho : tOk (cg_dra u)) (hk10 : tg_keys (cg_dra u) ≤ 10) (hty : tKeys (cg_dra u)) : ∀ (k : Nat) (kx : Nat) (v4 : Value) (v5 : Value) (hd : kx + k = tg_keys (cg_dra u)), Rq mX2_ringCount 6 none 6 [.ref 24, .int (nI ((zmask (tg_door (cg_dra u)) kx))), .int (nI ((zmask (tg_held (cg_dra u)) kx))), .int (nI (kx)), v4, v5] [] (hA t u) (fun r h' => ∃ x, r = some x ∧ (x = tRings (cg_dra u) ∧ h' = hA t u)) := by
  intro k
  induction k with
  | zero =>
    intro kx v4 v5 hd
    obtain ⟨hp7, hk12, hpc, hwt, hrg, hpp⟩ := id ho
    have hmd : (zmask (tg_door (cg_dra u)) kx) < 2 ^ tg_people (cg_dra u) := zmask_lt (fun k hk => (hty k (by omega)).1)
    have hmh : (zmask (tg_held (cg_dra u)) kx) < 2 ^ tg_people (cg_dra u) := zmask_lt (fun k hk => (hty k (by omega)).2)
    have hpw : 2 ^ tg_people (cg_dra u) ≤ 2 ^ 7 := Nat.pow_le_pow_right (by omega) hp7
    have e9 : kx = tg_keys (cg_dra u) := by omega
    subst e9
    refine r_iload_n eX2_ringCount_6 rfl rfl ?_
    refine r_aload_n eX2_ringCount_7 rfl rfl ?_
    refine r_getf (v := .int (nI (tg_keys (cg_dra u)))) eX2_ringCount_8 fX2_46 rfl rfl ?_
    refine n_icmp_ge eX2_ringCount_11 (by omega) (by omega) (fun hc11 => ?_) (fun hc11 => absurd hc11 (by omega))
    refine r_aload_n eX2_ringCount_42 rfl rfl ?_
    refine r_getf (v := .int (nI (tg_keys (cg_dra u)))) eX2_ringCount_43 fX2_46 rfl rfl ?_
    refine r_aload_n eX2_ringCount_46 rfl rfl ?_
    refine r_getf (v := .int (nI (tg_people (cg_dra u)))) eX2_ringCount_47 fX2_43 rfl rfl ?_
    refine n_icmp_ne eX2_ringCount_50 (by omega) (by omega) (fun hc50 => ?_) (fun hc50 => ?_)
    · refine r_bipush (v := (-9)) eX2_ringCount_69 rfl ?_
      have q9 : tRings (cg_dra u) = -9 := if_neg (fun z => hc50 z.1)
      rw [q9]
      exact z_iret eX2_ringCount_71 rfl rfl ⟨_, rfl, rfl, rfl⟩
    · refine r_iload_n eX2_ringCount_53 rfl rfl ?_
      refine r_aload_n eX2_ringCount_54 rfl rfl ?_
      refine r_callVi0 eX2_ringCount_55 lX2_71 (Or.inl ⟨_, _, _, rfl, rfl, rfl⟩) (s2_everyone_dra (t := t) (u := u) ho) (by omega) (Nat.le_of_ble_eq_true rfl) (fun r1 h1 hq => ?_)
      obtain ⟨rfl, rfl⟩ := (show r1 = nI (2 ^ tg_people (cg_dra u) - 1) ∧ h1 = hA t u from hq)
      refine n_icmp_ne eX2_ringCount_58 (by omega) (by omega) (fun hc58 => ?_) (fun hc58 => ?_)
      · refine r_bipush (v := (-9)) eX2_ringCount_69 rfl ?_
        have q9 : tRings (cg_dra u) = -9 := if_neg (fun z => hc58 z.2.1)
        rw [q9]
        exact z_iret eX2_ringCount_71 rfl rfl ⟨_, rfl, rfl, rfl⟩
      · refine r_iload_n eX2_ringCount_61 rfl rfl ?_
        refine r_aload_n eX2_ringCount_62 rfl rfl ?_
        refine r_callVi0 eX2_ringCount_63 lX2_71 (Or.inl ⟨_, _, _, rfl, rfl, rfl⟩) (s2_everyone_dra (t := t) (u := u) ho) (by omega) (Nat.le_of_ble_eq_true rfl) (fun r1 h1 hq => ?_)
        obtain ⟨rfl, rfl⟩ := (show r1 = nI (2 ^ tg_people (cg_dra u) - 1) ∧ h1 = hA t u from hq)
        refine n_icmp_eq eX2_ringCount_66 (by omega) (by omega) (fun hc66 => ?_) (fun hc66 => ?_)
        · refine n_iconst 0 eX2_ringCount_72 rfl ?_
          refine r_istore_n eX2_ringCount_73 rfl (by decide) ?_
          refine n_iconst 0 eX2_ringCount_74 rfl ?_
          refine r_istore eX2_ringCount_75 (by decide) ?_
          refine n_iconst 0 eX2_ringCount_77 rfl ?_
          refine r_istore eX2_ringCount_78 (by decide) ?_
          exact s2_ringCount_b_dra ho hk10 hty ⟨hc50, hc58, hc66⟩ (tg_people (cg_dra u)) 0 (Nat.zero_add _)
        · refine r_bipush (v := (-9)) eX2_ringCount_69 rfl ?_
          have q9 : tRings (cg_dra u) = -9 := if_neg (fun z => hc66 z.2.2)
          rw [q9]
          exact z_iret eX2_ringCount_71 rfl rfl ⟨_, rfl, rfl, rfl⟩
  | succ k ih =>
    intro kx v4 v5 hd
    obtain ⟨hp7, hk12, hpc, hwt, hrg, hpp⟩ := id ho
    have hmd : (zmask (tg_door (cg_dra u)) kx) < 2 ^ tg_people (cg_dra u) := zmask_lt (fun k hk => (hty k (by omega)).1)
    have hmh : (zmask (tg_held (cg_dra u)) kx) < 2 ^ tg_people (cg_dra u) := zmask_lt (fun k hk => (hty k (by omega)).2)
    have hpw : 2 ^ tg_people (cg_dra u) ≤ 2 ^ 7 := Nat.pow_le_pow_right (by omega) hp7
    have hty1 := hty kx (by omega)
    have hp1 := Nat.pow_le_pow_right (show 0 < 2 by omega) (Nat.le_of_lt hty1.1)
    have hp2 := Nat.pow_le_pow_right (show 0 < 2 by omega) (Nat.le_of_lt hty1.2)
    refine r_iload_n eX2_ringCount_6 rfl rfl ?_
    refine r_aload_n eX2_ringCount_7 rfl rfl ?_
    refine r_getf (v := .int (nI (tg_keys (cg_dra u)))) eX2_ringCount_8 fX2_46 rfl rfl ?_
    refine n_icmp_ge eX2_ringCount_11 (by omega) (by omega) (fun hc11 => absurd hc11 (by omega)) (fun hc11 => ?_)
    refine r_iload_n eX2_ringCount_14 rfl rfl ?_
    refine n_iconst 1 eX2_ringCount_15 rfl ?_
    refine r_aload_n eX2_ringCount_16 rfl rfl ?_
    refine r_getf (v := .ref 30) eX2_ringCount_17 fX2_27 rfl rfl ?_
    refine r_iload_n eX2_ringCount_20 rfl rfl ?_
    refine n_iald (f := tg_door (cg_dra u)) (j := kx) eX2_ringCount_21 rfl rfl (by omega) (by decide) ?_
    refine n_shl eX2_ringCount_22 (by omega) (by omega) ?_
    refine n_or eX2_ringCount_23 ?_
    refine r_istore_n eX2_ringCount_24 rfl (by decide) ?_
    refine r_iload_n eX2_ringCount_25 rfl rfl ?_
    refine n_iconst 1 eX2_ringCount_26 rfl ?_
    refine r_aload_n eX2_ringCount_27 rfl rfl ?_
    refine r_getf (v := .ref 31) eX2_ringCount_28 fX2_30 rfl rfl ?_
    refine r_iload_n eX2_ringCount_31 rfl rfl ?_
    refine n_iald (f := tg_held (cg_dra u)) (j := kx) eX2_ringCount_32 rfl rfl (by omega) (by decide) ?_
    refine n_shl eX2_ringCount_33 (by omega) (by omega) ?_
    refine n_or eX2_ringCount_34 ?_
    refine r_istore_n eX2_ringCount_35 rfl (by decide) ?_
    refine n_iinc (k := 1) eX2_ringCount_36 rfl (by decide) rfl ?_
    refine r_goto eX2_ringCount_39 ?_
    exact ih (kx + 1) v4 v5 (by omega)
set_option maxHeartbeats 1000000 in
set_option maxRecDepth 100000 in
theorem s2_ringCount_dra {t : zMod} {u : zCls} (ho : tOk (cg_dra u)) (hk10 : tg_keys (cg_dra u) ≤ 10) (hty : tKeys (cg_dra u)) : Mi mX2_ringCount 6 [.ref 24] (hA t u) (fun r h' => r = tRings (cg_dra u) ∧ h' = hA t u) := by
  refine Mi.of (by decide) rfl (Nat.le_of_ble_eq_true rfl) ?_
  refine n_iconst 0 eX2_ringCount_0 rfl ?_
  refine r_istore_n eX2_ringCount_1 rfl (by decide) ?_
  refine n_iconst 0 eX2_ringCount_2 rfl ?_
  refine r_istore_n eX2_ringCount_3 rfl (by decide) ?_
  refine n_iconst 0 eX2_ringCount_4 rfl ?_
  refine r_istore_n eX2_ringCount_5 rfl (by decide) ?_
  exact s2_ringCount_a_dra ho hk10 hty (tg_keys (cg_dra u)) 0 (.retAddr 0) (.retAddr 0) (Nat.zero_add _)

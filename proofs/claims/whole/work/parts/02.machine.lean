/-! A SMALL MACHINE over the kit: cells by PLACES (0, 1, ..) instead of addresses, locals by their numbers, one judgement 'Rq' for a frame and one 'Mi' / 'Mv' for a method; each rule stands on the kit's row of that instruction. -/
abbrev zC : Type := (Nat × (Nat → Int32)) ⊕ ((Nat × List Value) ⊕ (Nat × (Nat → Option Nat)))
abbrev zI (n : Nat) (f : Nat → Int32) : zC := .inl (n, f)
abbrev zO (ci : Nat) (fs : List Value) : zC := .inr (.inl (ci, fs))
abbrev zR (n : Nat) (f : Nat → Option Nat) : zC := .inr (.inr (n, f))
def zV (ad : Nat → Nat) : Value → Value
  | .ref k => .ref (ad k)
  | .int x => .int x
  | .null => .null
  | .long x => .long x
  | .float x => .float x
  | .double x => .double x
  | .retAddr x => .retAddr x
def zE (ad : Nat → Nat) (cA cB : ClassId) : zC → va_E
  | .inl x => .inl (cA, x.1, .inl x.2)
  | .inr (.inl x) => .inr (x.1, x.2.map (zV ad))
  | .inr (.inr x) => .inl (cB, x.1, .inr (.inr (.inr (.inr (fun i => (x.2 i).map ad)))))
def zWf (ad : Nat → Nat) (cA cB : ClassId) : Nat → List zC → va_W
  | _, [] => []
  | k, c :: h => (ad k, zE ad cA cB c) :: zWf ad cA cB (k + 1) h
def zn {α : Type} : List α → Nat → Option α
  | [], _ => none
  | c :: _, 0 => some c
  | _ :: h, k + 1 => zn h k
def zs {α : Type} : List α → Nat → α → List α
  | [], _, _ => []
  | _ :: h, 0, x => x :: h
  | c :: h, k + 1, x => c :: zs h k x
theorem zn_eq {α : Type} : ∀ (l : List α) (k : Nat), zn l k = l[k]?
  | [], _ => by simp [zn]
  | _ :: _, 0 => by simp [zn]
  | _ :: h, k + 1 => by simp [zn, zn_eq h k]
theorem zs_eq {α : Type} : ∀ (l : List α) (k : Nat) (x : α), zs l k x = l.set k x
  | [], _, _ => by simp [zs]
  | _ :: _, 0, _ => by simp [zs]
  | _ :: h, k + 1, x => by simp [zs, zs_eq h k x]
theorem zWf_get (ad : Nat → Nat) (cA cB : ClassId) : ∀ (h : List zC) (j k : Nat), (zWf ad cA cB j h)[k]? = (zn h k).map (fun c => (ad (j + k), zE ad cA cB c))
  | [], j, k => by simp [zWf, zn]
  | c :: h, j, 0 => by simp [zWf, zn]
  | c :: h, j, k + 1 => by
    simp only [zWf, zn, List.getElem?_cons_succ]
    rw [zWf_get ad cA cB h (j + 1) k, show j + 1 + k = j + (k + 1) by omega]
theorem zWf_set (ad : Nat → Nat) (cA cB : ClassId) : ∀ (h : List zC) (j k : Nat) (c : zC), zWf ad cA cB j (zs h k c) = (zWf ad cA cB j h).set k (ad (j + k), zE ad cA cB c)
  | [], j, k, c => by simp [zWf, zs]
  | _ :: h, j, 0, c => by simp [zWf, zs]
  | _ :: h, j, k + 1, c => by
    simp only [zWf, zs, List.set_cons_succ]
    rw [zWf_set ad cA cB h (j + 1) k c, show j + 1 + k = j + (k + 1) by omega]
abbrev zW (ad : Nat → Nat) (cA cB : ClassId) (h : List zC) : va_W := zWf ad cA cB 0 h
theorem zW_get {ad : Nat → Nat} {cA cB : ClassId} {h : List zC} {k : Nat} {c : zC} (hk : zn h k = some c) : (zW ad cA cB h)[k]? = some (ad k, zE ad cA cB c) := by
  rw [zWf_get, hk, Nat.zero_add]; rfl
theorem zW_set {ad : Nat → Nat} {cA cB : ClassId} {h : List zC} {k : Nat} {c : zC} : zW ad cA cB (zs h k c) = (zW ad cA cB h).set k (ad k, zE ad cA cB c) := by
  show zWf _ _ _ _ _ = _
  rw [zWf_set, Nat.zero_add]
theorem zV_cat (ad : Nat → Nat) (v : Value) : (zV ad v).category = v.category := by cases v <;> rfl
theorem zV_sum (ad : Nat → Nat) (st : List Value) : ((st.map (zV ad)).map fun v => v.category).sum = (st.map fun v => v.category).sum := by
  rw [List.map_map]
  congr 1
  exact List.map_congr_left fun v _ => zV_cat ad v
theorem zV_map_get {ad : Nat → Nat} {fs : List Value} {k : Nat} {v : Value} (h : zn fs k = some v) : (fs.map (zV ad))[k]? = some (zV ad v) := by
  rw [List.getElem?_map, ← zn_eq, h]; rfl
theorem zV_map_set {ad : Nat → Nat} {fs : List Value} {k : Nat} {v : Value} : (zs fs k v).map (zV ad) = (fs.map (zV ad)).set k (zV ad v) := by
  rw [zs_eq, List.map_set]
/-- locals -/
def zg : Value → Bool
  | .int _ => true
  | .ref _ => true
  | .null => true
  | _ => false
theorem zg_cat {v : Value} (h : zg v = true) : v.category = 1 := by cases v <;> first | rfl | cases h
theorem zg_V {ad : Nat → Nat} {v : Value} (h : zg v = true) : (zV ad v).category = 1 := by rw [zV_cat]; exact zg_cat h
def zL (ad : Nat → Nat) (n : Nat) (ls : List Value) (arr : Array Slot) : Prop := arr.size = n ∧ lv_wf arr ∧ ∀ i v, zn ls i = some v → zg v = true → arr[i]? = some (.val (zV ad v))
theorem zL_get {ad : Nat → Nat} {n : Nat} {ls : List Value} {arr : Array Slot} (h : zL ad n ls arr) {i : Nat} {v : Value} (hi : zn ls i = some v) (hv : zg v = true) : arr[i]? = some (.val (zV ad v)) := h.2.2 i v hi hv
/-- the known locals as a list -/
def zK (ad : Nat → Nat) (ls : List Value) : List (Nat × Value) := (List.range ls.length).filterMap fun j => (zn ls j).bind fun v => if zg v then some (j, zV ad v) else none
theorem zn_lt {α : Type} {l : List α} {k : Nat} {x : α} (h : zn l k = some x) : k < l.length := by
  rw [zn_eq] at h
  exact (List.getElem?_eq_some_iff.mp h).1
theorem zK_in {ad : Nat → Nat} {ls : List Value} {i : Nat} {v : Value} (hi : zn ls i = some v) (hv : zg v = true) : (i, zV ad v) ∈ zK ad ls := by
  refine List.mem_filterMap.mpr ⟨i, List.mem_range.mpr (zn_lt hi), ?_⟩
  rw [hi]
  simp [hv]
theorem zK_has {ad : Nat → Nat} {n : Nat} {ls : List Value} {arr : Array Slot} (h : zL ad n ls arr) : lv_has arr n (zK ad ls) := by
  refine ⟨h.1, h.2.1, fun q hq => ?_⟩
  obtain ⟨j, -, hj⟩ := List.mem_filterMap.mp hq
  cases hv : zn ls j with
  | none => rw [hv] at hj; cases hj
  | some v =>
    rw [hv] at hj
    by_cases hg : zg v = true
    · simp [hg] at hj
      subst hj
      exact h.2.2 j v hv hg
    · simp [hg] at hj
theorem zs_get {α : Type} {l : List α} {i j : Nat} {x y : α} (h : zn (zs l i x) j = some y) : (j = i ∧ y = x) ∨ (j ≠ i ∧ zn l j = some y) := by
  rw [zn_eq, zs_eq] at h
  rw [zn_eq]
  by_cases e : j = i
  · subst e
    have hl := (List.getElem?_eq_some_iff.mp h).1
    rw [List.length_set] at hl
    rw [List.getElem?_set_self hl] at h
    cases h
    exact Or.inl ⟨rfl, rfl⟩
  · rw [List.getElem?_set_ne (Ne.symm e)] at h
    exact Or.inr ⟨e, h⟩
/-- a store -/
theorem zL_put {ad : Nat → Nat} {n i : Nat} {ls : List Value} {arr' : Array Slot} {v : Value} {lv' : List (Nat × Value)} (hl : (i, zV ad v) :: (zK ad ls).filter (fun q => !(q.1 == i) && !(q.1 + 1 == i && q.2.category == 2)) = lv') (h : lv_has arr' n lv') : zL ad n (zs ls i v) arr' := by
  refine ⟨h.1, h.2.1, fun j w hj hw => ?_⟩
  subst hl
  rcases zs_get hj with ⟨rfl, rfl⟩ | ⟨e, hj⟩
  · exact h.2.2 (j, zV ad w) List.mem_cons_self
  · refine h.2.2 (j, zV ad w) (List.mem_cons_of_mem _ (List.mem_filter.mpr ⟨zK_in hj hw, ?_⟩))
    have := zg_V (ad := ad) hw
    simp [e, this]
theorem zK_get {ad : Nat → Nat} {ls : List Value} {i : Nat} {v : Value} (hi : zn ls i = some v) (hv : zg v = true) : ∃ k : Nat, (zK ad ls)[k]? = some (i, zV ad v) := List.getElem?_of_mem (zK_in hi hv)
/-- a method: its name, its code, its locals, what it answers -/
abbrev zM : Type := MethodName × ByteArray × Nat × Option FieldType
def zBig : List Cond := lw_tbl.filter goodWord
theorem zBig_in {w : Cond} (h : w ∈ lw_tbl) (g : goodWord w = true) : w ∈ zBig := List.mem_filter.mpr ⟨h, g⟩
theorem zBig_tab {w : Cond} (i : Nat) (h : tables_1[i]? = some w) (g : goodWord w = true) : w ∈ zBig := zBig_in (List.mem_append_right _ (List.mem_of_getElem? h)) g
theorem zBig_sel {w : Cond} (i : Nat) (h : (k2_sels lw_privs)[i]? = some w) (g : goodWord w = true) : w ∈ zBig := zBig_in (List.mem_append_left _ (List.mem_of_getElem? h)) g
theorem zBig_good {w : Cond} (h : w ∈ zBig) : goodWord w = true := (List.mem_filter.mp h).2
def zIsNest : Cond → Bool
  | .fieldLinkNest _ _ _ _ _ _ => true
  | _ => false
def zNests : List Cond := tables_1.filter zIsNest
theorem zNests_tab {w : Cond} (i : Nat) (h : tables_1[i]? = some w) (g : zIsNest w = true) : w ∈ zNests := List.mem_filter.mpr ⟨List.mem_of_getElem? h, g⟩
/-- what stands outside the world: the nest words, the one text constant (place 1000, its bytes 1001), two statics -/
def zX (ad : Nat → Nat) (A : Nat → Prop) (U : State) (H : Heap) : Prop := (∀ w ∈ zNests, va_Nw w U) ∧ vk_S 1 [6] [[112, 113, 115, 116, 98, 104]] (fun _ => ad 1000) (fun _ => ad 1001) A U H ∧ vk_R "LockedInByNext$Reader" 59 "pqstbh" (ad 1000) U ∧ va_Z "java/lang/String" "COMPACT_STRINGS" "Z" (.int 1) A U H ∧ ∃ v : Value, (v = .null ∨ v = .ref 1002) ∧ va_Z "jdk/internal/util/Preconditions" "SIOOBE_FORMATTER" "Ljava/util/function/BiFunction;" (zV ad v) A U H
theorem zNests_is {w : Cond} (h : w ∈ zNests) : ∃ a i b n d ho, w = .fieldLinkNest a i b n d ho := by
  have h2 := (List.mem_filter.mp h).2
  cases w <;> first | exact ⟨_, _, _, _, _, _, rfl⟩ | cases h2
theorem zX.warm {ad : Nat → Nat} {A : Nat → Prop} {s U : State} {H : Heap} (hW : s.WarmedH U.vm) (h : zX ad A s H) : zX ad A U H := by
  obtain ⟨h1, h2, h3, h4, v, h5, h6⟩ := h
  refine ⟨fun w hw => ?_, h2.moved hW.alike, h3.warm hW, h4.moved hW.alike, v, h5, h6.moved hW.alike⟩
  have h9 := h1 w hw
  obtain ⟨a, i, b, n, d, ho, rfl⟩ := zNests_is hw
  exact va_Nw.warmF hW h9
theorem zX.same {ad : Nat → Nat} {A : Nat → Prop} {s U : State} {H : Heap} (hv : U.vm = s.vm) (h : zX ad A s H) : zX ad A U H := by
  obtain ⟨h1, h2, h3, h4, v, h5, h6⟩ := h
  have hal : s.vm.Alike U.vm := by rw [hv]; exact Vm.Alike.refl _
  refine ⟨fun w hw => ?_, h2.moved hal, h3.same hv, h4.moved hal, v, h5, h6.moved hal⟩
  have h9 := h1 w hw
  obtain ⟨a, i, b, n, d, ho, rfl⟩ := zNests_is hw
  exact va_Nw.same rfl hv.symm h9
theorem zX.kept {ad : Nat → Nat} {A : Nat → Prop} {U : State} {H H1 : Heap} (h : zX ad A U H) (hq : ∀ a : Nat, a < H.size → ¬ A a → H1[a]? = H[a]?) : zX ad A U H1 := by
  obtain ⟨h1, h2, h3, h4, v, h5, h6⟩ := h
  exact ⟨h1, h2.kept hq, h3, h4.kept hq, v, h5, h6.kept hq⟩
theorem zX.narrow {ad : Nat → Nat} {A B : Nat → Prop} {U : State} {H : Heap} (h : zX ad A U H) (hAB : ∀ q, B q → A q) : zX ad B U H := by
  obtain ⟨h1, h2, h3, h4, v, h5, h6⟩ := h
  exact ⟨h1, h2.narrow hAB, h3, h4.narrow hAB, v, h5, h6.narrow hAB⟩
abbrev zT (cA cB : ClassId) : List (ClassId × FieldType) := [(cA, .int), (cB, .array .int)]
/-- the script, where a frame reads one: place 999 -/
def zSc (sc : Option (Nat × (Nat → Int32))) (ad : Nat → Nat) (A : Nat → Prop) (s : State) : Prop := ∀ L xs, sc = some (L, xs) → va_X (ad 999) L xs s s.heap ∧ ad 999 < s.heap.size ∧ ¬ A (ad 999)
/-- what stays the same all through a frame -/
def zCtx (Y : zM) (d : Nat) (sc : Option (Nat × (Nat → Int32))) (p : Program) (R : Room) (s : State) (m : MethodId) (args : Array Value) (c : Code) (ad : Nat → Nat) (D : va_G) (cA cB : ClassId) (A : Nat → Prop) (cells slots : Nat) : Prop :=
  p.tables.exec = Jvm.exec ∧ c.code = Y.2.1 ∧ c.maxLocals = Y.2.2.1 ∧ s.vm.findClass Y.1.cls = some m.cls ∧ (∀ w ∈ zBig, w.before args s = true) ∧ va_K D vwCl (zT cA cB) s ∧ zX ad A s s.heap ∧ (∀ q, s.heap.size ≤ q → A q) ∧ (d ≤ R.frames ∧ 100 * d ≤ R.locals ∧ cells ≤ R.cells ∧ slots ≤ R.slots) ∧ zSc sc ad A s
def zInv (ad : Nat → Nat) (D : va_G) (cA cB : ClassId) (h : List zC) (s : State) (A : Nat → Prop) (H : Heap) (locs : List Loc) : Prop :=
  va_P D vwCl (zW ad cA cB h) H ∧ va_D A (zW ad cA cB h) ∧ va_S A s.heap H locs
def zRetAt (Y : zM) (pc : Nat) : Option Int32 → Prop
  | none => decode Y.2.1 pc = .ok (.return_, 1)
  | some r => decode Y.2.1 pc = .ok (.ireturn, 1) ∧ ∃ ty, Y.2.2.2 = some ty ∧ narrow ty (.int r) = .int r
def zRV : Option Int32 → List Value
  | none => []
  | some r => [.int r]
/-- THE JUDGEMENT: the frame of Y, at pc, with these locals, this stack, this world, ends with Q -/
def Rq (Y : zM) (d : Nat) (sc : Option (Nat × (Nat → Int32))) (pc : Nat) (ls st : List Value) (h : List zC) (Q : Option Int32 → List zC → Prop) : Prop :=
  ∀ (p : Program) (l : Launch) (e : Env) (R : Room) (s : State) (m : MethodId) (args : Array Value) (below : List Frame) (meth : Method) (c : Code) (Z : State → Prop) (ad : Nat → Nat) (D : va_G) (cA cB : ClassId) (A : Nat → Prop) (cells slots : Nat),
    zCtx Y d sc p R s m args c ad D cA cB A cells slots →
    (∀ (v : Option Int32) (h' : List zC) (H : Heap) (locs : List Loc) (arr : Array Slot) (pc' : Nat), Q v h' → zInv ad D cA cB h' s A H locs → zRetAt Y pc' v → W p l e R s m args below meth c H locs cells slots Z (F0 m pc' arr (zRV v))) →
    ∀ (H : Heap) (locs : List Loc) (arr : Array Slot), zInv ad D cA cB h s A H locs → zL ad Y.2.2.1 ls arr → W p l e R s m args below meth c H locs cells slots Z (F0 m pc arr (st.map (zV ad)))
def zWs (Y : zM) : List Cond := .code Y.1 Y.2.1 Y.2.2.1 Y.2.2.2 :: zBig
def zRm (d : Nat) : Room := { frames := d, cells := 0, slots := 0, locals := 100 * d }
def zPB (ad : Nat → Nat) (D : va_G) (cA cB : ClassId) (h : List zC) (sz : Nat) : State → Prop := fun U => U.heap.size = sz ∧ va_P D vwCl (zW ad cA cB h) U.heap ∧ va_K D vwCl (zT cA cB) U ∧ va_D (fun _ => True) (zW ad cA cB h) ∧ zX ad (va_A (zW ad cA cB h) sz) U U.heap
def zQB (ad : Nat → Nat) (D : va_G) (cA cB : ClassId) (h : List zC) (sz : Nat) : List zC → State → Prop := fun h' t => va_P D vwCl (zW ad cA cB h') t.heap ∧ va_K D vwCl (zT cA cB) t ∧ va_D (va_A (zW ad cA cB h) sz) (zW ad cA cB h')
/-- a method that answers an int (a boolean, a char), called on this world with these arguments, answers r with a world h' so that Q r h' -/
def Mi (Y : zM) (d : Nat) (As : List Value) (h : List zC) (Q : Int32 → List zC → Prop) : Prop :=
  ∀ (l : Launch) (ad : Nat → Nat) (D : va_G) (cA cB : ClassId) (sz : Nat), Met l Y.1 (zWs Y) (zRm d) (va_Pc (As.map (zV ad)) (zPB ad D cA cB h sz)) (va_Qi Q (zQB ad D cA cB h sz) (va_A (zW ad cA cB h) sz)) 0 0 (va_A (zW ad cA cB h) sz)
def Mv (Y : zM) (d : Nat) (As : List Value) (h : List zC) (Q : List zC → Prop) : Prop :=
  ∀ (l : Launch) (ad : Nat → Nat) (D : va_G) (cA cB : ClassId) (sz : Nat), Met l Y.1 (zWs Y) (zRm d) (va_Pc (As.map (zV ad)) (zPB ad D cA cB h sz)) (va_Qv Q (zQB ad D cA cB h sz) (va_A (zW ad cA cB h) sz)) 0 0 (va_A (zW ad cA cB h) sz)
theorem zBlind {ad : Nat → Nat} {D : va_G} {cA cB : ClassId} {h : List zC} {sz : Nat} {As : List Value} : FrameBlind (va_Pc As (zPB ad D cA cB h sz)) := by
  intro a U g mk q
  obtain ⟨q0, q1, q2, q3, q4, q5⟩ := q
  exact ⟨q0, q1, q2, va_K.moved (u := U) (U := U.calling g mk a) (Vm.Alike.refl U.vm) q3, q4, zX.same (s := U) (U := U.calling g mk a) (H := U.heap) rfl q5⟩
theorem Rq.mono {Y : zM} {d : Nat} {sc : Option (Nat × (Nat → Int32))} {pc : Nat} {ls st : List Value} {h : List zC} {Q Q' : Option Int32 → List zC → Prop} (k : Rq Y d sc pc ls st h Q) (hQ : ∀ r h', Q r h' → Q' r h') : Rq Y d sc pc ls st h Q' := by
  intro p l e R s m args below meth c Z ad D cA cB A cells slots C hret H locs arr hI hL
  exact k p l e R s m args below meth c Z ad D cA cB A cells slots C (fun v h' H locs arr pc' q => hret v h' H locs arr pc' (hQ v h' q)) H locs arr hI hL
/-- the locals at a method's start -/
def zL0 (n : Nat) (As : List Value) : List Value := As ++ List.replicate (n - As.length) (.retAddr 0)
theorem zg_rep {k i : Nat} {v : Value} (h : zn (List.replicate k (Value.retAddr 0)) i = some v) : zg v = false := by
  rw [zn_eq] at h
  rw [List.getElem?_replicate] at h
  split at h
  · cases h; rfl
  · cases h
theorem zargs_get : ∀ (vs : List Value) (j i : Nat) (v : Value), vs.all zg = true → zn vs i = some v → (j + i, v) ∈ lv_args j vs
  | [], _, _, _, _, h => by cases h
  | w :: vs, j, 0, v, hg, h => by
    cases h
    simp [lv_args]
  | w :: vs, j, i + 1, v, hg, h => by
    simp only [List.all_cons, Bool.and_eq_true] at hg
    have h2 : ¬ w.category = 2 := by rw [zg_cat hg.1]; decide
    have := zargs_get vs (j + 1) i v hg.2 h
    simp only [lv_args, if_neg h2]
    rw [show j + (i + 1) = j + 1 + i by omega]
    exact List.mem_cons_of_mem _ this
theorem zlen_sl : ∀ (vs : List Value), vs.all zg = true → (lg_sl vs).length = vs.length
  | [], _ => rfl
  | w :: vs, hg => by
    simp only [List.all_cons, Bool.and_eq_true] at hg
    have h2 : ¬ w.category = 2 := by rw [zg_cat hg.1]; decide
    have := zlen_sl vs hg.2
    simp only [lg_sl, List.flatMap_cons, if_neg h2] at this ⊢
    simp [this]
theorem zgV (ad : Nat → Nat) (v : Value) : zg (zV ad v) = zg v := by cases v <;> rfl
theorem zL_entry {ad : Nat → Nat} {As : List Value} {n : Nat} (hg : As.all zg = true) (hn : As.length ≤ n) : zL ad n (zL0 n As) ((lg_sl (As.map (zV ad)) ++ List.replicate (n - (lg_sl (As.map (zV ad))).length) Slot.unset).toArray) := by
  have hg2 : (As.map (zV ad)).all zg = true := by
    rw [List.all_map]
    exact (List.all_eq_true).mpr fun v hv => by
      show zg (zV ad v) = true
      rw [zgV]
      exact List.all_eq_true.mp hg v hv
  have hl : (lg_sl (As.map (zV ad))).length ≤ n := by rw [zlen_sl _ hg2, List.length_map]; exact hn
  have h := lv_entry (As.map (zV ad)) hl
  refine ⟨h.1, h.2.1, fun i v hi hv => ?_⟩
  rw [zn_eq, zL0] at hi
  by_cases hlt : i < As.length
  · rw [List.getElem?_append_left hlt] at hi
    have h2 := zargs_get (As.map (zV ad)) 0 i (zV ad v) hg2 (by rw [zn_eq, List.getElem?_map, hi]; rfl)
    rw [Nat.zero_add] at h2
    exact h.2.2 _ h2
  · rw [List.getElem?_append_right (by omega)] at hi
    rw [← zn_eq] at hi
    rw [zg_rep hi] at hv
    cases hv
/-- a method out of its frame -/
theorem Mi.of {Y : zM} {d : Nat} {As : List Value} {h : List zC} {Q : Int32 → List zC → Prop} (hy : plainName Y.1.cls = true) (hg : As.all zg = true) (hn : As.length ≤ Y.2.2.1)
    (k : Rq Y d none 0 (zL0 Y.2.2.1 As) [] h (fun r h' => ∃ x, r = some x ∧ Q x h')) : Mi Y d As h Q := by
  intro l ad D cA cB sz
  refine Met.ofW (cc := Y.2.1) (maxL := Y.2.2.1) (ret := Y.2.2.2) hy rfl ?_
  intro p e s m args below meth c s₁ B hml hv
  obtain ⟨rfl, hsz, hP, hK, hD0, hX⟩ := hv
  have hts := atoms_spec (ws := zWs Y) B.pre
  subst hsz
  have hlocks := B.notSynchronized
  rw [lg_entry_eq]
  refine k p l e _ s m _ below meth c _ ad D cA cB (va_A (zW ad cA cB h) s.heap.size) 0 0 ⟨B.exec, B.bytes, hml, findClass_of_methodNamed B.named, fun w hw => hts w (List.mem_cons_of_mem _ hw), hK, hX, fun q hq => Or.inr hq, ⟨Nat.le_refl _, Nat.le_refl _, Nat.zero_le _, Nat.zero_le _⟩, fun L xs hh => by cases hh⟩ ?_ s.heap [] _ ⟨hP, hD0.self, va_S.rf⟩ (zL_entry hg hn)
  intro v h' H locs arr pc' hQ hI hr
  obtain ⟨x, rfl, hQ⟩ := hQ
  obtain ⟨hd, ty, hty, hnar⟩ := hr
  obtain ⟨hP', hD', hS'⟩ := hI
  exact W.zret (v := x) (ty := ty) B.exec B.bytes (B.returns.trans hty) hnar (fun t ht hW => ⟨⟨x, h', rfl, hQ, by rw [ht]; exact hP', va_K.moved hW.alike hK, hD'⟩, hS'.F ht⟩) hS'.2.2 hd
theorem Mv.of {Y : zM} {d : Nat} {As : List Value} {h : List zC} {Q : List zC → Prop} (hy : plainName Y.1.cls = true) (hr0 : Y.2.2.2 = none) (hg : As.all zg = true) (hn : As.length ≤ Y.2.2.1)
    (k : Rq Y d none 0 (zL0 Y.2.2.1 As) [] h (fun r h' => r = none ∧ Q h')) : Mv Y d As h Q := by
  intro l ad D cA cB sz
  refine Met.ofW (cc := Y.2.1) (maxL := Y.2.2.1) (ret := Y.2.2.2) hy rfl ?_
  intro p e s m args below meth c s₁ B hml hv
  obtain ⟨rfl, hsz, hP, hK, hD0, hX⟩ := hv
  have hts := atoms_spec (ws := zWs Y) B.pre
  subst hsz
  have hlocks := B.notSynchronized
  rw [lg_entry_eq]
  refine k p l e _ s m _ below meth c _ ad D cA cB (va_A (zW ad cA cB h) s.heap.size) 0 0 ⟨B.exec, B.bytes, hml, findClass_of_methodNamed B.named, fun w hw => hts w (List.mem_cons_of_mem _ hw), hK, hX, fun q hq => Or.inr hq, ⟨Nat.le_refl _, Nat.le_refl _, Nat.zero_le _, Nat.zero_le _⟩, fun L xs hh => by cases hh⟩ ?_ s.heap [] _ ⟨hP, hD0.self, va_S.rf⟩ (zL_entry hg hn)
  intro v h' H locs arr pc' hQ hI hr
  obtain ⟨rfl, hQ⟩ := hQ
  obtain ⟨hP', hD', hS'⟩ := hI
  exact W.vret B.exec B.bytes (B.returns.trans hr0) (fun t ht hW => ⟨⟨h', rfl, hQ, by rw [ht]; exact hP', va_K.moved hW.alike hK, hD'⟩, hS'.F ht⟩) hS'.2.2 hr
/-! RULES, an instruction each -/
def zd (Y : zM) (pc : Nat) (i : Instr) (n pc' : Nat) : Prop := decode Y.2.1 pc = .ok (i, n) ∧ pc + n = pc'
def zj (Y : zM) (pc : Nat) (i : Instr) (n pc' : Nat) (off : Int) (tgt : Nat) : Prop := decode Y.2.1 pc = .ok (i, n) ∧ pc + n = pc' ∧ (pc : Int) + off = (tgt : Int)
theorem r_iload_n {Y : zM} {d : Nat} {sc : Option (Nat × (Nat → Int32))} {pc pc' : Nat} {ls st : List Value} {h : List zC} {Q : Option Int32 → List zC → Prop} {k : Fin 4} {i : Nat} {x : Int32} (hd : zd Y pc (.iload_n k) 1 pc') (hi : (k : Nat) = i) (hl : zn ls i = some (.int x)) (kk : Rq Y d sc pc' ls (.int x :: st) h Q) : Rq Y d sc pc ls st h Q := by
  intro p l e R s m args below meth c Z ad D cA cB A cells slots C hret H locs arr hI hL
  obtain ⟨hd, rfl⟩ := hd
  exact lv_iload_n C.1 C.2.1 hd hi (zL_get hL hl rfl) (kk p l e R s m args below meth c Z ad D cA cB A cells slots C hret H locs arr hI hL)
theorem r_iload {Y : zM} {d : Nat} {sc : Option (Nat × (Nat → Int32))} {pc pc' : Nat} {ls st : List Value} {h : List zC} {Q : Option Int32 → List zC → Prop} {i : Nat} {x : Int32} (hd : zd Y pc (.iload i) 2 pc') (hl : zn ls i = some (.int x)) (kk : Rq Y d sc pc' ls (.int x :: st) h Q) : Rq Y d sc pc ls st h Q := by
  intro p l e R s m args below meth c Z ad D cA cB A cells slots C hret H locs arr hI hL
  obtain ⟨hd, rfl⟩ := hd
  exact lv_iload C.1 C.2.1 hd (zL_get hL hl rfl) (kk p l e R s m args below meth c Z ad D cA cB A cells slots C hret H locs arr hI hL)
theorem r_aload_n {Y : zM} {d : Nat} {sc : Option (Nat × (Nat → Int32))} {pc pc' : Nat} {ls st : List Value} {h : List zC} {Q : Option Int32 → List zC → Prop} {k : Fin 4} {i : Nat} {x : Nat} (hd : zd Y pc (.aload_n k) 1 pc') (hi : (k : Nat) = i) (hl : zn ls i = some (.ref x)) (kk : Rq Y d sc pc' ls (.ref x :: st) h Q) : Rq Y d sc pc ls st h Q := by
  intro p l e R s m args below meth c Z ad D cA cB A cells slots C hret H locs arr hI hL
  obtain ⟨hd, rfl⟩ := hd
  exact lv_aload_n C.1 C.2.1 hd hi (zL_get hL hl rfl) (kk p l e R s m args below meth c Z ad D cA cB A cells slots C hret H locs arr hI hL)
theorem r_aload {Y : zM} {d : Nat} {sc : Option (Nat × (Nat → Int32))} {pc pc' : Nat} {ls st : List Value} {h : List zC} {Q : Option Int32 → List zC → Prop} {i : Nat} {x : Nat} (hd : zd Y pc (.aload i) 2 pc') (hl : zn ls i = some (.ref x)) (kk : Rq Y d sc pc' ls (.ref x :: st) h Q) : Rq Y d sc pc ls st h Q := by
  intro p l e R s m args below meth c Z ad D cA cB A cells slots C hret H locs arr hI hL
  obtain ⟨hd, rfl⟩ := hd
  exact lv_aload C.1 C.2.1 hd (zL_get hL hl rfl) (kk p l e R s m args below meth c Z ad D cA cB A cells slots C hret H locs arr hI hL)
theorem r_istore_n {Y : zM} {d : Nat} {sc : Option (Nat × (Nat → Int32))} {pc pc' : Nat} {ls st : List Value} {h : List zC} {Q : Option Int32 → List zC → Prop} {k : Fin 4} {i : Nat} {x : Int32} (hd : zd Y pc (.istore_n k) 1 pc') (hi : (k : Nat) = i) (hn : i < Y.2.2.1) (kk : Rq Y d sc pc' (zs ls i (.int x)) st h Q) : Rq Y d sc pc ls (.int x :: st) h Q := by
  intro p l e R s m args below meth c Z ad D cA cB A cells slots C hret H locs arr hI hL
  obtain ⟨hd, rfl⟩ := hd
  exact lv_istore_n C.1 C.2.1 hd hi (zK_has hL) hn rfl (fun arr' hl' => kk p l e R s m args below meth c Z ad D cA cB A cells slots C hret H locs arr' hI (zL_put rfl hl'))
theorem r_istore {Y : zM} {d : Nat} {sc : Option (Nat × (Nat → Int32))} {pc pc' : Nat} {ls st : List Value} {h : List zC} {Q : Option Int32 → List zC → Prop} {i : Nat} {x : Int32} (hd : zd Y pc (.istore i) 2 pc')  (hn : i < Y.2.2.1) (kk : Rq Y d sc pc' (zs ls i (.int x)) st h Q) : Rq Y d sc pc ls (.int x :: st) h Q := by
  intro p l e R s m args below meth c Z ad D cA cB A cells slots C hret H locs arr hI hL
  obtain ⟨hd, rfl⟩ := hd
  exact lv_istore C.1 C.2.1 hd (zK_has hL) hn rfl (fun arr' hl' => kk p l e R s m args below meth c Z ad D cA cB A cells slots C hret H locs arr' hI (zL_put rfl hl'))
theorem r_astore_n {Y : zM} {d : Nat} {sc : Option (Nat × (Nat → Int32))} {pc pc' : Nat} {ls st : List Value} {h : List zC} {Q : Option Int32 → List zC → Prop} {k : Fin 4} {i : Nat} {x : Nat} (hd : zd Y pc (.astore_n k) 1 pc') (hi : (k : Nat) = i) (hn : i < Y.2.2.1) (kk : Rq Y d sc pc' (zs ls i (.ref x)) st h Q) : Rq Y d sc pc ls (.ref x :: st) h Q := by
  intro p l e R s m args below meth c Z ad D cA cB A cells slots C hret H locs arr hI hL
  obtain ⟨hd, rfl⟩ := hd
  exact lv_astore_n C.1 C.2.1 hd hi (zK_has hL) hn rfl (fun arr' hl' => kk p l e R s m args below meth c Z ad D cA cB A cells slots C hret H locs arr' hI (zL_put rfl hl'))
theorem r_iinc {Y : zM} {d : Nat} {sc : Option (Nat × (Nat → Int32))} {pc pc' : Nat} {ls st : List Value} {h : List zC} {Q : Option Int32 → List zC → Prop} {i : Nat} {n : Int} {x : Int32} (hd : zd Y pc (.iinc i n) 3 pc') (hl : zn ls i = some (.int x)) (hn : i < Y.2.2.1) (kk : Rq Y d sc pc' (zs ls i (.int (x + Int32.ofInt n))) st h Q) : Rq Y d sc pc ls st h Q := by
  intro p l e R s m args below meth c Z ad D cA cB A cells slots C hret H locs arr hI hL
  obtain ⟨hd, rfl⟩ := hd
  obtain ⟨k, hk⟩ := zK_get (ad := ad) hl rfl
  exact lv_iinc C.1 C.2.1 hd (zK_has hL) hk rfl hn rfl (fun arr' hl' => kk p l e R s m args below meth c Z ad D cA cB A cells slots C hret H locs arr' hI (zL_put (v := .int (x + Int32.ofInt n)) rfl hl'))
theorem r_iconst {Y : zM} {d : Nat} {sc : Option (Nat × (Nat → Int32))} {pc pc' : Nat} {ls st : List Value} {h : List zC} {Q : Option Int32 → List zC → Prop} {n : Int} {v : Int32} (hd : zd Y pc (.iconst n) 1 pc') (hv : Int32.ofInt n = v) (kk : Rq Y d sc pc' ls (.int v :: st) h Q) : Rq Y d sc pc ls st h Q := by
  intro p l e R s m args below meth c Z ad D cA cB A cells slots C hret H locs arr hI hL
  obtain ⟨hd, rfl⟩ := hd
  exact lv_iconst C.1 C.2.1 hd hv (kk p l e R s m args below meth c Z ad D cA cB A cells slots C hret H locs arr hI hL)
theorem r_bipush {Y : zM} {d : Nat} {sc : Option (Nat × (Nat → Int32))} {pc pc' : Nat} {ls st : List Value} {h : List zC} {Q : Option Int32 → List zC → Prop} {n : Int} {v : Int32} (hd : zd Y pc (.bipush n) 2 pc') (hv : (Int8.ofInt n).toInt32 = v) (kk : Rq Y d sc pc' ls (.int v :: st) h Q) : Rq Y d sc pc ls st h Q := by
  intro p l e R s m args below meth c Z ad D cA cB A cells slots C hret H locs arr hI hL
  obtain ⟨hd, rfl⟩ := hd
  exact lv_bipush C.1 C.2.1 hd hv (kk p l e R s m args below meth c Z ad D cA cB A cells slots C hret H locs arr hI hL)
theorem r_sipush {Y : zM} {d : Nat} {sc : Option (Nat × (Nat → Int32))} {pc pc' : Nat} {ls st : List Value} {h : List zC} {Q : Option Int32 → List zC → Prop} {n : Int} {v : Int32} (hd : zd Y pc (.sipush n) 3 pc') (hv : (Int16.ofInt n).toInt32 = v) (kk : Rq Y d sc pc' ls (.int v :: st) h Q) : Rq Y d sc pc ls st h Q := by
  intro p l e R s m args below meth c Z ad D cA cB A cells slots C hret H locs arr hI hL
  obtain ⟨hd, rfl⟩ := hd
  exact lv_sipush C.1 C.2.1 hd hv (kk p l e R s m args below meth c Z ad D cA cB A cells slots C hret H locs arr hI hL)
theorem r_ldc {Y : zM} {d : Nat} {sc : Option (Nat × (Nat → Int32))} {pc pc' : Nat} {ls st : List Value} {h : List zC} {Q : Option Int32 → List zC → Prop} {i : Nat} {v : Int32} (hd : zd Y pc (.ldc i) 2 pc') (hv : Cond.constant Y.1.cls i v ∈ zBig) (kk : Rq Y d sc pc' ls (.int v :: st) h Q) : Rq Y d sc pc ls st h Q := by
  intro p l e R s m args below meth c Z ad D cA cB A cells slots C hret H locs arr hI hL
  obtain ⟨hd, rfl⟩ := hd
  exact lv_ldc C.1 C.2.1 C.2.2.2.1 (C.2.2.2.2.1 _ hv) hd (kk p l e R s m args below meth c Z ad D cA cB A cells slots C hret H locs arr hI hL)
theorem r_ldcw {Y : zM} {d : Nat} {sc : Option (Nat × (Nat → Int32))} {pc pc' : Nat} {ls st : List Value} {h : List zC} {Q : Option Int32 → List zC → Prop} {i : Nat} {v : Int32} (hd : zd Y pc (.ldc_w i) 3 pc') (hv : Cond.constant Y.1.cls i v ∈ zBig) (kk : Rq Y d sc pc' ls (.int v :: st) h Q) : Rq Y d sc pc ls st h Q := by
  intro p l e R s m args below meth c Z ad D cA cB A cells slots C hret H locs arr hI hL
  obtain ⟨hd, rfl⟩ := hd
  exact lv_ldcw C.1 C.2.1 C.2.2.2.1 (C.2.2.2.2.1 _ hv) hd (kk p l e R s m args below meth c Z ad D cA cB A cells slots C hret H locs arr hI hL)
theorem r_iadd {Y : zM} {d : Nat} {sc : Option (Nat × (Nat → Int32))} {pc pc' : Nat} {ls st : List Value} {h : List zC} {Q : Option Int32 → List zC → Prop} {x y : Int32} (hd : zd Y pc (.iadd) 1 pc')  (kk : Rq Y d sc pc' ls (.int (x + y) :: st) h Q) : Rq Y d sc pc ls (.int y :: .int x :: st) h Q := by
  intro p l e R s m args below meth c Z ad D cA cB A cells slots C hret H locs arr hI hL
  obtain ⟨hd, rfl⟩ := hd
  exact lv_iadd C.1 C.2.1 hd (kk p l e R s m args below meth c Z ad D cA cB A cells slots C hret H locs arr hI hL)
theorem r_isub {Y : zM} {d : Nat} {sc : Option (Nat × (Nat → Int32))} {pc pc' : Nat} {ls st : List Value} {h : List zC} {Q : Option Int32 → List zC → Prop} {x y : Int32} (hd : zd Y pc (.isub) 1 pc')  (kk : Rq Y d sc pc' ls (.int (x - y) :: st) h Q) : Rq Y d sc pc ls (.int y :: .int x :: st) h Q := by
  intro p l e R s m args below meth c Z ad D cA cB A cells slots C hret H locs arr hI hL
  obtain ⟨hd, rfl⟩ := hd
  exact lv_isub C.1 C.2.1 hd (kk p l e R s m args below meth c Z ad D cA cB A cells slots C hret H locs arr hI hL)
theorem r_imul {Y : zM} {d : Nat} {sc : Option (Nat × (Nat → Int32))} {pc pc' : Nat} {ls st : List Value} {h : List zC} {Q : Option Int32 → List zC → Prop} {x y : Int32} (hd : zd Y pc (.imul) 1 pc')  (kk : Rq Y d sc pc' ls (.int (x * y) :: st) h Q) : Rq Y d sc pc ls (.int y :: .int x :: st) h Q := by
  intro p l e R s m args below meth c Z ad D cA cB A cells slots C hret H locs arr hI hL
  obtain ⟨hd, rfl⟩ := hd
  exact lv_imul C.1 C.2.1 hd (kk p l e R s m args below meth c Z ad D cA cB A cells slots C hret H locs arr hI hL)
theorem r_iand {Y : zM} {d : Nat} {sc : Option (Nat × (Nat → Int32))} {pc pc' : Nat} {ls st : List Value} {h : List zC} {Q : Option Int32 → List zC → Prop} {x y : Int32} (hd : zd Y pc (.iand) 1 pc')  (kk : Rq Y d sc pc' ls (.int (x &&& y) :: st) h Q) : Rq Y d sc pc ls (.int y :: .int x :: st) h Q := by
  intro p l e R s m args below meth c Z ad D cA cB A cells slots C hret H locs arr hI hL
  obtain ⟨hd, rfl⟩ := hd
  exact lv_iand C.1 C.2.1 hd (kk p l e R s m args below meth c Z ad D cA cB A cells slots C hret H locs arr hI hL)
theorem r_ior {Y : zM} {d : Nat} {sc : Option (Nat × (Nat → Int32))} {pc pc' : Nat} {ls st : List Value} {h : List zC} {Q : Option Int32 → List zC → Prop} {x y : Int32} (hd : zd Y pc (.ior) 1 pc')  (kk : Rq Y d sc pc' ls (.int (x ||| y) :: st) h Q) : Rq Y d sc pc ls (.int y :: .int x :: st) h Q := by
  intro p l e R s m args below meth c Z ad D cA cB A cells slots C hret H locs arr hI hL
  obtain ⟨hd, rfl⟩ := hd
  exact lv_ior C.1 C.2.1 hd (kk p l e R s m args below meth c Z ad D cA cB A cells slots C hret H locs arr hI hL)
theorem r_ixor {Y : zM} {d : Nat} {sc : Option (Nat × (Nat → Int32))} {pc pc' : Nat} {ls st : List Value} {h : List zC} {Q : Option Int32 → List zC → Prop} {x y : Int32} (hd : zd Y pc (.ixor) 1 pc')  (kk : Rq Y d sc pc' ls (.int (x ^^^ y) :: st) h Q) : Rq Y d sc pc ls (.int y :: .int x :: st) h Q := by
  intro p l e R s m args below meth c Z ad D cA cB A cells slots C hret H locs arr hI hL
  obtain ⟨hd, rfl⟩ := hd
  exact lv_ixor C.1 C.2.1 hd (kk p l e R s m args below meth c Z ad D cA cB A cells slots C hret H locs arr hI hL)
theorem r_ishl {Y : zM} {d : Nat} {sc : Option (Nat × (Nat → Int32))} {pc pc' : Nat} {ls st : List Value} {h : List zC} {Q : Option Int32 → List zC → Prop} {x y : Int32} (hd : zd Y pc (.ishl) 1 pc')  (kk : Rq Y d sc pc' ls (.int (x <<< (y &&& 31)) :: st) h Q) : Rq Y d sc pc ls (.int y :: .int x :: st) h Q := by
  intro p l e R s m args below meth c Z ad D cA cB A cells slots C hret H locs arr hI hL
  obtain ⟨hd, rfl⟩ := hd
  exact lv_ishl C.1 C.2.1 hd (kk p l e R s m args below meth c Z ad D cA cB A cells slots C hret H locs arr hI hL)
theorem r_ishr {Y : zM} {d : Nat} {sc : Option (Nat × (Nat → Int32))} {pc pc' : Nat} {ls st : List Value} {h : List zC} {Q : Option Int32 → List zC → Prop} {x y : Int32} (hd : zd Y pc (.ishr) 1 pc')  (kk : Rq Y d sc pc' ls (.int (x >>> (y &&& 31)) :: st) h Q) : Rq Y d sc pc ls (.int y :: .int x :: st) h Q := by
  intro p l e R s m args below meth c Z ad D cA cB A cells slots C hret H locs arr hI hL
  obtain ⟨hd, rfl⟩ := hd
  exact lv_ishr C.1 C.2.1 hd (kk p l e R s m args below meth c Z ad D cA cB A cells slots C hret H locs arr hI hL)
theorem r_iushr {Y : zM} {d : Nat} {sc : Option (Nat × (Nat → Int32))} {pc pc' : Nat} {ls st : List Value} {h : List zC} {Q : Option Int32 → List zC → Prop} {x y : Int32} (hd : zd Y pc (.iushr) 1 pc')  (kk : Rq Y d sc pc' ls (.int ((x.toUInt32 >>> (y.toUInt32 &&& Int32.toUInt32 31)).toInt32) :: st) h Q) : Rq Y d sc pc ls (.int y :: .int x :: st) h Q := by
  intro p l e R s m args below meth c Z ad D cA cB A cells slots C hret H locs arr hI hL
  obtain ⟨hd, rfl⟩ := hd
  exact lv_iushr C.1 C.2.1 hd rfl (kk p l e R s m args below meth c Z ad D cA cB A cells slots C hret H locs arr hI hL)
theorem r_idiv {Y : zM} {d : Nat} {sc : Option (Nat × (Nat → Int32))} {pc pc' : Nat} {ls st : List Value} {h : List zC} {Q : Option Int32 → List zC → Prop} {x y : Int32} (hd : zd Y pc (.idiv) 1 pc') (hne : ¬ y = 0) (kk : Rq Y d sc pc' ls (.int (x / y) :: st) h Q) : Rq Y d sc pc ls (.int y :: .int x :: st) h Q := by
  intro p l e R s m args below meth c Z ad D cA cB A cells slots C hret H locs arr hI hL
  obtain ⟨hd, rfl⟩ := hd
  exact lv_idiv C.1 C.2.1 hd hne (kk p l e R s m args below meth c Z ad D cA cB A cells slots C hret H locs arr hI hL)
theorem r_irem {Y : zM} {d : Nat} {sc : Option (Nat × (Nat → Int32))} {pc pc' : Nat} {ls st : List Value} {h : List zC} {Q : Option Int32 → List zC → Prop} {x y : Int32} (hd : zd Y pc (.irem) 1 pc') (hne : ¬ y = 0) (kk : Rq Y d sc pc' ls (.int (x - x / y * y) :: st) h Q) : Rq Y d sc pc ls (.int y :: .int x :: st) h Q := by
  intro p l e R s m args below meth c Z ad D cA cB A cells slots C hret H locs arr hI hL
  obtain ⟨hd, rfl⟩ := hd
  exact lv_irem C.1 C.2.1 hd hne (kk p l e R s m args below meth c Z ad D cA cB A cells slots C hret H locs arr hI hL)
theorem r_ineg {Y : zM} {d : Nat} {sc : Option (Nat × (Nat → Int32))} {pc pc' : Nat} {ls st : List Value} {h : List zC} {Q : Option Int32 → List zC → Prop} {x : Int32} (hd : zd Y pc (.ineg) 1 pc')  (kk : Rq Y d sc pc' ls (.int (-x) :: st) h Q) : Rq Y d sc pc ls (.int x :: st) h Q := by
  intro p l e R s m args below meth c Z ad D cA cB A cells slots C hret H locs arr hI hL
  obtain ⟨hd, rfl⟩ := hd
  exact lv_ineg C.1 C.2.1 hd (kk p l e R s m args below meth c Z ad D cA cB A cells slots C hret H locs arr hI hL)
theorem r_i2c {Y : zM} {d : Nat} {sc : Option (Nat × (Nat → Int32))} {pc pc' : Nat} {ls st : List Value} {h : List zC} {Q : Option Int32 → List zC → Prop} {x : Int32} (hd : zd Y pc (.i2c) 1 pc')  (kk : Rq Y d sc pc' ls (.int ((x.toUInt32 % 65536).toInt32) :: st) h Q) : Rq Y d sc pc ls (.int x :: st) h Q := by
  intro p l e R s m args below meth c Z ad D cA cB A cells slots C hret H locs arr hI hL
  obtain ⟨hd, rfl⟩ := hd
  exact lv_i2c C.1 C.2.1 hd rfl (kk p l e R s m args below meth c Z ad D cA cB A cells slots C hret H locs arr hI hL)
theorem r_dup {Y : zM} {d : Nat} {sc : Option (Nat × (Nat → Int32))} {pc pc' : Nat} {ls st : List Value} {h : List zC} {Q : Option Int32 → List zC → Prop} {v : Value} (hd : zd Y pc (.dup) 1 pc') (hv : zg v = true) (kk : Rq Y d sc pc' ls (v :: v :: st) h Q) : Rq Y d sc pc ls (v :: st) h Q := by
  intro p l e R s m args below meth c Z ad D cA cB A cells slots C hret H locs arr hI hL
  obtain ⟨hd, rfl⟩ := hd
  exact lv_dup C.1 C.2.1 hd (zg_V hv) (kk p l e R s m args below meth c Z ad D cA cB A cells slots C hret H locs arr hI hL)
theorem r_dup2 {Y : zM} {d : Nat} {sc : Option (Nat × (Nat → Int32))} {pc pc' : Nat} {ls st : List Value} {h : List zC} {Q : Option Int32 → List zC → Prop} {v u : Value} (hd : zd Y pc (.dup2) 1 pc') (hv : zg v = true) (hu : zg u = true) (kk : Rq Y d sc pc' ls (v :: u :: v :: u :: st) h Q) : Rq Y d sc pc ls (v :: u :: st) h Q := by
  intro p l e R s m args below meth c Z ad D cA cB A cells slots C hret H locs arr hI hL
  obtain ⟨hd, rfl⟩ := hd
  exact lv_dup2_11 C.1 C.2.1 hd (zg_V hv) (zg_V hu) (kk p l e R s m args below meth c Z ad D cA cB A cells slots C hret H locs arr hI hL)
theorem r_pop {Y : zM} {d : Nat} {sc : Option (Nat × (Nat → Int32))} {pc pc' : Nat} {ls st : List Value} {h : List zC} {Q : Option Int32 → List zC → Prop} {v : Value} (hd : zd Y pc (.pop) 1 pc') (hv : zg v = true) (kk : Rq Y d sc pc' ls st h Q) : Rq Y d sc pc ls (v :: st) h Q := by
  intro p l e R s m args below meth c Z ad D cA cB A cells slots C hret H locs arr hI hL
  obtain ⟨hd, rfl⟩ := hd
  exact lv_pop C.1 C.2.1 hd (zg_V hv) (kk p l e R s m args below meth c Z ad D cA cB A cells slots C hret H locs arr hI hL)
theorem r_top {Y : zM} {d : Nat} {sc : Option (Nat × (Nat → Int32))} {pc pc' : Nat} {ls st : List Value} {h : List zC} {Q : Option Int32 → List zC → Prop} {x y : Int32} (hx : x = y) (kk : Rq Y d sc pc ls (.int y :: st) h Q) : Rq Y d sc pc ls (.int x :: st) h Q := by subst hx; exact kk
theorem r_ls {Y : zM} {d : Nat} {sc : Option (Nat × (Nat → Int32))} {pc pc' : Nat} {ls st : List Value} {h : List zC} {Q : Option Int32 → List zC → Prop} {ls' : List Value} (hx : ls = ls') (kk : Rq Y d sc pc ls' st h Q) : Rq Y d sc pc ls st h Q := by subst hx; exact kk
theorem r_h {Y : zM} {d : Nat} {sc : Option (Nat × (Nat → Int32))} {pc pc' : Nat} {ls st : List Value} {h : List zC} {Q : Option Int32 → List zC → Prop} {h' : List zC} (hx : h = h') (kk : Rq Y d sc pc ls st h' Q) : Rq Y d sc pc ls st h Q := by subst hx; exact kk
theorem r_icmp_eq {Y : zM} {d : Nat} {sc : Option (Nat × (Nat → Int32))} {pc pc' : Nat} {ls st : List Value} {h : List zC} {Q : Option Int32 → List zC → Prop} {x y : Int32} {off : Int} {tgt : Nat} (hd : zj Y pc (.if_icmp .eq off) 3 pc' off tgt) (kt : x = y → Rq Y d sc tgt ls st h Q) (kf : ¬ (x = y) → Rq Y d sc pc' ls st h Q) : Rq Y d sc pc ls (.int y :: .int x :: st) h Q := by
  intro p l e R s m args below meth c Z ad D cA cB A cells slots C hret H locs arr hI hL
  obtain ⟨hd, rfl, ht⟩ := hd
  exact lv_icmp_eq C.1 C.2.1 hd ht (fun hc => kt hc p l e R s m args below meth c Z ad D cA cB A cells slots C hret H locs arr hI hL) (fun hc => kf hc p l e R s m args below meth c Z ad D cA cB A cells slots C hret H locs arr hI hL)
theorem r_if_eq {Y : zM} {d : Nat} {sc : Option (Nat × (Nat → Int32))} {pc pc' : Nat} {ls st : List Value} {h : List zC} {Q : Option Int32 → List zC → Prop} {x : Int32} {off : Int} {tgt : Nat} (hd : zj Y pc (.ifCond .eq off) 3 pc' off tgt) (kt : x = 0 → Rq Y d sc tgt ls st h Q) (kf : ¬ (x = 0) → Rq Y d sc pc' ls st h Q) : Rq Y d sc pc ls (.int x :: st) h Q := by
  intro p l e R s m args below meth c Z ad D cA cB A cells slots C hret H locs arr hI hL
  obtain ⟨hd, rfl, ht⟩ := hd
  exact lv_if_eq C.1 C.2.1 hd ht (fun hc => kt hc p l e R s m args below meth c Z ad D cA cB A cells slots C hret H locs arr hI hL) (fun hc => kf hc p l e R s m args below meth c Z ad D cA cB A cells slots C hret H locs arr hI hL)
theorem r_icmp_ne {Y : zM} {d : Nat} {sc : Option (Nat × (Nat → Int32))} {pc pc' : Nat} {ls st : List Value} {h : List zC} {Q : Option Int32 → List zC → Prop} {x y : Int32} {off : Int} {tgt : Nat} (hd : zj Y pc (.if_icmp .ne off) 3 pc' off tgt) (kt : ¬ x = y → Rq Y d sc tgt ls st h Q) (kf : x = y → Rq Y d sc pc' ls st h Q) : Rq Y d sc pc ls (.int y :: .int x :: st) h Q := by
  intro p l e R s m args below meth c Z ad D cA cB A cells slots C hret H locs arr hI hL
  obtain ⟨hd, rfl, ht⟩ := hd
  exact lv_icmp_ne C.1 C.2.1 hd ht (fun hc => kt hc p l e R s m args below meth c Z ad D cA cB A cells slots C hret H locs arr hI hL) (fun hc => kf hc p l e R s m args below meth c Z ad D cA cB A cells slots C hret H locs arr hI hL)
theorem r_if_ne {Y : zM} {d : Nat} {sc : Option (Nat × (Nat → Int32))} {pc pc' : Nat} {ls st : List Value} {h : List zC} {Q : Option Int32 → List zC → Prop} {x : Int32} {off : Int} {tgt : Nat} (hd : zj Y pc (.ifCond .ne off) 3 pc' off tgt) (kt : ¬ x = 0 → Rq Y d sc tgt ls st h Q) (kf : x = 0 → Rq Y d sc pc' ls st h Q) : Rq Y d sc pc ls (.int x :: st) h Q := by
  intro p l e R s m args below meth c Z ad D cA cB A cells slots C hret H locs arr hI hL
  obtain ⟨hd, rfl, ht⟩ := hd
  exact lv_if_ne C.1 C.2.1 hd ht (fun hc => kt hc p l e R s m args below meth c Z ad D cA cB A cells slots C hret H locs arr hI hL) (fun hc => kf hc p l e R s m args below meth c Z ad D cA cB A cells slots C hret H locs arr hI hL)
theorem r_icmp_lt {Y : zM} {d : Nat} {sc : Option (Nat × (Nat → Int32))} {pc pc' : Nat} {ls st : List Value} {h : List zC} {Q : Option Int32 → List zC → Prop} {x y : Int32} {off : Int} {tgt : Nat} (hd : zj Y pc (.if_icmp .lt off) 3 pc' off tgt) (kt : x < y → Rq Y d sc tgt ls st h Q) (kf : ¬ (x < y) → Rq Y d sc pc' ls st h Q) : Rq Y d sc pc ls (.int y :: .int x :: st) h Q := by
  intro p l e R s m args below meth c Z ad D cA cB A cells slots C hret H locs arr hI hL
  obtain ⟨hd, rfl, ht⟩ := hd
  exact lv_icmp_lt C.1 C.2.1 hd ht (fun hc => kt hc p l e R s m args below meth c Z ad D cA cB A cells slots C hret H locs arr hI hL) (fun hc => kf hc p l e R s m args below meth c Z ad D cA cB A cells slots C hret H locs arr hI hL)
theorem r_if_lt {Y : zM} {d : Nat} {sc : Option (Nat × (Nat → Int32))} {pc pc' : Nat} {ls st : List Value} {h : List zC} {Q : Option Int32 → List zC → Prop} {x : Int32} {off : Int} {tgt : Nat} (hd : zj Y pc (.ifCond .lt off) 3 pc' off tgt) (kt : x < 0 → Rq Y d sc tgt ls st h Q) (kf : ¬ (x < 0) → Rq Y d sc pc' ls st h Q) : Rq Y d sc pc ls (.int x :: st) h Q := by
  intro p l e R s m args below meth c Z ad D cA cB A cells slots C hret H locs arr hI hL
  obtain ⟨hd, rfl, ht⟩ := hd
  exact lv_if_lt C.1 C.2.1 hd ht (fun hc => kt hc p l e R s m args below meth c Z ad D cA cB A cells slots C hret H locs arr hI hL) (fun hc => kf hc p l e R s m args below meth c Z ad D cA cB A cells slots C hret H locs arr hI hL)
theorem r_icmp_ge {Y : zM} {d : Nat} {sc : Option (Nat × (Nat → Int32))} {pc pc' : Nat} {ls st : List Value} {h : List zC} {Q : Option Int32 → List zC → Prop} {x y : Int32} {off : Int} {tgt : Nat} (hd : zj Y pc (.if_icmp .ge off) 3 pc' off tgt) (kt : y ≤ x → Rq Y d sc tgt ls st h Q) (kf : ¬ (y ≤ x) → Rq Y d sc pc' ls st h Q) : Rq Y d sc pc ls (.int y :: .int x :: st) h Q := by
  intro p l e R s m args below meth c Z ad D cA cB A cells slots C hret H locs arr hI hL
  obtain ⟨hd, rfl, ht⟩ := hd
  exact lv_icmp_ge C.1 C.2.1 hd ht (fun hc => kt hc p l e R s m args below meth c Z ad D cA cB A cells slots C hret H locs arr hI hL) (fun hc => kf hc p l e R s m args below meth c Z ad D cA cB A cells slots C hret H locs arr hI hL)
theorem r_if_ge {Y : zM} {d : Nat} {sc : Option (Nat × (Nat → Int32))} {pc pc' : Nat} {ls st : List Value} {h : List zC} {Q : Option Int32 → List zC → Prop} {x : Int32} {off : Int} {tgt : Nat} (hd : zj Y pc (.ifCond .ge off) 3 pc' off tgt) (kt : 0 ≤ x → Rq Y d sc tgt ls st h Q) (kf : ¬ (0 ≤ x) → Rq Y d sc pc' ls st h Q) : Rq Y d sc pc ls (.int x :: st) h Q := by
  intro p l e R s m args below meth c Z ad D cA cB A cells slots C hret H locs arr hI hL
  obtain ⟨hd, rfl, ht⟩ := hd
  exact lv_if_ge C.1 C.2.1 hd ht (fun hc => kt hc p l e R s m args below meth c Z ad D cA cB A cells slots C hret H locs arr hI hL) (fun hc => kf hc p l e R s m args below meth c Z ad D cA cB A cells slots C hret H locs arr hI hL)
theorem r_icmp_gt {Y : zM} {d : Nat} {sc : Option (Nat × (Nat → Int32))} {pc pc' : Nat} {ls st : List Value} {h : List zC} {Q : Option Int32 → List zC → Prop} {x y : Int32} {off : Int} {tgt : Nat} (hd : zj Y pc (.if_icmp .gt off) 3 pc' off tgt) (kt : y < x → Rq Y d sc tgt ls st h Q) (kf : ¬ (y < x) → Rq Y d sc pc' ls st h Q) : Rq Y d sc pc ls (.int y :: .int x :: st) h Q := by
  intro p l e R s m args below meth c Z ad D cA cB A cells slots C hret H locs arr hI hL
  obtain ⟨hd, rfl, ht⟩ := hd
  exact lv_icmp_gt C.1 C.2.1 hd ht (fun hc => kt hc p l e R s m args below meth c Z ad D cA cB A cells slots C hret H locs arr hI hL) (fun hc => kf hc p l e R s m args below meth c Z ad D cA cB A cells slots C hret H locs arr hI hL)
theorem r_if_gt {Y : zM} {d : Nat} {sc : Option (Nat × (Nat → Int32))} {pc pc' : Nat} {ls st : List Value} {h : List zC} {Q : Option Int32 → List zC → Prop} {x : Int32} {off : Int} {tgt : Nat} (hd : zj Y pc (.ifCond .gt off) 3 pc' off tgt) (kt : 0 < x → Rq Y d sc tgt ls st h Q) (kf : ¬ (0 < x) → Rq Y d sc pc' ls st h Q) : Rq Y d sc pc ls (.int x :: st) h Q := by
  intro p l e R s m args below meth c Z ad D cA cB A cells slots C hret H locs arr hI hL
  obtain ⟨hd, rfl, ht⟩ := hd
  exact lv_if_gt C.1 C.2.1 hd ht (fun hc => kt hc p l e R s m args below meth c Z ad D cA cB A cells slots C hret H locs arr hI hL) (fun hc => kf hc p l e R s m args below meth c Z ad D cA cB A cells slots C hret H locs arr hI hL)
theorem r_icmp_le {Y : zM} {d : Nat} {sc : Option (Nat × (Nat → Int32))} {pc pc' : Nat} {ls st : List Value} {h : List zC} {Q : Option Int32 → List zC → Prop} {x y : Int32} {off : Int} {tgt : Nat} (hd : zj Y pc (.if_icmp .le off) 3 pc' off tgt) (kt : x ≤ y → Rq Y d sc tgt ls st h Q) (kf : ¬ (x ≤ y) → Rq Y d sc pc' ls st h Q) : Rq Y d sc pc ls (.int y :: .int x :: st) h Q := by
  intro p l e R s m args below meth c Z ad D cA cB A cells slots C hret H locs arr hI hL
  obtain ⟨hd, rfl, ht⟩ := hd
  exact lv_icmp_le C.1 C.2.1 hd ht (fun hc => kt hc p l e R s m args below meth c Z ad D cA cB A cells slots C hret H locs arr hI hL) (fun hc => kf hc p l e R s m args below meth c Z ad D cA cB A cells slots C hret H locs arr hI hL)
theorem r_if_le {Y : zM} {d : Nat} {sc : Option (Nat × (Nat → Int32))} {pc pc' : Nat} {ls st : List Value} {h : List zC} {Q : Option Int32 → List zC → Prop} {x : Int32} {off : Int} {tgt : Nat} (hd : zj Y pc (.ifCond .le off) 3 pc' off tgt) (kt : x ≤ 0 → Rq Y d sc tgt ls st h Q) (kf : ¬ (x ≤ 0) → Rq Y d sc pc' ls st h Q) : Rq Y d sc pc ls (.int x :: st) h Q := by
  intro p l e R s m args below meth c Z ad D cA cB A cells slots C hret H locs arr hI hL
  obtain ⟨hd, rfl, ht⟩ := hd
  exact lv_if_le C.1 C.2.1 hd ht (fun hc => kt hc p l e R s m args below meth c Z ad D cA cB A cells slots C hret H locs arr hI hL) (fun hc => kf hc p l e R s m args below meth c Z ad D cA cB A cells slots C hret H locs arr hI hL)
theorem r_goto {Y : zM} {d : Nat} {sc : Option (Nat × (Nat → Int32))} {pc pc' : Nat} {ls st : List Value} {h : List zC} {Q : Option Int32 → List zC → Prop} {off : Int} {tgt : Nat} (hd : zj Y pc (.goto off) 3 pc' off tgt) (kk : Rq Y d sc tgt ls st h Q) : Rq Y d sc pc ls st h Q := by
  intro p l e R s m args below meth c Z ad D cA cB A cells slots C hret H locs arr hI hL
  obtain ⟨hd, rfl, ht⟩ := hd
  exact lv_goto C.1 C.2.1 hd ht (kk p l e R s m args below meth c Z ad D cA cB A cells slots C hret H locs arr hI hL)
theorem r_tabIn {Y : zM} {d : Nat} {sc : Option (Nat × (Nat → Int32))} {pc pc' : Nat} {ls st : List Value} {h : List zC} {Q : Option Int32 → List zC → Prop} {dflt lo hi : Int} {offs : Array Int} {len : Nat} {x : Int32} {off : Int} {tgt : Nat} (hd : zd Y pc (.tableswitch dflt lo hi offs) len pc') (h1 : ¬ x.toInt < lo) (h2 : ¬ hi < x.toInt) (ho : offs[(x.toInt - lo).toNat]? = some off) (ht : (pc : Int) + off = (tgt : Int)) (kk : Rq Y d sc tgt ls st h Q) : Rq Y d sc pc ls (.int x :: st) h Q := by
  intro p l e R s m args below meth c Z ad D cA cB A cells slots C hret H locs arr hI hL
  obtain ⟨hd, rfl⟩ := hd
  exact lv_tableIn C.1 C.2.1 hd h1 h2 ho ht (kk p l e R s m args below meth c Z ad D cA cB A cells slots C hret H locs arr hI hL)
theorem r_tabOut {Y : zM} {d : Nat} {sc : Option (Nat × (Nat → Int32))} {pc pc' : Nat} {ls st : List Value} {h : List zC} {Q : Option Int32 → List zC → Prop} {dflt lo hi : Int} {offs : Array Int} {len : Nat} {x : Int32} {tgt : Nat} (hd : zd Y pc (.tableswitch dflt lo hi offs) len pc') (h1 : x.toInt < lo ∨ hi < x.toInt) (ht : (pc : Int) + dflt = (tgt : Int)) (kk : Rq Y d sc tgt ls st h Q) : Rq Y d sc pc ls (.int x :: st) h Q := by
  intro p l e R s m args below meth c Z ad D cA cB A cells slots C hret H locs arr hI hL
  obtain ⟨hd, rfl⟩ := hd
  exact lv_tableOut C.1 C.2.1 hd h1 ht (kk p l e R s m args below meth c Z ad D cA cB A cells slots C hret H locs arr hI hL)
theorem r_look {Y : zM} {d : Nat} {sc : Option (Nat × (Nat → Int32))} {pc pc' : Nat} {ls st : List Value} {h : List zC} {Q : Option Int32 → List zC → Prop} {dflt : Int} {ps : Array (Int × Int)} {len : Nat} {x : Int32} {off : Int} {tgt : Nat} (hd : zd Y pc (.lookupswitch dflt ps) len pc') (hp : (ps.toList.zip (ps.toList.drop 1)).all (fun (a, next) => a.1 < next.1) = true) (ho : Op.lookupswitch.offset ps.toList dflt x.toInt = off) (ht : (pc : Int) + off = (tgt : Int)) (kk : Rq Y d sc tgt ls st h Q) : Rq Y d sc pc ls (.int x :: st) h Q := by
  intro p l e R s m args below meth c Z ad D cA cB A cells slots C hret H locs arr hI hL
  obtain ⟨hd, rfl⟩ := hd
  exact lv_lookup C.1 C.2.1 hd hp ho ht (kk p l e R s m args below meth c Z ad D cA cB A cells slots C hret H locs arr hI hL)
/-- a field by its link: class's place, slot -/
def zF (own : String) (i ci k : Nat) : Prop := ∃ q : vw_C, vwCl[ci]? = some q ∧ k < q.2.2 ∧ (∀ w ∈ u_ws q.1 q.2.1 q.2.2, w ∈ zBig) ∧ ((Cond.fieldLink own i (q.2.1 k).1 (q.2.1 k).2.1 (q.2.1 k).2.2.1) ∈ zBig ∨ ∃ host, (Cond.fieldLinkNest own i (q.2.1 k).1 (q.2.1 k).2.1 (q.2.1 k).2.2.1 host) ∈ zNests)
def zP (ci k : Nat) (ty : FieldType) : Prop := ∃ (q : vw_C) (ty0 : Nat → FieldType), vwCl[ci]? = some q ∧ (∀ k, k < q.2.2 → parseFieldDescriptor (q.2.1 k).2.2.1 = some (ty0 k)) ∧ (∀ a, a < q.2.2 → ∀ b, b < q.2.2 → a ≠ b → (q.2.1 a).2.1 ≠ (q.2.1 b).2.1) ∧ (q.2.1 k).2.2.2 = false ∧ parseFieldDescriptor (q.2.1 k).2.2.1 = some ty
theorem r_getf {Y : zM} {d : Nat} {sc : Option (Nat × (Nat → Int32))} {pc pc' : Nat} {ls st : List Value} {h : List zC} {Q : Option Int32 → List zC → Prop} {i ci k a : Nat} {fs : List Value} {v : Value} (hd : zd Y pc (.getfield i) 3 pc') (hf : zF Y.1.cls i ci k) (hh : zn h a = some (zO ci fs)) (hv : zn fs k = some v) (kk : Rq Y d sc pc' ls (v :: st) h Q) : Rq Y d sc pc ls (.ref a :: st) h Q := by
  intro p l e R s m args below meth c Z ad D cA cB A cells slots C hret H locs arr hI hL
  obtain ⟨hd, rfl⟩ := hd
  obtain ⟨⟨C1, T, N⟩, hc, hk, hin, hl⟩ := hf
  obtain ⟨hx, hb, hml, hown, hts, hK, hX, hA, hR, hsc⟩ := id C
  rcases hl with hl | ⟨host, hl⟩
  · exact va_get hx hb hts hin hown hK hI.1 a (zW_get hh) hc k hk (hts _ hl) (fun _ h9 => h9) (zV_map_get hv) hd (kk p l e R s m args below meth c Z ad D cA cB A cells slots C hret H locs arr hI hL)
  · exact va_getN hx hb hts hin hown hK hI.1 a (zW_get hh) hc k hk (va_Nw.use rfl (hX.1 _ hl)) (fun _ h9 => h9) (zV_map_get hv) hd (kk p l e R s m args below meth c Z ad D cA cB A cells slots C hret H locs arr hI hL)
theorem r_putf {Y : zM} {d : Nat} {sc : Option (Nat × (Nat → Int32))} {pc pc' : Nat} {ls st : List Value} {h : List zC} {Q : Option Int32 → List zC → Prop} {i ci k a : Nat} {fs : List Value} {v : Value} {ty : FieldType} (hd : zd Y pc (.putfield i) 3 pc') (hf : zF Y.1.cls i ci k) (hp : zP ci k ty) (hh : zn h a = some (zO ci fs)) (hn : ∀ ad, narrow ty (zV ad v) = zV ad v ∧ fits ty (zV ad v) = true) (hl2 : k < fs.length) (kk : Rq Y d sc pc' ls st (zs h a (zO ci (zs fs k v))) Q) : Rq Y d sc pc ls (v :: .ref a :: st) h Q := by
  intro p l e R s m args below meth c Z ad D cA cB A cells slots C hret H locs arr hI hL
  obtain ⟨hd, rfl⟩ := hd
  obtain ⟨⟨C1, T, N⟩, hc, hk, hin, hl⟩ := hf
  obtain ⟨⟨C2, T2, N2⟩, ty0, hc2, hty, hnm, hfin, hpd⟩ := hp
  cases hc.symm.trans hc2
  obtain ⟨hx, hb, hml, hown, hts, hK, hX, hA, hR, hsc⟩ := id C
  obtain ⟨hP, hD, hS⟩ := hI
  have e0 : (ad a, (Sum.inr (ci, (fs.map (zV ad)).set k (zV ad v)) : va_E)) = (ad a, zE ad cA cB (zO ci (zs fs k v))) := by
    show _ = (ad a, (Sum.inr (ci, (zs fs k v).map (zV ad)) : va_E))
    rw [zV_map_set]
  have go : ∀ (H1 : Heap) (locs1 : List Loc), va_P D vwCl ((zW ad cA cB h).set a (ad a, .inr (ci, (fs.map (zV ad)).set k (zV ad v)))) H1 → va_D A ((zW ad cA cB h).set a (ad a, .inr (ci, (fs.map (zV ad)).set k (zV ad v)))) → va_S A s.heap H1 locs1 → W p l e R s m args below meth c H1 locs1 cells slots Z (F0 m (pc + 3) arr (st.map (zV ad))) := by
    intro H1 locs1 hP1 hD1 hS1
    rw [e0, ← zW_set] at hP1 hD1
    exact kk p l e R s m args below meth c Z ad D cA cB A cells slots C hret H1 locs1 arr ⟨hP1, hD1, hS1⟩ hL
  have hl3 : k < (fs.map (zV ad)).length := by rw [List.length_map]; exact hl2
  rcases hl with hl | ⟨host, hl⟩
  · exact va_put hx hb hts hin ty0 hty hnm hown hK hP hD hS a (zW_get hh) hc k hk (hts _ hl) (fun _ h9 => h9) hfin hpd (hn ad).1 (hn ad).2 hl3 hd go
  · exact va_putN hx hb hts hin ty0 hty hnm hown hK hP hD hS a (zW_get hh) hc k hk (va_Nw.use rfl (hX.1 _ hl)) (fun _ h9 => h9) hfin hpd (hn ad).1 (hn ad).2 hl3 hd go
theorem r_iald {Y : zM} {d : Nat} {sc : Option (Nat × (Nat → Int32))} {pc pc' : Nat} {ls st : List Value} {h : List zC} {Q : Option Int32 → List zC → Prop} {a n j : Nat} {f : Nat → Int32} {x : Int32} (hd : zd Y pc .iaload 1 pc') (hh : zn h a = some (zI n f)) (hx : x = nI j) (hj : j < n) (hn : n < 2 ^ 31) (kk : Rq Y d sc pc' ls (.int (f j) :: st) h Q) : Rq Y d sc pc ls (.int x :: .ref a :: st) h Q := by
  intro p l e R s m args below meth c Z ad D cA cB A cells slots C hret H locs arr hI hL
  obtain ⟨hd, rfl⟩ := hd
  subst hx
  refine va_iald (a := ad a) (i := nI j) C.1 C.2.1 C.2.2.2.2.2.1 hI.1 a 0 (zW_get hh) rfl (vp_in_nI hj hn) hd ?_
  rw [nI_clamp (Nat.lt_trans hj hn)]
  exact kk p l e R s m args below meth c Z ad D cA cB A cells slots C hret H locs arr hI hL
theorem r_iast {Y : zM} {d : Nat} {sc : Option (Nat × (Nat → Int32))} {pc pc' : Nat} {ls st : List Value} {h : List zC} {Q : Option Int32 → List zC → Prop} {a n j : Nat} {f : Nat → Int32} {x v : Int32} (hd : zd Y pc .iastore 1 pc') (hh : zn h a = some (zI n f)) (hx : x = nI j) (hj : j < n) (hn : n < 2 ^ 31) (kk : Rq Y d sc pc' ls st (zs h a (zI n (upd f j v))) Q) : Rq Y d sc pc ls (.int v :: .int x :: .ref a :: st) h Q := by
  intro p l e R s m args below meth c Z ad D cA cB A cells slots C hret H locs arr hI hL
  obtain ⟨hd, rfl⟩ := hd
  subst hx
  obtain ⟨hP, hD, hS⟩ := hI
  refine va_iast (a := ad a) (i := nI j) C.1 C.2.1 C.2.2.2.2.2.1 hP hD hS a 0 (zW_get hh) rfl (vp_in_nI hj hn) hd (fun H1 locs1 hP1 hD1 hS1 => ?_)
  rw [nI_clamp (Nat.lt_trans hj hn)] at hP1 hD1
  refine kk p l e R s m args below meth c Z ad D cA cB A cells slots C hret H1 locs1 arr ⟨?_, ?_, hS1⟩ hL
  · rw [zW_set]; exact hP1
  · rw [zW_set]; exact hD1
theorem r_alen {Y : zM} {d : Nat} {sc : Option (Nat × (Nat → Int32))} {pc pc' : Nat} {ls st : List Value} {h : List zC} {Q : Option Int32 → List zC → Prop} {a n : Nat} {f : Nat → Int32} (hd : zd Y pc .arraylength 1 pc') (hh : zn h a = some (zI n f)) (kk : Rq Y d sc pc' ls (.int (nI n) :: st) h Q) : Rq Y d sc pc ls (.ref a :: st) h Q := by
  intro p l e R s m args below meth c Z ad D cA cB A cells slots C hret H locs arr hI hL
  obtain ⟨hd, rfl⟩ := hd
  exact va_alen (a := ad a) C.1 C.2.1 C.2.2.2.2.2.1 hI.1 a 0 (zW_get hh) rfl rfl hd (kk p l e R s m args below meth c Z ad D cA cB A cells slots C hret H locs arr hI hL)
theorem r_aald {Y : zM} {d : Nat} {sc : Option (Nat × (Nat → Int32))} {pc pc' : Nat} {ls st : List Value} {h : List zC} {Q : Option Int32 → List zC → Prop} {a n j b : Nat} {f : Nat → Option Nat} {x : Int32} (hd : zd Y pc .aaload 1 pc') (hh : zn h a = some (zR n f)) (hx : x = nI j) (hj : j < n) (hn : n < 2 ^ 31) (hb : f j = some b) (kk : Rq Y d sc pc' ls (.ref b :: st) h Q) : Rq Y d sc pc ls (.int x :: .ref a :: st) h Q := by
  intro p l e R s m args below meth c Z ad D cA cB A cells slots C hret H locs arr hI hL
  obtain ⟨hd, rfl⟩ := hd
  subst hx
  have e1 : (nI j).toNatClampNeg = j := nI_clamp (Nat.lt_trans hj hn)
  have hK := C.2.2.2.2.2.1
  exact W.aald (v := .ref (ad b)) (ty := .array .int) C.1 C.2.1 (hI.1 a _ (zW_get hh)) ((hK.2 1 _ rfl).1 n (fun j => va_rf ((f j).map ad))) rfl (fun q => by cases q) (by show ¬ (_ ∨ (arrV _ _ _).slots.size ≤ _); rw [arrV_size]; exact vp_in_nI hj hn) (by show (arrV _ _ _).slots[_]? = _; rw [e1, arrV_read _ _ hj]; show some (va_rf ((f j).map ad)) = _; rw [hb]; rfl) rfl rfl hd (kk p l e R s m args below meth c Z ad D cA cB A cells slots C hret H locs arr hI hL)
theorem r_sld {Y : zM} {d L j : Nat} {xs : Nat → Int32} {pc pc' : Nat} {ls st : List Value} {h : List zC} {Q : Option Int32 → List zC → Prop} {x : Int32} (hd : zd Y pc .iaload 1 pc') (hx : x = nI j) (hj : j < L) (hn : L < 2 ^ 31) (kk : Rq Y d (some (L, xs)) pc' ls (.int (xs j) :: st) h Q) : Rq Y d (some (L, xs)) pc ls (.int x :: .ref 999 :: st) h Q := by
  intro p l e R s m args below meth c Z ad D cA cB A cells slots C hret H locs arr hI hL
  obtain ⟨hd, rfl⟩ := hd
  subst hx
  obtain ⟨g1, g2, g3⟩ := C.2.2.2.2.2.2.2.2.2 L xs rfl
  refine va_sld (i := nI j) C.1 C.2.1 g1 g2 g3 hI.2.2 (vp_in_nI hj hn) hd ?_
  rw [nI_clamp (Nat.lt_trans hj hn)]
  exact kk p l e R s m args below meth c Z ad D cA cB A cells slots C hret H locs arr hI hL
theorem r_slen {Y : zM} {d L : Nat} {xs : Nat → Int32} {pc pc' : Nat} {ls st : List Value} {h : List zC} {Q : Option Int32 → List zC → Prop} (hd : zd Y pc .arraylength 1 pc') (kk : Rq Y d (some (L, xs)) pc' ls (.int (nI L) :: st) h Q) : Rq Y d (some (L, xs)) pc ls (.ref 999 :: st) h Q := by
  intro p l e R s m args below meth c Z ad D cA cB A cells slots C hret H locs arr hI hL
  obtain ⟨hd, rfl⟩ := hd
  obtain ⟨g1, g2, g3⟩ := C.2.2.2.2.2.2.2.2.2 L xs rfl
  exact va_slen C.1 C.2.1 g1 g2 g3 hI.2.2 hd (kk p l e R s m args below meth c Z ad D cA cB A cells slots C hret H locs arr hI hL)
theorem r_iret {Y : zM} {d : Nat} {sc : Option (Nat × (Nat → Int32))} {pc pc' : Nat} {ls st : List Value} {h : List zC} {Q : Option Int32 → List zC → Prop} {ty : FieldType} {x : Int32} (hd : zd Y pc .ireturn 1 pc') (hty : Y.2.2.2 = some ty) (hn : narrow ty (.int x) = .int x) (hq : Q (some x) h) : Rq Y d sc pc ls [.int x] h Q := by
  intro p l e R s m args below meth c Z ad D cA cB A cells slots C hret H locs arr hI hL
  exact hret (some x) h H locs arr pc hq hI ⟨hd.1, ty, hty, hn⟩
theorem r_vret {Y : zM} {d : Nat} {sc : Option (Nat × (Nat → Int32))} {pc pc' : Nat} {ls st : List Value} {h : List zC} {Q : Option Int32 → List zC → Prop} (hd : zd Y pc .return_ 1 pc') (hq : Q none h) : Rq Y d sc pc ls [] h Q := by
  intro p l e R s m args below meth c Z ad D cA cB A cells slots C hret H locs arr hI hL
  exact hret none h H locs arr pc hq hI hd.1
/-- a virtual call's link -/
def zLv (own : String) (i : Nat) (Y : zM) (n : Nat) : Prop := (∀ w ∈ wsV own i Y.1.cls Y.1 [Cond.code Y.1 Y.2.1 Y.2.2.1 Y.2.2.2], w ∈ zBig) ∧ (Y.1.cls = Y.1.cls ∧ Y.1.cls ≠ "java/lang/invoke/MethodHandle" ∧ Y.1.cls ≠ "java/lang/invoke/VarHandle" ∧ (parseMethodDescriptor Y.1.desc).map (fun d => d.parameters.length) = some n) ∧ Y.2.2.1 ≤ 40
def zLs (own : String) (i : Nat) (Y : zM) (n : Nat) : Prop := (∀ w ∈ va_wsS own i Y.1 [Cond.code Y.1 Y.2.1 Y.2.2.1 Y.2.2.2], w ∈ zBig) ∧ (Y.1.cls ≠ "java/lang/invoke/MethodHandle" ∧ Y.1.cls ≠ "java/lang/invoke/VarHandle" ∧ (parseMethodDescriptor Y.1.desc).map (fun d => d.parameters.length) = some n) ∧ Y.2.2.1 ≤ 40
theorem zGood {ws : List Cond} (h : ∀ w ∈ ws, w ∈ zBig) : GoodIn zBig ws := fun w hw => ⟨h w hw, good_of_word (zBig_good (h w hw))⟩
theorem zGoodV {own : String} {i : Nat} {Y : zM} (h : ∀ w ∈ wsV own i Y.1.cls Y.1 [Cond.code Y.1 Y.2.1 Y.2.2.1 Y.2.2.2], w ∈ zBig) : GoodIn zBig (wsV own i Y.1.cls Y.1 (zWs Y)) := zGood fun w hw => by
  rcases List.mem_append.mp hw with h1 | h1
  · exact h w (List.mem_append_left _ h1)
  · rcases List.mem_cons.mp h1 with h2 | h2
    · exact h w (List.mem_append_right _ (by rw [h2]; exact List.mem_cons_self))
    · exact h2
theorem zGoodS {own : String} {i : Nat} {Y : zM} (h : ∀ w ∈ va_wsS own i Y.1 [Cond.code Y.1 Y.2.1 Y.2.2.1 Y.2.2.2], w ∈ zBig) : GoodIn zBig (va_wsS own i Y.1 (zWs Y)) := zGood fun w hw => by
  rcases List.mem_append.mp hw with h1 | h1
  · exact h w (List.mem_append_left _ h1)
  · rcases List.mem_cons.mp h1 with h2 | h2
    · exact h w (List.mem_append_right _ (by rw [h2]; exact List.mem_cons_self))
    · exact h2
theorem zA_sub {ad : Nat → Nat} {D : va_G} {cA cB : ClassId} {h : List zC} {s : State} {A : Nat → Prop} {H : Heap} {locs : List Loc} (hI : zInv ad D cA cB h s A H locs) (hA : ∀ q, s.heap.size ≤ q → A q) : ∀ q, va_A (zW ad cA cB h) H.size q → A q := by
  intro q hq
  rcases hq with ⟨k, e, hq⟩ | hq
  · exact hI.2.1.2 k (q, e) hq
  · exact hA q (Nat.le_trans hI.2.2.1 hq)
theorem zPre {Y : zM} {d : Nat} {sc : Option (Nat × (Nat → Int32))} {p : Program} {R : Room} {s : State} {m : MethodId} {args : Array Value} {c : Code} {ad : Nat → Nat} {D : va_G} {cA cB : ClassId} {A : Nat → Prop} {cells slots : Nat} {h : List zC} {H : Heap} {locs : List Loc} {As : List Value} (C : zCtx Y d sc p R s m args c ad D cA cB A cells slots) (hI : zInv ad D cA cB h s A H locs) :
    ∀ U : State, U.heap = H → s.WarmedH U.vm → (va_Pc As (zPB ad D cA cB h H.size)) As.toArray U := by
  intro U hU hW
  obtain ⟨hP, hD, hS⟩ := id hI
  obtain ⟨hx, hb, hml, hown, hts, hK, hX, hA, hR, hsc⟩ := C
  refine ⟨rfl, by rw [hU], by rw [hU]; exact hP, va_K.moved hW.alike hK, hD.weaken (fun _ _ _ _ => trivial), ?_⟩
  rw [hU]
  exact ((hX.warm hW).kept (H1 := H) (fun a h1 h2 => hS.2.1 a h1 h2)).narrow (zA_sub hI hA)
theorem zJoin {ad : Nat → Nat} {D : va_G} {cA cB : ClassId} {h h1 : List zC} {s t : State} {A : Nat → Prop} {H H1 : Heap} {locs locs1 : List Loc} (hI : zInv ad D cA cB h s A H locs) (hA : ∀ q, s.heap.size ≤ q → A q) (hB : zQB ad D cA cB h H.size h1 t) (ht : t.heap = H1) (hS : va_S A s.heap H1 locs1) : zInv ad D cA cB h1 s A H1 locs1 := by
  obtain ⟨q1, -, q3⟩ := hB
  rw [ht] at q1
  exact ⟨q1, q3.weaken (fun _ q _ hq => zA_sub hI hA q.1 hq), hS⟩
/-- the receiver is an object of the method's class, or the text constant -/
def zR1 (Y : zM) (h : List zC) (k : Nat) : Prop := (∃ (ci : Nat) (fs : List Value) (q : vw_C), zn h k = some (zO ci fs) ∧ vwCl[ci]? = some q ∧ q.1 = Y.1.cls) ∨ (k = 1000 ∧ Y.1.cls = "java/lang/String")
theorem zRecv {Y Y' : zM} {d : Nat} {sc : Option (Nat × (Nat → Int32))} {p : Program} {R : Room} {s : State} {m : MethodId} {args : Array Value} {c : Code} {ad : Nat → Nat} {D : va_G} {cA cB : ClassId} {A : Nat → Prop} {cells slots k : Nat} {h : List zC} {H : Heap} {locs : List Loc} (C : zCtx Y d sc p R s m args c ad D cA cB A cells slots) (hI : zInv ad D cA cB h s A H locs) (hr : zR1 Y' h k) :
    ∃ cellB : Cell, H[ad k]? = some cellB ∧ cellB.vm.isStatics = false ∧ s.vm.findClass Y'.1.cls = some cellB.cls := by
  obtain ⟨hx, hb, hml, hown, hts, hK, hX, hA, hR, hsc⟩ := C
  rcases hr with ⟨ci, fs, q, h1, h2, h3⟩ | ⟨rfl, h2⟩
  · rw [← h3]
    exact va_recv hK hI.1 h2 (zW_get h1)
  · rw [h2]
    exact vk_recv (i := 0) hX.2.1 (by decide) hI.2.2
theorem r_callVi {Y : zM} {d : Nat} {sc : Option (Nat × (Nat → Int32))} {pc pc' : Nat} {ls st : List Value} {h : List zC} {Q : Option Int32 → List zC → Prop} {Y' : zM} {d' i : Nat} {Q' : Int32 → List zC → Prop} {As : List Value} {k : Nat} (hd : zd Y pc (.invokevirtual i) 3 pc') (hm : zLv Y.1.cls i Y' As.length) (hr : zR1 Y' h k) (hM : Mi Y' d' (.ref k :: As) h Q') (hdd : d' + 1 ≤ d) (hst : (st.map fun v => v.category).sum ≤ 8) (kk : ∀ (r : Int32) (h1 : List zC), Q' r h1 → Rq Y d sc pc' ls (.int r :: st) h1 Q) : Rq Y d sc pc ls (As.reverse ++ .ref k :: st) h Q := by
  intro p l e R s m args below meth c Z ad D cA cB A cells slots C hret H locs arr hI hL
  obtain ⟨hd, rfl⟩ := hd
  obtain ⟨hx, hb, hml, hown, hts, hK, hX, hA, hR, hsc⟩ := id C
  obtain ⟨m1, m2, m3⟩ := hm
  have hroom : (zRm d').frames + 1 ≤ R.frames ∧ 8 + (Y'.2.2.1 + 11) + (zRm d').locals ≤ R.locals := by
    have h1 : (zRm d').frames = d' := rfl
    have h2 : (zRm d').locals = 100 * d' := rfl
    omega
  refine va_calli (va_runV (As := As.map (zV ad)) (rest := st.map (zV ad)) (b := ad k) ⟨hx, hb, hml, hown, hts⟩ (hM l ad D cA cB H.size) (cwV As.length hts (zGoodV m1) rfl rfl rfl m2 hroom) ⟨zBlind, zRecv C hI hr, zPre (As := (.ref (ad k) :: As.map (zV ad))) C hI⟩ rfl (List.length_map ..) hL.1 (by rw [List.map_append, List.map_reverse]; rfl) (lv_room (by rw [zV_sum]; exact hst)) hd ⟨hR.2.2.1, hR.2.2.2⟩) hI.2.2 (fun q _ hq => zA_sub hI hA q hq) (zA_sub hI hA) (fun r h1 t H1 locs1 ht hvm hw hB hz1 hk1 hS1 => ?_)
  exact kk r h1 hw p l e R s m args below meth c Z ad D cA cB A cells slots C hret H1 locs1 arr (zJoin hI hA hB ht hS1) hL
theorem r_callVv {Y : zM} {d : Nat} {sc : Option (Nat × (Nat → Int32))} {pc pc' : Nat} {ls st : List Value} {h : List zC} {Q : Option Int32 → List zC → Prop} {Y' : zM} {d' i : Nat} {Q' : List zC → Prop} {As : List Value} {k : Nat} (hd : zd Y pc (.invokevirtual i) 3 pc') (hm : zLv Y.1.cls i Y' As.length) (hr : zR1 Y' h k) (hM : Mv Y' d' (.ref k :: As) h Q') (hdd : d' + 1 ≤ d) (hst : (st.map fun v => v.category).sum ≤ 8) (kk : ∀ (h1 : List zC), Q' h1 → Rq Y d sc pc' ls st h1 Q) : Rq Y d sc pc ls (As.reverse ++ .ref k :: st) h Q := by
  intro p l e R s m args below meth c Z ad D cA cB A cells slots C hret H locs arr hI hL
  obtain ⟨hd, rfl⟩ := hd
  obtain ⟨hx, hb, hml, hown, hts, hK, hX, hA, hR, hsc⟩ := id C
  obtain ⟨m1, m2, m3⟩ := hm
  have hroom : (zRm d').frames + 1 ≤ R.frames ∧ 8 + (Y'.2.2.1 + 11) + (zRm d').locals ≤ R.locals := by
    have h1 : (zRm d').frames = d' := rfl
    have h2 : (zRm d').locals = 100 * d' := rfl
    omega
  refine va_callv (va_runV (As := As.map (zV ad)) (rest := st.map (zV ad)) (b := ad k) ⟨hx, hb, hml, hown, hts⟩ (hM l ad D cA cB H.size) (cwV As.length hts (zGoodV m1) rfl rfl rfl m2 hroom) ⟨zBlind, zRecv C hI hr, zPre (As := (.ref (ad k) :: As.map (zV ad))) C hI⟩ rfl (List.length_map ..) hL.1 (by rw [List.map_append, List.map_reverse]; rfl) (lv_room (by rw [zV_sum]; exact hst)) hd ⟨hR.2.2.1, hR.2.2.2⟩) hI.2.2 (fun q _ hq => zA_sub hI hA q hq) (zA_sub hI hA) (fun h1 t H1 locs1 ht hvm hw hB hz1 hk1 hS1 => ?_)
  exact kk h1 hw p l e R s m args below meth c Z ad D cA cB A cells slots C hret H1 locs1 arr (zJoin hI hA hB ht hS1) hL
theorem r_callSi {Y : zM} {d : Nat} {sc : Option (Nat × (Nat → Int32))} {pc pc' : Nat} {ls st : List Value} {h : List zC} {Q : Option Int32 → List zC → Prop} {Y' : zM} {d' i : Nat} {Q' : Int32 → List zC → Prop} {As : List Value} (hd : zd Y pc (.invokestatic i) 3 pc') (hm : zLs Y.1.cls i Y' As.length) (hM : Mi Y' d' As h Q') (hdd : d' + 1 ≤ d) (hst : (st.map fun v => v.category).sum ≤ 8) (kk : ∀ (r : Int32) (h1 : List zC), Q' r h1 → Rq Y d sc pc' ls (.int r :: st) h1 Q) : Rq Y d sc pc ls (As.reverse ++ st) h Q := by
  intro p l e R s m args below meth c Z ad D cA cB A cells slots C hret H locs arr hI hL
  obtain ⟨hd, rfl⟩ := hd
  obtain ⟨hx, hb, hml, hown, hts, hK, hX, hA, hR, hsc⟩ := id C
  obtain ⟨m1, m2, m3⟩ := hm
  have hroom : (zRm d').frames + 1 ≤ R.frames ∧ 8 + (Y'.2.2.1 + 11) + (zRm d').locals ≤ R.locals := by
    have h1 : (zRm d').frames = d' := rfl
    have h2 : (zRm d').locals = 100 * d' := rfl
    omega
  refine va_calli (va_runS (As := As.map (zV ad)) (rest := st.map (zV ad)) ⟨hx, hb, hml, hown, hts⟩ (hM l ad D cA cB H.size) (va_cwS As.length hts (zGoodS m1) rfl rfl rfl m2 hroom) ⟨zBlind, zPre C hI⟩ rfl (List.length_map ..) hL.1 (by rw [List.map_append, List.map_reverse]) (lv_room (by rw [zV_sum]; exact hst)) hd ⟨hR.2.2.1, hR.2.2.2⟩) hI.2.2 (fun q _ hq => zA_sub hI hA q hq) (zA_sub hI hA) (fun r h1 t H1 locs1 ht hvm hw hB hz1 hk1 hS1 => ?_)
  exact kk r h1 hw p l e R s m args below meth c Z ad D cA cB A cells slots C hret H1 locs1 arr (zJoin hI hA hB ht hS1) hL
theorem r_callSv {Y : zM} {d : Nat} {sc : Option (Nat × (Nat → Int32))} {pc pc' : Nat} {ls st : List Value} {h : List zC} {Q : Option Int32 → List zC → Prop} {Y' : zM} {d' i : Nat} {Q' : List zC → Prop} {As : List Value} (hd : zd Y pc (.invokestatic i) 3 pc') (hm : zLs Y.1.cls i Y' As.length) (hM : Mv Y' d' As h Q') (hdd : d' + 1 ≤ d) (hst : (st.map fun v => v.category).sum ≤ 8) (kk : ∀ (h1 : List zC), Q' h1 → Rq Y d sc pc' ls st h1 Q) : Rq Y d sc pc ls (As.reverse ++ st) h Q := by
  intro p l e R s m args below meth c Z ad D cA cB A cells slots C hret H locs arr hI hL
  obtain ⟨hd, rfl⟩ := hd
  obtain ⟨hx, hb, hml, hown, hts, hK, hX, hA, hR, hsc⟩ := id C
  obtain ⟨m1, m2, m3⟩ := hm
  have hroom : (zRm d').frames + 1 ≤ R.frames ∧ 8 + (Y'.2.2.1 + 11) + (zRm d').locals ≤ R.locals := by
    have h1 : (zRm d').frames = d' := rfl
    have h2 : (zRm d').locals = 100 * d' := rfl
    omega
  refine va_callv (va_runS (As := As.map (zV ad)) (rest := st.map (zV ad)) ⟨hx, hb, hml, hown, hts⟩ (hM l ad D cA cB H.size) (va_cwS As.length hts (zGoodS m1) rfl rfl rfl m2 hroom) ⟨zBlind, zPre C hI⟩ rfl (List.length_map ..) hL.1 (by rw [List.map_append, List.map_reverse]) (lv_room (by rw [zV_sum]; exact hst)) hd ⟨hR.2.2.1, hR.2.2.2⟩) hI.2.2 (fun q _ hq => zA_sub hI hA q hq) (zA_sub hI hA) (fun h1 t H1 locs1 ht hvm hw hB hz1 hk1 hS1 => ?_)
  exact kk h1 hw p l e R s m args below meth c Z ad D cA cB A cells slots C hret H1 locs1 arr (zJoin hI hA hB ht hS1) hL
theorem r_callVi0 {Y : zM} {d : Nat} {sc : Option (Nat × (Nat → Int32))} {pc pc' : Nat} {ls st : List Value} {h : List zC} {Q : Option Int32 → List zC → Prop} {Y' : zM} {d' i : Nat} {Q' : Int32 → List zC → Prop} {k : Nat} (hd : zd Y pc (.invokevirtual i) 3 pc') (hm : zLv Y.1.cls i Y' 0) (hr : zR1 Y' h k) (hM : Mi Y' d' ([.ref k]) h Q') (hdd : d' + 1 ≤ d) (hst : (st.map fun v => v.category).sum ≤ 8) (kk : ∀ (r : Int32) (h1 : List zC), Q' r h1 → Rq Y d sc pc' ls (.int r :: st) h1 Q) : Rq Y d sc pc ls (.ref k :: st) h Q := r_callVi (As := []) hd hm hr hM hdd hst kk
theorem r_callVi1 {Y : zM} {d : Nat} {sc : Option (Nat × (Nat → Int32))} {pc pc' : Nat} {ls st : List Value} {h : List zC} {Q : Option Int32 → List zC → Prop} {Y' : zM} {d' i : Nat} {Q' : Int32 → List zC → Prop} {v1 : Value} {k : Nat} (hd : zd Y pc (.invokevirtual i) 3 pc') (hm : zLv Y.1.cls i Y' 1) (hr : zR1 Y' h k) (hM : Mi Y' d' (.ref k :: [v1]) h Q') (hdd : d' + 1 ≤ d) (hst : (st.map fun v => v.category).sum ≤ 8) (kk : ∀ (r : Int32) (h1 : List zC), Q' r h1 → Rq Y d sc pc' ls (.int r :: st) h1 Q) : Rq Y d sc pc ls (v1 :: .ref k :: st) h Q := r_callVi (As := [v1]) hd hm hr hM hdd hst kk
theorem r_callVi2 {Y : zM} {d : Nat} {sc : Option (Nat × (Nat → Int32))} {pc pc' : Nat} {ls st : List Value} {h : List zC} {Q : Option Int32 → List zC → Prop} {Y' : zM} {d' i : Nat} {Q' : Int32 → List zC → Prop} {v1 v2 : Value} {k : Nat} (hd : zd Y pc (.invokevirtual i) 3 pc') (hm : zLv Y.1.cls i Y' 2) (hr : zR1 Y' h k) (hM : Mi Y' d' (.ref k :: [v1, v2]) h Q') (hdd : d' + 1 ≤ d) (hst : (st.map fun v => v.category).sum ≤ 8) (kk : ∀ (r : Int32) (h1 : List zC), Q' r h1 → Rq Y d sc pc' ls (.int r :: st) h1 Q) : Rq Y d sc pc ls (v2 :: v1 :: .ref k :: st) h Q := r_callVi (As := [v1, v2]) hd hm hr hM hdd hst kk
theorem r_callVi3 {Y : zM} {d : Nat} {sc : Option (Nat × (Nat → Int32))} {pc pc' : Nat} {ls st : List Value} {h : List zC} {Q : Option Int32 → List zC → Prop} {Y' : zM} {d' i : Nat} {Q' : Int32 → List zC → Prop} {v1 v2 v3 : Value} {k : Nat} (hd : zd Y pc (.invokevirtual i) 3 pc') (hm : zLv Y.1.cls i Y' 3) (hr : zR1 Y' h k) (hM : Mi Y' d' (.ref k :: [v1, v2, v3]) h Q') (hdd : d' + 1 ≤ d) (hst : (st.map fun v => v.category).sum ≤ 8) (kk : ∀ (r : Int32) (h1 : List zC), Q' r h1 → Rq Y d sc pc' ls (.int r :: st) h1 Q) : Rq Y d sc pc ls (v3 :: v2 :: v1 :: .ref k :: st) h Q := r_callVi (As := [v1, v2, v3]) hd hm hr hM hdd hst kk
theorem r_callVv0 {Y : zM} {d : Nat} {sc : Option (Nat × (Nat → Int32))} {pc pc' : Nat} {ls st : List Value} {h : List zC} {Q : Option Int32 → List zC → Prop} {Y' : zM} {d' i : Nat} {Q' : List zC → Prop} {k : Nat} (hd : zd Y pc (.invokevirtual i) 3 pc') (hm : zLv Y.1.cls i Y' 0) (hr : zR1 Y' h k) (hM : Mv Y' d' ([.ref k]) h Q') (hdd : d' + 1 ≤ d) (hst : (st.map fun v => v.category).sum ≤ 8) (kk : ∀ (h1 : List zC), Q' h1 → Rq Y d sc pc' ls st h1 Q) : Rq Y d sc pc ls (.ref k :: st) h Q := r_callVv (As := []) hd hm hr hM hdd hst kk
theorem r_callVv1 {Y : zM} {d : Nat} {sc : Option (Nat × (Nat → Int32))} {pc pc' : Nat} {ls st : List Value} {h : List zC} {Q : Option Int32 → List zC → Prop} {Y' : zM} {d' i : Nat} {Q' : List zC → Prop} {v1 : Value} {k : Nat} (hd : zd Y pc (.invokevirtual i) 3 pc') (hm : zLv Y.1.cls i Y' 1) (hr : zR1 Y' h k) (hM : Mv Y' d' (.ref k :: [v1]) h Q') (hdd : d' + 1 ≤ d) (hst : (st.map fun v => v.category).sum ≤ 8) (kk : ∀ (h1 : List zC), Q' h1 → Rq Y d sc pc' ls st h1 Q) : Rq Y d sc pc ls (v1 :: .ref k :: st) h Q := r_callVv (As := [v1]) hd hm hr hM hdd hst kk
theorem r_callVv2 {Y : zM} {d : Nat} {sc : Option (Nat × (Nat → Int32))} {pc pc' : Nat} {ls st : List Value} {h : List zC} {Q : Option Int32 → List zC → Prop} {Y' : zM} {d' i : Nat} {Q' : List zC → Prop} {v1 v2 : Value} {k : Nat} (hd : zd Y pc (.invokevirtual i) 3 pc') (hm : zLv Y.1.cls i Y' 2) (hr : zR1 Y' h k) (hM : Mv Y' d' (.ref k :: [v1, v2]) h Q') (hdd : d' + 1 ≤ d) (hst : (st.map fun v => v.category).sum ≤ 8) (kk : ∀ (h1 : List zC), Q' h1 → Rq Y d sc pc' ls st h1 Q) : Rq Y d sc pc ls (v2 :: v1 :: .ref k :: st) h Q := r_callVv (As := [v1, v2]) hd hm hr hM hdd hst kk
theorem r_callVv3 {Y : zM} {d : Nat} {sc : Option (Nat × (Nat → Int32))} {pc pc' : Nat} {ls st : List Value} {h : List zC} {Q : Option Int32 → List zC → Prop} {Y' : zM} {d' i : Nat} {Q' : List zC → Prop} {v1 v2 v3 : Value} {k : Nat} (hd : zd Y pc (.invokevirtual i) 3 pc') (hm : zLv Y.1.cls i Y' 3) (hr : zR1 Y' h k) (hM : Mv Y' d' (.ref k :: [v1, v2, v3]) h Q') (hdd : d' + 1 ≤ d) (hst : (st.map fun v => v.category).sum ≤ 8) (kk : ∀ (h1 : List zC), Q' h1 → Rq Y d sc pc' ls st h1 Q) : Rq Y d sc pc ls (v3 :: v2 :: v1 :: .ref k :: st) h Q := r_callVv (As := [v1, v2, v3]) hd hm hr hM hdd hst kk
theorem r_callSi1 {Y : zM} {d : Nat} {sc : Option (Nat × (Nat → Int32))} {pc pc' : Nat} {ls st : List Value} {h : List zC} {Q : Option Int32 → List zC → Prop} {Y' : zM} {d' i : Nat} {Q' : Int32 → List zC → Prop} {v1 : Value} (hd : zd Y pc (.invokestatic i) 3 pc') (hm : zLs Y.1.cls i Y' 1) (hM : Mi Y' d' [v1] h Q') (hdd : d' + 1 ≤ d) (hst : (st.map fun v => v.category).sum ≤ 8) (kk : ∀ (r : Int32) (h1 : List zC), Q' r h1 → Rq Y d sc pc' ls (.int r :: st) h1 Q) : Rq Y d sc pc ls (v1 :: st) h Q := r_callSi (As := [v1]) hd hm hM hdd hst kk
theorem r_callSi2 {Y : zM} {d : Nat} {sc : Option (Nat × (Nat → Int32))} {pc pc' : Nat} {ls st : List Value} {h : List zC} {Q : Option Int32 → List zC → Prop} {Y' : zM} {d' i : Nat} {Q' : Int32 → List zC → Prop} {v1 v2 : Value} (hd : zd Y pc (.invokestatic i) 3 pc') (hm : zLs Y.1.cls i Y' 2) (hM : Mi Y' d' [v1, v2] h Q') (hdd : d' + 1 ≤ d) (hst : (st.map fun v => v.category).sum ≤ 8) (kk : ∀ (r : Int32) (h1 : List zC), Q' r h1 → Rq Y d sc pc' ls (.int r :: st) h1 Q) : Rq Y d sc pc ls (v2 :: v1 :: st) h Q := r_callSi (As := [v1, v2]) hd hm hM hdd hst kk
theorem r_callSi3 {Y : zM} {d : Nat} {sc : Option (Nat × (Nat → Int32))} {pc pc' : Nat} {ls st : List Value} {h : List zC} {Q : Option Int32 → List zC → Prop} {Y' : zM} {d' i : Nat} {Q' : Int32 → List zC → Prop} {v1 v2 v3 : Value} (hd : zd Y pc (.invokestatic i) 3 pc') (hm : zLs Y.1.cls i Y' 3) (hM : Mi Y' d' [v1, v2, v3] h Q') (hdd : d' + 1 ≤ d) (hst : (st.map fun v => v.category).sum ≤ 8) (kk : ∀ (r : Int32) (h1 : List zC), Q' r h1 → Rq Y d sc pc' ls (.int r :: st) h1 Q) : Rq Y d sc pc ls (v3 :: v2 :: v1 :: st) h Q := r_callSi (As := [v1, v2, v3]) hd hm hM hdd hst kk
theorem r_callSv1 {Y : zM} {d : Nat} {sc : Option (Nat × (Nat → Int32))} {pc pc' : Nat} {ls st : List Value} {h : List zC} {Q : Option Int32 → List zC → Prop} {Y' : zM} {d' i : Nat} {Q' : List zC → Prop} {v1 : Value} (hd : zd Y pc (.invokestatic i) 3 pc') (hm : zLs Y.1.cls i Y' 1) (hM : Mv Y' d' [v1] h Q') (hdd : d' + 1 ≤ d) (hst : (st.map fun v => v.category).sum ≤ 8) (kk : ∀ (h1 : List zC), Q' h1 → Rq Y d sc pc' ls st h1 Q) : Rq Y d sc pc ls (v1 :: st) h Q := r_callSv (As := [v1]) hd hm hM hdd hst kk
theorem r_callSv2 {Y : zM} {d : Nat} {sc : Option (Nat × (Nat → Int32))} {pc pc' : Nat} {ls st : List Value} {h : List zC} {Q : Option Int32 → List zC → Prop} {Y' : zM} {d' i : Nat} {Q' : List zC → Prop} {v1 v2 : Value} (hd : zd Y pc (.invokestatic i) 3 pc') (hm : zLs Y.1.cls i Y' 2) (hM : Mv Y' d' [v1, v2] h Q') (hdd : d' + 1 ≤ d) (hst : (st.map fun v => v.category).sum ≤ 8) (kk : ∀ (h1 : List zC), Q' h1 → Rq Y d sc pc' ls st h1 Q) : Rq Y d sc pc ls (v2 :: v1 :: st) h Q := r_callSv (As := [v1, v2]) hd hm hM hdd hst kk
theorem r_callSv3 {Y : zM} {d : Nat} {sc : Option (Nat × (Nat → Int32))} {pc pc' : Nat} {ls st : List Value} {h : List zC} {Q : Option Int32 → List zC → Prop} {Y' : zM} {d' i : Nat} {Q' : List zC → Prop} {v1 v2 v3 : Value} (hd : zd Y pc (.invokestatic i) 3 pc') (hm : zLs Y.1.cls i Y' 3) (hM : Mv Y' d' [v1, v2, v3] h Q') (hdd : d' + 1 ≤ d) (hst : (st.map fun v => v.category).sum ≤ 8) (kk : ∀ (h1 : List zC), Q' h1 → Rq Y d sc pc' ls st h1 Q) : Rq Y d sc pc ls (v3 :: v2 :: v1 :: st) h Q := r_callSv (As := [v1, v2, v3]) hd hm hM hdd hst kk
/-! the JDK's own: Math.max, min, abs; System.arraycopy; the text constant's fields and bytes; two statics -/
def zLm (own : String) (i : Nat) (nm : MethodName) (b : ByteArray) (n : Nat) : Prop := Cond.methodLink own i nm ∈ zBig ∧ Cond.static nm ∈ zBig ∧ Cond.initialized "java/lang/Math" ∈ zBig ∧ Cond.code nm b n (some .int) ∈ zBig
theorem r_max {Y : zM} {d : Nat} {sc : Option (Nat × (Nat → Int32))} {pc pc' : Nat} {ls st : List Value} {h : List zC} {Q : Option Int32 → List zC → Prop} {i : Nat} {x y : Int32} (hd : zd Y pc (.invokestatic i) 3 pc') (hm : zLm Y.1.cls i Lib.Math.max.name Lib.Math.max.code 2) (h1 : 1 ≤ d) (hst : (st.map fun v => v.category).sum ≤ 8) (kk : Rq Y d sc pc' ls (.int (if x < y then y else x) :: st) h Q) : Rq Y d sc pc ls (.int y :: .int x :: st) h Q := by
  intro p l e R s m args below meth c Z ad D cA cB A cells slots C hret H locs arr hI hL
  obtain ⟨hd, rfl⟩ := hd
  obtain ⟨hx, hb, hml, hown, hts, hK, hX, hA, hR, hsc⟩ := id C
  exact va_mmax hx hb (hml.trans hL.1.symm) hown (hts _ hm.1) (hts _ hm.2.1) (hts _ hm.2.2.1) (hts _ hm.2.2.2) (Nat.le_trans h1 hR.1) (by rw [zV_sum]; omega) hR.2.2.1 hR.2.2.2 hd (kk p l e R s m args below meth c Z ad D cA cB A cells slots C hret H locs arr hI hL)
theorem r_min {Y : zM} {d : Nat} {sc : Option (Nat × (Nat → Int32))} {pc pc' : Nat} {ls st : List Value} {h : List zC} {Q : Option Int32 → List zC → Prop} {i : Nat} {x y : Int32} (hd : zd Y pc (.invokestatic i) 3 pc') (hm : zLm Y.1.cls i Lib.Math.min.name Lib.Math.min.code 2) (h1 : 1 ≤ d) (hst : (st.map fun v => v.category).sum ≤ 8) (kk : Rq Y d sc pc' ls (.int (if y < x then y else x) :: st) h Q) : Rq Y d sc pc ls (.int y :: .int x :: st) h Q := by
  intro p l e R s m args below meth c Z ad D cA cB A cells slots C hret H locs arr hI hL
  obtain ⟨hd, rfl⟩ := hd
  obtain ⟨hx, hb, hml, hown, hts, hK, hX, hA, hR, hsc⟩ := id C
  exact va_mmin hx hb (hml.trans hL.1.symm) hown (hts _ hm.1) (hts _ hm.2.1) (hts _ hm.2.2.1) (hts _ hm.2.2.2) (Nat.le_trans h1 hR.1) (by rw [zV_sum]; omega) hR.2.2.1 hR.2.2.2 hd (kk p l e R s m args below meth c Z ad D cA cB A cells slots C hret H locs arr hI hL)
theorem r_abs {Y : zM} {d : Nat} {sc : Option (Nat × (Nat → Int32))} {pc pc' : Nat} {ls st : List Value} {h : List zC} {Q : Option Int32 → List zC → Prop} {i : Nat} {x : Int32} (hd : zd Y pc (.invokestatic i) 3 pc') (hm : zLm Y.1.cls i Lib.Math.abs.name Lib.Math.abs.code 1) (h1 : 1 ≤ d) (hst : (st.map fun v => v.category).sum ≤ 8) (kk : Rq Y d sc pc' ls (.int (if 0 ≤ x then x else 0 - x) :: st) h Q) : Rq Y d sc pc ls (.int x :: st) h Q := by
  intro p l e R s m args below meth c Z ad D cA cB A cells slots C hret H locs arr hI hL
  obtain ⟨hd, rfl⟩ := hd
  obtain ⟨hx, hb, hml, hown, hts, hK, hX, hA, hR, hsc⟩ := id C
  exact va_mabs hx hb (hml.trans hL.1.symm) hown (hts _ hm.1) (hts _ hm.2.1) (hts _ hm.2.2.1) (hts _ hm.2.2.2) (Nat.le_trans h1 hR.1) (by rw [zV_sum]; omega) hR.2.2.1 hR.2.2.2 hd (kk p l e R s m args below meth c Z ad D cA cB A cells slots C hret H locs arr hI hL)
def zLc (own : String) (i : Nat) : Prop := Cond.methodLink own i arraycopyName ∈ zBig ∧ Cond.native arraycopyName ∈ zBig ∧ Cond.static arraycopyName ∈ zBig ∧ Cond.initialized "java/lang/System" ∈ zBig
theorem r_copy {Y : zM} {d : Nat} {sc : Option (Nat × (Nat → Int32))} {pc pc' : Nat} {ls st : List Value} {h : List zC} {Q : Option Int32 → List zC → Prop} {i a a0 sp dp n n0 n1 : Nat} {f g : Nat → Int32} {x y z : Int32} (hd : zd Y pc (.invokestatic i) 3 pc') (hm : zLc Y.1.cls i) (h1 : 1 ≤ d) (hst : (st.map fun v => v.category).sum ≤ 8) (h0 : zn h a0 = some (zI n0 f)) (ha : zn h a = some (zI n1 g)) (ex : x = nI sp) (ey : y = nI dp) (ez : z = nI n) (b0 : sp + n ≤ n0) (b1 : dp + n ≤ n1) (b2 : n0 < 2 ^ 31) (b3 : n1 < 2 ^ 31)
    (kk : Rq Y d sc pc' ls st (zs h a (zI n1 (va_cpy f g sp dp n))) Q) : Rq Y d sc pc ls (.int z :: .int y :: .ref a :: .int x :: .ref a0 :: st) h Q := by
  intro p l e R s m args below meth c Z ad D cA cB A cells slots C hret H locs arr hI hL
  obtain ⟨hd, rfl⟩ := hd
  subst ex; subst ey; subst ez
  obtain ⟨hx, hb, hml, hown, hts, hK, hX, hA, hR, hsc⟩ := id C
  obtain ⟨hP, hD, hS⟩ := hI
  have e1 : (nI sp).toNatClampNeg = sp := nI_clamp (by omega)
  have e2 : (nI dp).toNatClampNeg = dp := nI_clamp (by omega)
  have e3 : (nI n).toNatClampNeg = n := nI_clamp (by omega)
  refine va_copyi (a := ad a) (a0 := ad a0) (ty := .int) hx hb (hml.trans hL.1.symm) hown (hts _ hm.1) (hts _ hm.2.1) (hts _ hm.2.2.1) (hts _ hm.2.2.2) hK hP hD hS a0 a 0 0 (zW_get h0) (zW_get ha) rfl rfl rfl (sp := nI sp) (dp := nI dp) (n := nI n) (nI_pos (by omega)) (nI_pos (by omega)) (nI_pos (by omega)) (by rw [e1, e3]; exact b0) (by rw [e2, e3]; exact b1) (fun _ _ => rfl) (Nat.le_trans h1 hR.1) ?_ hd (fun H1 locs1 hP1 hD1 hS1 => ?_)
  · rw [zV_sum]
    have hw : nativeFrameWords "java/lang/System" "arraycopy" 5 ≤ 60 := by decide
    omega
  · rw [e1, e2, e3] at hP1 hD1
    refine kk p l e R s m args below meth c Z ad D cA cB A cells slots C hret H1 locs1 arr ⟨?_, ?_, hS1⟩ hL
    · rw [zW_set]; exact hP1
    · rw [zW_set]; exact hD1
theorem r_ldcS {Y : zM} {d : Nat} {sc : Option (Nat × (Nat → Int32))} {pc pc' : Nat} {ls st : List Value} {h : List zC} {Q : Option Int32 → List zC → Prop} (hd : zd Y pc (.ldc 59) 2 pc') (ho : Y.1.cls = "LockedInByNext$Reader") (kk : Rq Y d sc pc' ls (.ref 1000 :: st) h Q) : Rq Y d sc pc ls st h Q := by
  intro p l e R s m args below meth c Z ad D cA cB A cells slots C hret H locs arr hI hL
  obtain ⟨hd, rfl⟩ := hd
  obtain ⟨hx, hb, hml, hown, hts, hK, hX, hA, hR, hsc⟩ := id C
  rw [ho] at hown
  exact va_ldcS hx hb hown hX.2.2.1 hd (kk p l e R s m args below meth c Z ad D cA cB A cells slots C hret H locs arr hI hL)
theorem r_strV {Y : zM} {d : Nat} {sc : Option (Nat × (Nat → Int32))} {pc pc' i : Nat} {ls st : List Value} {h : List zC} {Q : Option Int32 → List zC → Prop} (hd : zd Y pc (.getfield i) 3 pc') (hl : Cond.fieldLink Y.1.cls i "java/lang/String" "value" "[B" ∈ zBig) (kk : Rq Y d sc pc' ls (.ref 1001 :: st) h Q) : Rq Y d sc pc ls (.ref 1000 :: st) h Q := by
  intro p l e R s m args below meth c Z ad D cA cB A cells slots C hret H locs arr hI hL
  obtain ⟨hd, rfl⟩ := hd
  obtain ⟨hx, hb, hml, hown, hts, hK, hX, hA, hR, hsc⟩ := id C
  exact vk_getf hx hb (hX.2.1.1 0 (by decide)).2.2.1 hI.2.2 hown (hts _ hl) (fun _ h9 => h9) hd (kk p l e R s m args below meth c Z ad D cA cB A cells slots C hret H locs arr hI hL)
theorem r_strC {Y : zM} {d : Nat} {sc : Option (Nat × (Nat → Int32))} {pc pc' i : Nat} {ls st : List Value} {h : List zC} {Q : Option Int32 → List zC → Prop} (hd : zd Y pc (.getfield i) 3 pc') (hl : Cond.fieldLink Y.1.cls i "java/lang/String" "coder" "B" ∈ zBig) (kk : Rq Y d sc pc' ls (.int 0 :: st) h Q) : Rq Y d sc pc ls (.ref 1000 :: st) h Q := by
  intro p l e R s m args below meth c Z ad D cA cB A cells slots C hret H locs arr hI hL
  obtain ⟨hd, rfl⟩ := hd
  obtain ⟨hx, hb, hml, hown, hts, hK, hX, hA, hR, hsc⟩ := id C
  exact vk_getf hx hb (hX.2.1.1 0 (by decide)).2.1 hI.2.2 hown (hts _ hl) (fun _ h9 => h9) hd (kk p l e R s m args below meth c Z ad D cA cB A cells slots C hret H locs arr hI hL)
theorem r_comp {Y : zM} {d : Nat} {sc : Option (Nat × (Nat → Int32))} {pc pc' i : Nat} {ls st : List Value} {h : List zC} {Q : Option Int32 → List zC → Prop} (hd : zd Y pc (.getstatic i) 3 pc') (hl : Cond.fieldLink Y.1.cls i "java/lang/String" "COMPACT_STRINGS" "Z" ∈ zBig) (kk : Rq Y d sc pc' ls (.int 1 :: st) h Q) : Rq Y d sc pc ls st h Q := by
  intro p l e R s m args below meth c Z ad D cA cB A cells slots C hret H locs arr hI hL
  obtain ⟨hd, rfl⟩ := hd
  obtain ⟨hx, hb, hml, hown, hts, hK, hX, hA, hR, hsc⟩ := id C
  exact va_gets hx hb hX.2.2.2.1 hI.2.2 hown (hts _ hl) (fun _ h9 => h9) hd (kk p l e R s m args below meth c Z ad D cA cB A cells slots C hret H locs arr hI hL)
theorem r_sioobe {Y : zM} {d : Nat} {sc : Option (Nat × (Nat → Int32))} {pc pc' i : Nat} {ls st : List Value} {h : List zC} {Q : Option Int32 → List zC → Prop} (hd : zd Y pc (.getstatic i) 3 pc') (hl : Cond.fieldLink Y.1.cls i "jdk/internal/util/Preconditions" "SIOOBE_FORMATTER" "Ljava/util/function/BiFunction;" ∈ zBig) (kk : ∀ v : Value, zg v = true → Rq Y d sc pc' ls (v :: st) h Q) : Rq Y d sc pc ls st h Q := by
  intro p l e R s m args below meth c Z ad D cA cB A cells slots C hret H locs arr hI hL
  obtain ⟨hd, rfl⟩ := hd
  obtain ⟨hx, hb, hml, hown, hts, hK, hX, hA, hR, hsc⟩ := id C
  obtain ⟨v, hv, hz⟩ := hX.2.2.2.2
  have hg : zg v = true := by rcases hv with rfl | rfl <;> rfl
  exact va_gets hx hb hz hI.2.2 hown (hts _ hl) (fun _ h9 => h9) hd (kk v hg p l e R s m args below meth c Z ad D cA cB A cells slots C hret H locs arr hI hL)
theorem r_blen {Y : zM} {d : Nat} {sc : Option (Nat × (Nat → Int32))} {pc pc' : Nat} {ls st : List Value} {h : List zC} {Q : Option Int32 → List zC → Prop} (hd : zd Y pc .arraylength 1 pc') (kk : Rq Y d sc pc' ls (.int 6 :: st) h Q) : Rq Y d sc pc ls (.ref 1001 :: st) h Q := by
  intro p l e R s m args below meth c Z ad D cA cB A cells slots C hret H locs arr hI hL
  obtain ⟨hd, rfl⟩ := hd
  obtain ⟨hx, hb, hml, hown, hts, hK, hX, hA, hR, hsc⟩ := id C
  exact va_tlen hx hb (hX.2.1.1 0 (by decide)).2.2.2 hI.2.2 (v := 6) (by decide) hd (kk p l e R s m args below meth c Z ad D cA cB A cells slots C hret H locs arr hI hL)
theorem r_bald {Y : zM} {d : Nat} {sc : Option (Nat × (Nat → Int32))} {pc pc' j : Nat} {ls st : List Value} {h : List zC} {Q : Option Int32 → List zC → Prop} {x : Int32} (hd : zd Y pc .baload 1 pc') (ex : x = nI j) (hj : j < 6) (kk : Rq Y d sc pc' ls (.int (([112, 113, 115, 116, 98, 104] : List Int32).getD j 0) :: st) h Q) : Rq Y d sc pc ls (.int x :: .ref 1001 :: st) h Q := by
  intro p l e R s m args below meth c Z ad D cA cB A cells slots C hret H locs arr hI hL
  obtain ⟨hd, rfl⟩ := hd
  subst ex
  obtain ⟨hx, hb, hml, hown, hts, hK, hX, hA, hR, hsc⟩ := id C
  have e1 : (nI j).toNatClampNeg = j := nI_clamp (by omega)
  exact va_tb (v := .int (([112, 113, 115, 116, 98, 104] : List Int32).getD j 0)) hx hb (hX.2.1.1 0 (by decide)).2.2.2 hI.2.2 (vp_in_nI hj (by decide)) (by rw [e1]; rfl) hd (kk p l e R s m args below meth c Z ad D cA cB A cells slots C hret H locs arr hI hL)

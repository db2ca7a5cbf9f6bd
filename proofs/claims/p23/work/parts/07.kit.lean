section XK
/-! A world: what stands at each address, with a colour; two things of different colours lie apart. A judgement over all heaps that hold the world (xJ), rows for it, contracts (xMet, xMetX). -/
abbrev xW : Type := Nat → Option (Nat × va_E)
abbrev xG : Type := va_G × (Nat → Nat)
def xu (w : xW) (a : Nat) (x : Nat × va_E) : xW := fun b => if b = a then some x else w b
theorem xu_eq (w : xW) (a : Nat) (x : Nat × va_E) : xu w a x a = some x := if_pos rfl
theorem xu_ne {w : xW} {a b : Nat} {x : Nat × va_E} (h : b ≠ a) : xu w a x b = w b := if_neg h
theorem xu_far {w : xW} {a b k j : Nat} {e e' : va_E} {x : Nat × va_E} (hb : w b = some (k, e)) (ha : w a = some (j, e')) (h : k ≠ j) : xu w a x b = some (k, e) := by
  rw [xu_ne (fun q => h (by subst q; rw [hb] at ha; cases ha; rfl))]; exact hb
theorem xu_new {w : xW} {a b : Nat} {x y : Nat × va_E} (hb : w b = some y) (ha : w a = none) : xu w a x b = some y := by
  rw [xu_ne (fun q => by subst q; rw [hb] at ha; cases ha)]; exact hb
def xA (G : xG) : Nat → Prop := fun q => G.2 0 ≤ q
abbrev xT (G : xG) : List (ClassId × FieldType) := [(G.2 1, .int), (G.2 2, .int), (G.2 3, .object "java/lang/Object")]
def xH (G : xG) (w : xW) (H : Heap) : Prop := G.2 0 ≤ H.size ∧ ∀ (a : Nat) (x : Nat × va_E), w a = some x → G.2 0 ≤ a ∧ va_at G.1 vwCl (a, x.2) H
theorem xH.lt {G : xG} {w : xW} {H : Heap} (h : xH G w H) {a : Nat} {x : Nat × va_E} (ha : w a = some x) : a < H.size := ((h.2 a x ha).2).lt
theorem xH.P {G : xG} {w : xW} {H : Heap} (h : xH G w H) {a k : Nat} {e : va_E} (ha : w a = some (k, e)) : va_P G.1 vwCl [(a, e)] H := fun i q hq => by
  match i, hq with
  | 0, hq => cases hq; exact (h.2 a _ ha).2
  | i + 1, hq => simp at hq
theorem xH.set {G : xG} {w : xW} {H H1 : Heap} (h : xH G w H) {a k j : Nat} {e0 e : va_E} (ha : w a = some (k, e0)) (he : va_at G.1 vwCl (a, e) H1) (oq : ∀ q : Nat, q ≠ a → H1[q]? = H[q]?) (z : H1.size = H.size) : xH G (xu w a (j, e)) H1 := by
  refine ⟨by rw [z]; exact h.1, fun b x hb => ?_⟩
  by_cases hq : b = a
  · subst hq
    rw [xu_eq] at hb
    cases hb
    exact ⟨(h.2 b _ ha).1, he⟩
  · rw [xu_ne hq] at hb
    exact ⟨(h.2 b x hb).1, (h.2 b x hb).2.kept (oq b hq)⟩
theorem xH.grow {G : xG} {w : xW} {H H1 : Heap} (h : xH G w H) (z : H.size ≤ H1.size) (oq : ∀ q : Nat, q < H.size → H1[q]? = H[q]?) : xH G w H1 :=
  ⟨Nat.le_trans h.1 z, fun b x hb => ⟨(h.2 b x hb).1, (h.2 b x hb).2.kept (oq b (h.lt hb))⟩⟩
theorem xH.none {G : xG} {w : xW} {H : Heap} (h : xH G w H) : w H.size = none := by
  cases hq : w H.size with
  | none => rfl
  | some x => exact absurd (h.lt hq) (Nat.lt_irrefl _)
theorem xH.new {G : xG} {w : xW} {H H1 : Heap} (h : xH G w H) {j : Nat} {e : va_E} (he : va_at G.1 vwCl (H.size, e) H1) (z : H1.size = H.size + 1) (oq : ∀ q : Nat, q < H.size → H1[q]? = H[q]?) : xH G (xu w H.size (j, e)) H1 := by
  refine ⟨by rw [z]; exact Nat.le_succ_of_le h.1, fun b x hb => ?_⟩
  by_cases hq : b = H.size
  · subst hq
    rw [xu_eq] at hb
    cases hb
    exact ⟨h.1, he⟩
  · rw [xu_ne hq] at hb
    exact ⟨(h.2 b x hb).1, (h.2 b x hb).2.kept (oq b (h.lt hb))⟩
/-! the tables' words, all in one list -/
def xNest : Cond → Bool
  | .fieldLinkNest .. => true
  | .methodLinkNest .. => true
  | _ => false
def xOk (w : Cond) : Bool := w.onTables && (w.keeps || w.keepsFace || xNest w)
def xAll : List Cond := lw_tbl.filter xOk
theorem xAll_in (i : Nat) {w : Cond} (h : lw_tbl[i]? = some w) (hk : xOk w = true) : w ∈ xAll := List.mem_filter.mpr ⟨List.mem_of_getElem? h, hk⟩
theorem xAll_ok {w : Cond} (h : w ∈ xAll) : xOk w = true := (List.mem_filter.mp h).2
theorem xAll_tb {w : Cond} (h : w ∈ xAll) : w.onTables = true := by
  have := xAll_ok h
  simp only [xOk, Bool.and_eq_true] at this
  exact this.1
theorem xNw_warm {w : Cond} {s U : State} (hk : xOk w = true) (hW : s.WarmedH U.vm) (h : va_Nw w s) : va_Nw w U := by
  simp only [xOk, Bool.and_eq_true, Bool.or_eq_true] at hk
  obtain ⟨ht, (hk | hk) | hk⟩ := hk
  · exact word_at hW (Or.inl (by rw [ht, hk]; rfl)) h
  · exact va_tabs ht (rfl : (s.setVm U.vm).vm = U.vm) (Cond.before_shiftedFace (args := #[]) (State.Shifted.of_warmed hW) w hk h)
  · cases w <;> first | exact va_Nw.warmF hW h | exact va_Nw.warmM hW h | (simp [xNest] at hk)
theorem xAll_list {ws : List Cond} (is : List Nat) (h : is.map (fun i => lw_tbl[i]?) = ws.map some) (hk : ws.all xOk = true) : ∀ w ∈ ws, w ∈ xAll := fun w hw => by
  have h1 : some w ∈ ws.map some := List.mem_map.mpr ⟨w, hw, rfl⟩
  rw [← h] at h1
  obtain ⟨i, -, hi⟩ := List.mem_map.mp h1
  exact xAll_in i hi (List.all_eq_true.mp hk w hw)
def xStr : List (Nat × String) := [(61, "owner, size or counter is out of range"), (73, "no room for it, or too many things"), (188, "there is no such thing"), (96, "it is not at a counter, or has a loan"), (105, "counter is out of range"), (110, "it is not at a counter, or is at this one"), (118, "worth is out of range"), (120, "it is not at a counter"), (125, "lender or sum is out of range"), (130, "the lender is its owner, or the sum is too high"), (139, "it has no loan"), (153, "it has no loan, or that was doubted"), (158, "days is out of range"), (160, "the day would be above the last one"), (165, "day is out of range"), (174, "person is out of range")]
def xNcs : List (String × String) := []
/-- the law's script: at the cell G.2 6, of G.2 7 ints, out of what the calls may write -/
def xsG (G : xG) : Nat → Int32 := fun j => Int32.ofNat (G.2 (1000000 + j))
def xScr (G : xG) (U : State) (H : Heap) : Prop := va_X (G.2 6) (G.2 7) (xsG G) U H ∧ ¬ xA G (G.2 6) ∧ G.2 7 ≤ 260
theorem xScr.next {G : xG} {s U : State} (hal : s.vm.Alike U.vm) (h : xScr G s s.heap) (hq : ∀ a : Nat, a < s.heap.size → ¬ xA G a → U.heap[a]? = s.heap[a]?) : xScr G U U.heap := by
  obtain ⟨h1, h2, h3⟩ := h
  have hlt : G.2 6 < s.heap.size := by
    obtain ⟨scr, h4, -⟩ := h1
    exact (Array.getElem?_eq_some_iff.mp h4).1
  exact ⟨va_X.moved hal (h1.kept (hq _ hlt h2)), h2, h3⟩
/-- what holds of the launch at any time: the tables' words, the classes, the statics that nobody writes -/
def xE (G : xG) (U : State) (H : Heap) : Prop :=
  va_K G.1 vwCl (xT G) U ∧ (∀ w ∈ xAll, va_Nw w U) ∧ (Cond.arrayClass .int).before #[] U = true ∧ xScr G U H ∧ va_AO "java/lang/Object" U ∧
  vx_Zq Bundle.tN "UNASSIGNED_STACK" Bundle.steD (xA G) U H ∧ vx_Zq Bundle.tN "SUPPRESSED_SENTINEL" Bundle.listD (xA G) U H ∧
  va_Z "java/util/ArrayList" "DEFAULTCAPACITY_EMPTY_ELEMENTDATA" "[Ljava/lang/Object;" (.ref (G.2 4)) (xA G) U H ∧ va_T (.object "java/lang/Object") (G.2 4) 0 (fun _ => .null) (xA G) U H ∧
  (∀ q ∈ xStr, vk_R RX2 q.1 q.2 (G.2 (1000 + q.1)) U) ∧ va_Mi "[Ljava/lang/Object;" (G.2 5) U ∧ ∀ q ∈ xNcs, va_Nc q.1 q.2 U
theorem xE.next {G : xG} {s U : State} (h : xE G s s.heap) (hW : s.WarmedH U.vm) (hq : ∀ a : Nat, a < s.heap.size → ¬ xA G a → U.heap[a]? = s.heap[a]?) : xE G U U.heap := by
  obtain ⟨h1, h2, h3, h4, h5, h6, h7, h8, h9, h10, h11, h12⟩ := h
  have hal : s.vm.Alike U.vm := hW.alike
  exact ⟨va_K.moved hal h1, fun w hw => xNw_warm (xAll_ok hw) hW (h2 w hw), word_at hW (Or.inr ⟨_, rfl⟩) h3, xScr.next hal h4 hq, va_AO.moved hal h5, vx_Zq.moved hal (h6.kept hq), vx_Zq.moved hal (h7.kept hq),
    va_Z.moved hal (h8.kept hq), va_T.moved hal (h9.kept hq), fun q hq => (h10 q hq).warm hW, va_Mi.moved hal h11, fun q hq => va_Nc.moved hal (h12 q hq)⟩
theorem xE.w {G : xG} {s : State} {H : Heap} (h : xE G s H) {w : Cond} (hw : w ∈ xAll) {args : Array Value} : w.before args s = true := va_Nw.use (xAll_tb hw) (h.2.1 w hw)
/-! contracts -/
def xPc (G : xG) (av : List Value) (w : xW) : Array Value → State → Prop := va_Pc av (fun U => xE G U U.heap ∧ xH G w U.heap)
def xQ {α : Type} (G : xG) (emb : α → Option Value) (post : α → xW → Prop) : Array Value → State → Outcome → State → Prop := fun _ st oc t => (∃ (v : α) (w : xW), oc = .returned (emb v) ∧ post v w ∧ xH G w t.heap) ∧ va_F (xA G) st t
def xX (G : xG) (px : String → xW → Prop) : String → State → State → Prop := fun E st t => (∃ w : xW, px E w ∧ xH G w t.heap) ∧ va_F (xA G) st t
abbrev embI : Int32 → Option Value := fun r => some (.int r)
abbrev embA : Nat → Option Value := fun r => some (.ref r)
abbrev embV : Unit → Option Value := fun _ => none
def xMet {α : Type} (l : Launch) (G : xG) (y : MethodName) (cc : ByteArray) (maxL : Nat) (rt : Option FieldType) (rm : Room) (av : List Value) (w : xW) (emb : α → Option Value) (post : α → xW → Prop) : Prop :=
  Met l y [.code y cc maxL rt] rm (xPc G av w) (xQ G emb post) rm.cells rm.slots (xA G)
def xMetX {α : Type} (l : Launch) (G : xG) (y : MethodName) (cc : ByteArray) (maxL : Nat) (rt : Option FieldType) (rm : Room) (av : List Value) (w : xW) (emb : α → Option Value) (post : α → xW → Prop) (px : String → xW → Prop) : Prop :=
  vx_Met l y [.code y cc maxL rt] rm (xPc G av w) (xQ G emb post) (xX G px) rm.cells rm.slots (xA G)
theorem xPc.blind {G : xG} {av : List Value} {w : xW} : FrameBlind (xPc G av w) := fun a U g mk h => ⟨h.1, h.2.1.next (U := U.calling g mk a) (State.WarmedH.refl U) (fun _ _ _ => rfl), h.2.2⟩
/-! locals by their numbers -/
def xget : List (Nat × Value) → Nat → Option Value
  | [], _ => none
  | q :: t, i => bif Nat.beq q.1 i then some q.2 else xget t i
def xdel : List (Nat × Value) → Nat → List (Nat × Value)
  | [], _ => []
  | q :: t, i => bif Nat.beq q.1 i then xdel t i else q :: xdel t i
def xone : List (Nat × Value) → Bool
  | [] => true
  | q :: t => Nat.beq q.2.category 1 && xone t
def xpick (lv : List (Nat × Value)) (is : List Nat) : List (Nat × Value) := is.filterMap fun i => (xget lv i).map fun v => (i, v)
theorem xget_mem {lv : List (Nat × Value)} {i : Nat} {v : Value} (h : xget lv i = some v) : (i, v) ∈ lv := by
  induction lv with
  | nil => simp [xget] at h
  | cons q t ih =>
    unfold xget at h
    cases hq : Nat.beq q.1 i with
    | true =>
      rw [hq] at h
      have e1 : q.1 = i := Nat.eq_of_beq_eq_true hq
      have e2 : q.2 = v := Option.some.inj h
      rw [← e1, ← e2]
      exact List.mem_cons_self
    | false =>
      rw [hq] at h
      exact List.mem_cons_of_mem _ (ih h)
theorem xget_at {ls : Array Slot} {nL : Nat} {lv : List (Nat × Value)} (h : lv_has ls nL lv) {i : Nat} {v : Value} (hi : xget lv i = some v) : ls[i]? = some (.val v) := h.2.2 _ (xget_mem hi)
theorem xdel_mem {lv : List (Nat × Value)} {i : Nat} {q : Nat × Value} (h : q ∈ xdel lv i) : q ∈ lv ∧ q.1 ≠ i := by
  induction lv with
  | nil => simp [xdel] at h
  | cons r t ih =>
    unfold xdel at h
    cases hq : Nat.beq r.1 i with
    | true =>
      rw [hq] at h
      exact ⟨List.mem_cons_of_mem _ (ih h).1, (ih h).2⟩
    | false =>
      rw [hq] at h
      rcases List.mem_cons.mp h with e | h
      · subst e
        exact ⟨List.mem_cons_self, Nat.ne_of_beq_eq_false hq⟩
      · exact ⟨List.mem_cons_of_mem _ (ih h).1, (ih h).2⟩
theorem xone_mem {lv : List (Nat × Value)} (h : xone lv = true) {q : Nat × Value} (hq : q ∈ lv) : q.2.category = 1 := by
  induction lv with
  | nil => simp at hq
  | cons r t ih =>
    unfold xone at h
    simp only [Bool.and_eq_true] at h
    rcases List.mem_cons.mp hq with e | hq
    · subst e
      exact Nat.eq_of_beq_eq_true h.1
    · exact ih h.2 hq
theorem xset_has {ls : Array Slot} {nL : Nat} {lv : List (Nat × Value)} {i : Nat} {v : Value} (h : lv_has ls nL ((i, v) :: lv.filter (fun q => !(q.1 == i) && !(q.1 + 1 == i && q.2.category == 2)))) (h1 : xone lv = true) : lv_has ls nL ((i, v) :: xdel lv i) := by
  refine ⟨h.1, h.2.1, fun q hq => h.2.2 q ?_⟩
  rcases List.mem_cons.mp hq with e | hq
  · subst e
    exact List.mem_cons_self
  · obtain ⟨h2, h3⟩ := xdel_mem hq
    refine List.mem_cons_of_mem _ (List.mem_filter.mpr ⟨h2, ?_⟩)
    have h4 := xone_mem h1 h2
    simp [h3, h4]
theorem xpick_has {ls : Array Slot} {nL : Nat} {lv lv' : List (Nat × Value)} (h : lv_has ls nL lv) (is : List Nat) (e : xpick lv is = lv') : lv_has ls nL lv' := by
  subst e
  refine ⟨h.1, h.2.1, fun q hq => ?_⟩
  obtain ⟨i, -, hi⟩ := List.mem_filterMap.mp hq
  cases hg : xget lv i with
  | none => rw [hg] at hi; cases hi
  | some v =>
    rw [hg] at hi
    cases hi
    exact xget_at h hg
/-! the judgement -/
def xC (p : Program) (s : State) (m : MethodId) (meth : Method) (c : Code) (G : xG) (cc : ByteArray) (nL : Nat) (own : String) (rt : Option FieldType) : Prop :=
  p.tables.exec = Jvm.exec ∧ c.code = cc ∧ c.maxLocals = nL ∧ s.vm.findClass own = some m.cls ∧ meth.sig.returnType = rt ∧ meth.locks = false ∧ xE G s s.heap ∧ G.2 0 ≤ s.heap.size
def xJ (p : Program) (l : Launch) (e : Env) (R : Room) (s : State) (m : MethodId) (args : Array Value) (below : List Frame) (meth : Method) (c : Code) (G : xG) (nL : Nat) (Q : State → Prop) (P : xW → Prop) (k n pc : Nat) (lv : List (Nat × Value)) (st : List Value) : Prop :=
  ∀ (w : xW) (H : Heap) (locs : List Loc) (ls : Array Slot), P w → xH G w H → va_S (xA G) s.heap H locs → lv_has ls nL lv → W p l e R s m args below meth c H locs k n Q (F0 m pc ls st)
section XJ
variable {p : Program} {l : Launch} {e : Env} {R : Room} {s : State} {m : MethodId} {args : Array Value} {below : List Frame} {meth : Method} {c : Code} {G : xG} {cc : ByteArray} {nL : Nat} {own : String} {rt : Option FieldType} {Q : State → Prop} {P P' : xW → Prop} {k n pc : Nat} {lv : List (Nat × Value)} {st : List Value}
theorem x_fact {φ : Prop} (h : ∀ w, P w → φ) (kk : φ → xJ p l e R s m args below meth c G nL Q P k n pc lv st) : xJ p l e R s m args below meth c G nL Q P k n pc lv st := fun w H locs ls hp => kk (h w hp) w H locs ls hp
theorem x_weak (h : ∀ w, P w → P' w) (kk : xJ p l e R s m args below meth c G nL Q P' k n pc lv st) : xJ p l e R s m args below meth c G nL Q P k n pc lv st := fun w H locs ls hp => kk w H locs ls (h w hp)
theorem x_any {α : Type} {F : α → xW → Prop} (kk : ∀ a, xJ p l e R s m args below meth c G nL Q (F a) k n pc lv st) : xJ p l e R s m args below meth c G nL Q (fun w => ∃ a, F a w) k n pc lv st := fun w H locs ls hp => by
  obtain ⟨a, ha⟩ := hp
  exact kk a w H locs ls ha
theorem x_lv {lv' : List (Nat × Value)} (is : List Nat) (h : xpick lv is = lv') (kk : xJ p l e R s m args below meth c G nL Q P k n pc lv' st) : xJ p l e R s m args below meth c G nL Q P k n pc lv st := fun w H locs ls hp hh hs hl => kk w H locs ls hp hh hs (xpick_has hl is h)
theorem x_wide {k' n' : Nat} (h1 : k ≤ k') (h2 : n ≤ n') (kk : xJ p l e R s m args below meth c G nL Q P k' n' pc lv st) : xJ p l e R s m args below meth c G nL Q P k n pc lv st := fun w H locs ls hp hh hs hl => W.widen h1 h2 (kk w H locs ls hp hh hs hl)
theorem x_iconst (Γ : xC p s m meth c G cc nL own rt) {i : Int} {v : Int32} (hd : decode cc pc = .ok (.iconst i, 1)) (hv : Int32.ofInt i = v) (kk : xJ p l e R s m args below meth c G nL Q P k n (pc + 1) lv (.int v :: st)) : xJ p l e R s m args below meth c G nL Q P k n pc lv (st) := fun w H locs ls hp hh hs hl => lv_iconst Γ.1 Γ.2.1 hd hv (kk w H locs ls hp hh hs hl)
theorem x_bipush (Γ : xC p s m meth c G cc nL own rt) {i : Int} {v : Int32} (hd : decode cc pc = .ok (.bipush i, 2)) (hv : (Int8.ofInt i).toInt32 = v) (kk : xJ p l e R s m args below meth c G nL Q P k n (pc + 2) lv (.int v :: st)) : xJ p l e R s m args below meth c G nL Q P k n pc lv (st) := fun w H locs ls hp hh hs hl => lv_bipush Γ.1 Γ.2.1 hd hv (kk w H locs ls hp hh hs hl)
theorem x_sipush (Γ : xC p s m meth c G cc nL own rt) {i : Int} {v : Int32} (hd : decode cc pc = .ok (.sipush i, 3)) (hv : (Int16.ofInt i).toInt32 = v) (kk : xJ p l e R s m args below meth c G nL Q P k n (pc + 3) lv (.int v :: st)) : xJ p l e R s m args below meth c G nL Q P k n pc lv (st) := fun w H locs ls hp hh hs hl => lv_sipush Γ.1 Γ.2.1 hd hv (kk w H locs ls hp hh hs hl)
theorem x_null (Γ : xC p s m meth c G cc nL own rt)  (hd : decode cc pc = .ok (.aconst_null, 1)) (kk : xJ p l e R s m args below meth c G nL Q P k n (pc + 1) lv (.null :: st)) : xJ p l e R s m args below meth c G nL Q P k n pc lv (st) := fun w H locs ls hp hh hs hl => lv_null Γ.1 Γ.2.1 hd  (kk w H locs ls hp hh hs hl)
theorem x_iadd (Γ : xC p s m meth c G cc nL own rt) {x y : Int32} (hd : decode cc pc = .ok (.iadd, 1)) (kk : xJ p l e R s m args below meth c G nL Q P k n (pc + 1) lv (.int (x + y) :: st)) : xJ p l e R s m args below meth c G nL Q P k n pc lv (.int y :: .int x :: st) := fun w H locs ls hp hh hs hl => lv_iadd Γ.1 Γ.2.1 hd  (kk w H locs ls hp hh hs hl)
theorem x_isub (Γ : xC p s m meth c G cc nL own rt) {x y : Int32} (hd : decode cc pc = .ok (.isub, 1)) (kk : xJ p l e R s m args below meth c G nL Q P k n (pc + 1) lv (.int (x - y) :: st)) : xJ p l e R s m args below meth c G nL Q P k n pc lv (.int y :: .int x :: st) := fun w H locs ls hp hh hs hl => lv_isub Γ.1 Γ.2.1 hd  (kk w H locs ls hp hh hs hl)
theorem x_imul (Γ : xC p s m meth c G cc nL own rt) {x y : Int32} (hd : decode cc pc = .ok (.imul, 1)) (kk : xJ p l e R s m args below meth c G nL Q P k n (pc + 1) lv (.int (x * y) :: st)) : xJ p l e R s m args below meth c G nL Q P k n pc lv (.int y :: .int x :: st) := fun w H locs ls hp hh hs hl => lv_imul Γ.1 Γ.2.1 hd  (kk w H locs ls hp hh hs hl)
theorem x_iand (Γ : xC p s m meth c G cc nL own rt) {x y : Int32} (hd : decode cc pc = .ok (.iand, 1)) (kk : xJ p l e R s m args below meth c G nL Q P k n (pc + 1) lv (.int (x &&& y) :: st)) : xJ p l e R s m args below meth c G nL Q P k n pc lv (.int y :: .int x :: st) := fun w H locs ls hp hh hs hl => lv_iand Γ.1 Γ.2.1 hd  (kk w H locs ls hp hh hs hl)
theorem x_ishr (Γ : xC p s m meth c G cc nL own rt) {x y : Int32} (hd : decode cc pc = .ok (.ishr, 1)) (kk : xJ p l e R s m args below meth c G nL Q P k n (pc + 1) lv (.int (x >>> (y &&& 31)) :: st)) : xJ p l e R s m args below meth c G nL Q P k n pc lv (.int y :: .int x :: st) := fun w H locs ls hp hh hs hl => lv_ishr Γ.1 Γ.2.1 hd  (kk w H locs ls hp hh hs hl)
theorem x_idiv (Γ : xC p s m meth c G cc nL own rt) {x y : Int32} (hd : decode cc pc = .ok (.idiv, 1)) (h0 : ¬ y = 0) (kk : xJ p l e R s m args below meth c G nL Q P k n (pc + 1) lv (.int (x / y) :: st)) : xJ p l e R s m args below meth c G nL Q P k n pc lv (.int y :: .int x :: st) := fun w H locs ls hp hh hs hl => lv_idiv Γ.1 Γ.2.1 hd h0 (kk w H locs ls hp hh hs hl)
theorem x_i2l (Γ : xC p s m meth c G cc nL own rt) {x : Int32} {v : Int64} (hd : decode cc pc = .ok (.i2l, 1)) (hv : x.toInt64 = v) (kk : xJ p l e R s m args below meth c G nL Q P k n (pc + 1) lv (.long v :: st)) : xJ p l e R s m args below meth c G nL Q P k n pc lv (.int x :: st) := fun w H locs ls hp hh hs hl => lv_i2l Γ.1 Γ.2.1 hd hv (kk w H locs ls hp hh hs hl)
theorem x_dup (Γ : xC p s m meth c G cc nL own rt) {va : Value} (hd : decode cc pc = .ok (.dup, 1)) (h1 : va.category = 1) (kk : xJ p l e R s m args below meth c G nL Q P k n (pc + 1) lv (va :: va :: st)) : xJ p l e R s m args below meth c G nL Q P k n pc lv (va :: st) := fun w H locs ls hp hh hs hl => lv_dup Γ.1 Γ.2.1 hd h1 (kk w H locs ls hp hh hs hl)
theorem x_pop (Γ : xC p s m meth c G cc nL own rt) {va : Value} (hd : decode cc pc = .ok (.pop, 1)) (h1 : va.category = 1) (kk : xJ p l e R s m args below meth c G nL Q P k n (pc + 1) lv (st)) : xJ p l e R s m args below meth c G nL Q P k n pc lv (va :: st) := fun w H locs ls hp hh hs hl => lv_pop Γ.1 Γ.2.1 hd h1 (kk w H locs ls hp hh hs hl)
theorem x_dup_x1 (Γ : xC p s m meth c G cc nL own rt) {va vb : Value} (hd : decode cc pc = .ok (.dup_x1, 1)) (h1 : va.category = 1) (h2 : vb.category = 1) (kk : xJ p l e R s m args below meth c G nL Q P k n (pc + 1) lv (va :: vb :: va :: st)) : xJ p l e R s m args below meth c G nL Q P k n pc lv (va :: vb :: st) := fun w H locs ls hp hh hs hl => lv_dup_x1 Γ.1 Γ.2.1 hd h1 h2 (kk w H locs ls hp hh hs hl)
theorem x_iload_n (Γ : xC p s m meth c G cc nL own rt) {j : Fin 4} {i : Nat} {x : Int32} (hd : decode cc pc = .ok (.iload_n j, 1)) (hi : (j : Nat) = i) (hg : xget lv i = some (.int x)) (kk : xJ p l e R s m args below meth c G nL Q P k n (pc + 1) lv (.int x :: st)) : xJ p l e R s m args below meth c G nL Q P k n pc lv st := fun w H locs ls hp hh hs hl => lv_iload_n Γ.1 Γ.2.1 hd hi (xget_at hl hg) (kk w H locs ls hp hh hs hl)
theorem x_iload (Γ : xC p s m meth c G cc nL own rt) {i : Nat} {x : Int32} (hd : decode cc pc = .ok (.iload i, 2)) (hg : xget lv i = some (.int x)) (kk : xJ p l e R s m args below meth c G nL Q P k n (pc + 2) lv (.int x :: st)) : xJ p l e R s m args below meth c G nL Q P k n pc lv st := fun w H locs ls hp hh hs hl => lv_iload Γ.1 Γ.2.1 hd (xget_at hl hg) (kk w H locs ls hp hh hs hl)
theorem x_aload_n (Γ : xC p s m meth c G cc nL own rt) {j : Fin 4} {i : Nat} {x : Nat} (hd : decode cc pc = .ok (.aload_n j, 1)) (hi : (j : Nat) = i) (hg : xget lv i = some (.ref x)) (kk : xJ p l e R s m args below meth c G nL Q P k n (pc + 1) lv (.ref x :: st)) : xJ p l e R s m args below meth c G nL Q P k n pc lv st := fun w H locs ls hp hh hs hl => lv_aload_n Γ.1 Γ.2.1 hd hi (xget_at hl hg) (kk w H locs ls hp hh hs hl)
theorem x_aload (Γ : xC p s m meth c G cc nL own rt) {i : Nat} {x : Nat} (hd : decode cc pc = .ok (.aload i, 2)) (hg : xget lv i = some (.ref x)) (kk : xJ p l e R s m args below meth c G nL Q P k n (pc + 2) lv (.ref x :: st)) : xJ p l e R s m args below meth c G nL Q P k n pc lv st := fun w H locs ls hp hh hs hl => lv_aload Γ.1 Γ.2.1 hd (xget_at hl hg) (kk w H locs ls hp hh hs hl)
theorem x_aload_nN (Γ : xC p s m meth c G cc nL own rt) {j : Fin 4} {i : Nat} (hd : decode cc pc = .ok (.aload_n j, 1)) (hi : (j : Nat) = i) (hg : xget lv i = some .null) (kk : xJ p l e R s m args below meth c G nL Q P k n (pc + 1) lv (.null :: st)) : xJ p l e R s m args below meth c G nL Q P k n pc lv st := fun w H locs ls hp hh hs hl => lv_aload_nN Γ.1 Γ.2.1 hd hi (xget_at hl hg) (kk w H locs ls hp hh hs hl)
theorem x_istore_n (Γ : xC p s m meth c G cc nL own rt) {j : Fin 4} {i : Nat} {x : Int32} (hd : decode cc pc = .ok (.istore_n j, 1)) (hi : (j : Nat) = i) (h1 : xone lv = true) (hn : i < nL) (kk : xJ p l e R s m args below meth c G nL Q P k n (pc + 1) ((i, .int x) :: xdel lv i) st) : xJ p l e R s m args below meth c G nL Q P k n pc lv (.int x :: st) := fun w H locs ls hp hh hs hl => lv_istore_n Γ.1 Γ.2.1 hd hi hl hn rfl (fun ls2 hl2 => kk w H locs ls2 hp hh hs (xset_has hl2 h1))
theorem x_istore (Γ : xC p s m meth c G cc nL own rt) {i : Nat} {x : Int32} (hd : decode cc pc = .ok (.istore i, 2)) (h1 : xone lv = true) (hn : i < nL) (kk : xJ p l e R s m args below meth c G nL Q P k n (pc + 2) ((i, .int x) :: xdel lv i) st) : xJ p l e R s m args below meth c G nL Q P k n pc lv (.int x :: st) := fun w H locs ls hp hh hs hl => lv_istore Γ.1 Γ.2.1 hd hl hn rfl (fun ls2 hl2 => kk w H locs ls2 hp hh hs (xset_has hl2 h1))
theorem x_astore_n (Γ : xC p s m meth c G cc nL own rt) {j : Fin 4} {i : Nat} {x : Nat} (hd : decode cc pc = .ok (.astore_n j, 1)) (hi : (j : Nat) = i) (h1 : xone lv = true) (hn : i < nL) (kk : xJ p l e R s m args below meth c G nL Q P k n (pc + 1) ((i, .ref x) :: xdel lv i) st) : xJ p l e R s m args below meth c G nL Q P k n pc lv (.ref x :: st) := fun w H locs ls hp hh hs hl => lv_astore_n Γ.1 Γ.2.1 hd hi hl hn rfl (fun ls2 hl2 => kk w H locs ls2 hp hh hs (xset_has hl2 h1))
theorem x_astore (Γ : xC p s m meth c G cc nL own rt) {i : Nat} {x : Nat} (hd : decode cc pc = .ok (.astore i, 2)) (h1 : xone lv = true) (hn : i < nL) (kk : xJ p l e R s m args below meth c G nL Q P k n (pc + 2) ((i, .ref x) :: xdel lv i) st) : xJ p l e R s m args below meth c G nL Q P k n pc lv (.ref x :: st) := fun w H locs ls hp hh hs hl => lv_astore Γ.1 Γ.2.1 hd hl hn rfl (fun ls2 hl2 => kk w H locs ls2 hp hh hs (xset_has hl2 h1))
theorem x_astore_nN (Γ : xC p s m meth c G cc nL own rt) {j : Fin 4} {i : Nat} (hd : decode cc pc = .ok (.astore_n j, 1)) (hi : (j : Nat) = i) (h1 : xone lv = true) (hn : i < nL) (kk : xJ p l e R s m args below meth c G nL Q P k n (pc + 1) ((i, .null) :: xdel lv i) st) : xJ p l e R s m args below meth c G nL Q P k n pc lv (.null :: st) := fun w H locs ls hp hh hs hl => lv_astore_nN Γ.1 Γ.2.1 hd hi hl hn rfl (fun ls2 hl2 => kk w H locs ls2 hp hh hs (xset_has hl2 h1))
theorem x_iinc (Γ : xC p s m meth c G cc nL own rt) {i : Nat} {d : Int} {x v : Int32} (hd : decode cc pc = .ok (.iinc i d, 3)) (hg : xget lv i = some (.int x)) (hv : x + Int32.ofInt d = v) (h1 : xone lv = true) (hn : i < nL) (kk : xJ p l e R s m args below meth c G nL Q P k n (pc + 3) ((i, .int v) :: xdel lv i) st) : xJ p l e R s m args below meth c G nL Q P k n pc lv st := fun w H locs ls hp hh hs hl => by
  obtain ⟨j, hj⟩ := List.mem_iff_getElem?.mp (xget_mem hg)
  exact lv_iinc Γ.1 Γ.2.1 hd hl hj hv hn rfl (fun ls2 hl2 => kk w H locs ls2 hp hh hs (xset_has hl2 h1))
theorem x_icmp_eq (Γ : xC p s m meth c G cc nL own rt) {x y : Int32} {off : Int} {tgt : Nat} (hd : decode cc pc = .ok (.if_icmp .eq off, 3)) (ht : (pc : Int) + off = (tgt : Int)) (kt : x = y → xJ p l e R s m args below meth c G nL Q P k n tgt lv st) (kf : ¬ x = y → xJ p l e R s m args below meth c G nL Q P k n (pc + 3) lv st) : xJ p l e R s m args below meth c G nL Q P k n pc lv (.int y :: .int x :: st) := fun w H locs ls hp hh hs hl => lv_icmp_eq Γ.1 Γ.2.1 hd ht (fun q => kt q w H locs ls hp hh hs hl) (fun q => kf q w H locs ls hp hh hs hl)
theorem x_icmp_ne (Γ : xC p s m meth c G cc nL own rt) {x y : Int32} {off : Int} {tgt : Nat} (hd : decode cc pc = .ok (.if_icmp .ne off, 3)) (ht : (pc : Int) + off = (tgt : Int)) (kt : ¬ x = y → xJ p l e R s m args below meth c G nL Q P k n tgt lv st) (kf : x = y → xJ p l e R s m args below meth c G nL Q P k n (pc + 3) lv st) : xJ p l e R s m args below meth c G nL Q P k n pc lv (.int y :: .int x :: st) := fun w H locs ls hp hh hs hl => lv_icmp_ne Γ.1 Γ.2.1 hd ht (fun q => kt q w H locs ls hp hh hs hl) (fun q => kf q w H locs ls hp hh hs hl)
theorem x_icmp_lt (Γ : xC p s m meth c G cc nL own rt) {x y : Int32} {off : Int} {tgt : Nat} (hd : decode cc pc = .ok (.if_icmp .lt off, 3)) (ht : (pc : Int) + off = (tgt : Int)) (kt : x < y → xJ p l e R s m args below meth c G nL Q P k n tgt lv st) (kf : ¬ x < y → xJ p l e R s m args below meth c G nL Q P k n (pc + 3) lv st) : xJ p l e R s m args below meth c G nL Q P k n pc lv (.int y :: .int x :: st) := fun w H locs ls hp hh hs hl => lv_icmp_lt Γ.1 Γ.2.1 hd ht (fun q => kt q w H locs ls hp hh hs hl) (fun q => kf q w H locs ls hp hh hs hl)
theorem x_icmp_ge (Γ : xC p s m meth c G cc nL own rt) {x y : Int32} {off : Int} {tgt : Nat} (hd : decode cc pc = .ok (.if_icmp .ge off, 3)) (ht : (pc : Int) + off = (tgt : Int)) (kt : y ≤ x → xJ p l e R s m args below meth c G nL Q P k n tgt lv st) (kf : ¬ y ≤ x → xJ p l e R s m args below meth c G nL Q P k n (pc + 3) lv st) : xJ p l e R s m args below meth c G nL Q P k n pc lv (.int y :: .int x :: st) := fun w H locs ls hp hh hs hl => lv_icmp_ge Γ.1 Γ.2.1 hd ht (fun q => kt q w H locs ls hp hh hs hl) (fun q => kf q w H locs ls hp hh hs hl)
theorem x_icmp_gt (Γ : xC p s m meth c G cc nL own rt) {x y : Int32} {off : Int} {tgt : Nat} (hd : decode cc pc = .ok (.if_icmp .gt off, 3)) (ht : (pc : Int) + off = (tgt : Int)) (kt : y < x → xJ p l e R s m args below meth c G nL Q P k n tgt lv st) (kf : ¬ y < x → xJ p l e R s m args below meth c G nL Q P k n (pc + 3) lv st) : xJ p l e R s m args below meth c G nL Q P k n pc lv (.int y :: .int x :: st) := fun w H locs ls hp hh hs hl => lv_icmp_gt Γ.1 Γ.2.1 hd ht (fun q => kt q w H locs ls hp hh hs hl) (fun q => kf q w H locs ls hp hh hs hl)
theorem x_icmp_le (Γ : xC p s m meth c G cc nL own rt) {x y : Int32} {off : Int} {tgt : Nat} (hd : decode cc pc = .ok (.if_icmp .le off, 3)) (ht : (pc : Int) + off = (tgt : Int)) (kt : x ≤ y → xJ p l e R s m args below meth c G nL Q P k n tgt lv st) (kf : ¬ x ≤ y → xJ p l e R s m args below meth c G nL Q P k n (pc + 3) lv st) : xJ p l e R s m args below meth c G nL Q P k n pc lv (.int y :: .int x :: st) := fun w H locs ls hp hh hs hl => lv_icmp_le Γ.1 Γ.2.1 hd ht (fun q => kt q w H locs ls hp hh hs hl) (fun q => kf q w H locs ls hp hh hs hl)
theorem x_if_eq (Γ : xC p s m meth c G cc nL own rt) {x : Int32} {off : Int} {tgt : Nat} (hd : decode cc pc = .ok (.ifCond .eq off, 3)) (ht : (pc : Int) + off = (tgt : Int)) (kt : x = 0 → xJ p l e R s m args below meth c G nL Q P k n tgt lv st) (kf : ¬ x = 0 → xJ p l e R s m args below meth c G nL Q P k n (pc + 3) lv st) : xJ p l e R s m args below meth c G nL Q P k n pc lv (.int x :: st) := fun w H locs ls hp hh hs hl => lv_if_eq Γ.1 Γ.2.1 hd ht (fun q => kt q w H locs ls hp hh hs hl) (fun q => kf q w H locs ls hp hh hs hl)
theorem x_if_ne (Γ : xC p s m meth c G cc nL own rt) {x : Int32} {off : Int} {tgt : Nat} (hd : decode cc pc = .ok (.ifCond .ne off, 3)) (ht : (pc : Int) + off = (tgt : Int)) (kt : ¬ x = 0 → xJ p l e R s m args below meth c G nL Q P k n tgt lv st) (kf : x = 0 → xJ p l e R s m args below meth c G nL Q P k n (pc + 3) lv st) : xJ p l e R s m args below meth c G nL Q P k n pc lv (.int x :: st) := fun w H locs ls hp hh hs hl => lv_if_ne Γ.1 Γ.2.1 hd ht (fun q => kt q w H locs ls hp hh hs hl) (fun q => kf q w H locs ls hp hh hs hl)
theorem x_if_lt (Γ : xC p s m meth c G cc nL own rt) {x : Int32} {off : Int} {tgt : Nat} (hd : decode cc pc = .ok (.ifCond .lt off, 3)) (ht : (pc : Int) + off = (tgt : Int)) (kt : x < 0 → xJ p l e R s m args below meth c G nL Q P k n tgt lv st) (kf : ¬ x < 0 → xJ p l e R s m args below meth c G nL Q P k n (pc + 3) lv st) : xJ p l e R s m args below meth c G nL Q P k n pc lv (.int x :: st) := fun w H locs ls hp hh hs hl => lv_if_lt Γ.1 Γ.2.1 hd ht (fun q => kt q w H locs ls hp hh hs hl) (fun q => kf q w H locs ls hp hh hs hl)
theorem x_if_ge (Γ : xC p s m meth c G cc nL own rt) {x : Int32} {off : Int} {tgt : Nat} (hd : decode cc pc = .ok (.ifCond .ge off, 3)) (ht : (pc : Int) + off = (tgt : Int)) (kt : 0 ≤ x → xJ p l e R s m args below meth c G nL Q P k n tgt lv st) (kf : ¬ 0 ≤ x → xJ p l e R s m args below meth c G nL Q P k n (pc + 3) lv st) : xJ p l e R s m args below meth c G nL Q P k n pc lv (.int x :: st) := fun w H locs ls hp hh hs hl => lv_if_ge Γ.1 Γ.2.1 hd ht (fun q => kt q w H locs ls hp hh hs hl) (fun q => kf q w H locs ls hp hh hs hl)
theorem x_if_gt (Γ : xC p s m meth c G cc nL own rt) {x : Int32} {off : Int} {tgt : Nat} (hd : decode cc pc = .ok (.ifCond .gt off, 3)) (ht : (pc : Int) + off = (tgt : Int)) (kt : 0 < x → xJ p l e R s m args below meth c G nL Q P k n tgt lv st) (kf : ¬ 0 < x → xJ p l e R s m args below meth c G nL Q P k n (pc + 3) lv st) : xJ p l e R s m args below meth c G nL Q P k n pc lv (.int x :: st) := fun w H locs ls hp hh hs hl => lv_if_gt Γ.1 Γ.2.1 hd ht (fun q => kt q w H locs ls hp hh hs hl) (fun q => kf q w H locs ls hp hh hs hl)
theorem x_if_le (Γ : xC p s m meth c G cc nL own rt) {x : Int32} {off : Int} {tgt : Nat} (hd : decode cc pc = .ok (.ifCond .le off, 3)) (ht : (pc : Int) + off = (tgt : Int)) (kt : x ≤ 0 → xJ p l e R s m args below meth c G nL Q P k n tgt lv st) (kf : ¬ x ≤ 0 → xJ p l e R s m args below meth c G nL Q P k n (pc + 3) lv st) : xJ p l e R s m args below meth c G nL Q P k n pc lv (.int x :: st) := fun w H locs ls hp hh hs hl => lv_if_le Γ.1 Γ.2.1 hd ht (fun q => kt q w H locs ls hp hh hs hl) (fun q => kf q w H locs ls hp hh hs hl)
theorem x_goto (Γ : xC p s m meth c G cc nL own rt) {off : Int} {tgt : Nat} (hd : decode cc pc = .ok (.goto off, 3)) (ht : (pc : Int) + off = (tgt : Int)) (kk : xJ p l e R s m args below meth c G nL Q P k n tgt lv st) : xJ p l e R s m args below meth c G nL Q P k n pc lv st := fun w H locs ls hp hh hs hl => lv_goto Γ.1 Γ.2.1 hd ht (kk w H locs ls hp hh hs hl)
theorem x_ifnull (Γ : xC p s m meth c G cc nL own rt) {x : Nat} {off : Int} (hd : decode cc pc = .ok (.ifnull off, 3)) (kk : xJ p l e R s m args below meth c G nL Q P k n (pc + 3) lv st) : xJ p l e R s m args below meth c G nL Q P k n pc lv (.ref x :: st) := fun w H locs ls hp hh hs hl => lv_ifnull Γ.1 Γ.2.1 hd (kk w H locs ls hp hh hs hl)
theorem x_ifnullN (Γ : xC p s m meth c G cc nL own rt) {off : Int} {tgt : Nat} (hd : decode cc pc = .ok (.ifnull off, 3)) (ht : (pc : Int) + off = (tgt : Int)) (kk : xJ p l e R s m args below meth c G nL Q P k n tgt lv st) : xJ p l e R s m args below meth c G nL Q P k n pc lv (.null :: st) := fun w H locs ls hp hh hs hl => lv_ifnullN Γ.1 Γ.2.1 hd ht (kk w H locs ls hp hh hs hl)
theorem x_acmp_eq (Γ : xC p s m meth c G cc nL own rt) {x y : Nat} {off : Int} {tgt : Nat} (hd : decode cc pc = .ok (.if_acmp .eq off, 3)) (ht : (pc : Int) + off = (tgt : Int)) (kt : x = y → xJ p l e R s m args below meth c G nL Q P k n tgt lv st) (kf : ¬ x = y → xJ p l e R s m args below meth c G nL Q P k n (pc + 3) lv st) : xJ p l e R s m args below meth c G nL Q P k n pc lv (.ref y :: .ref x :: st) := fun w H locs ls hp hh hs hl => lv_acmp_eq (rx := some x) (ry := some y) Γ.1 Γ.2.1 hd ht (fun q => kt (Option.some.inj q) w H locs ls hp hh hs hl) (fun q => kf (fun z => q (by rw [z])) w H locs ls hp hh hs hl)
theorem x_acmp_ne (Γ : xC p s m meth c G cc nL own rt) {x y : Nat} {off : Int} {tgt : Nat} (hd : decode cc pc = .ok (.if_acmp .ne off, 3)) (ht : (pc : Int) + off = (tgt : Int)) (kt : ¬ x = y → xJ p l e R s m args below meth c G nL Q P k n tgt lv st) (kf : x = y → xJ p l e R s m args below meth c G nL Q P k n (pc + 3) lv st) : xJ p l e R s m args below meth c G nL Q P k n pc lv (.ref y :: .ref x :: st) := fun w H locs ls hp hh hs hl => lv_acmp_ne (rx := some x) (ry := some y) Γ.1 Γ.2.1 hd ht (fun q => kt (fun z => q (by rw [z])) w H locs ls hp hh hs hl) (fun q => kf (Option.some.inj q) w H locs ls hp hh hs hl)
theorem x_lcmp (Γ : xC p s m meth c G cc nL own rt) {x y : Int64}  (hd : decode cc pc = .ok (.lcmp, 1)) (kk : xJ p l e R s m args below meth c G nL Q P k n (pc + 1) lv (.int (lg_cmp x y) :: st)) : xJ p l e R s m args below meth c G nL Q P k n pc lv (.long y :: .long x :: st) := fun w H locs ls hp hh hs hl => W.lcmp Γ.1 Γ.2.1 hd (kk w H locs ls hp hh hs hl)
end XJ
end XK

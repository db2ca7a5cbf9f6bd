section
-- ===== PART A: goes FIRST, ahead of the names: the tables' words, and 'selects' of the private methods out of them =====
/-- a private method of a class that the tables say can be made, by its rows of tables_1 -/
def lw_okq (q : MethodName × Nat) : Prop := (q.1.cls ≠ "java/lang/invoke/MethodHandle" ∧ q.1.cls ≠ "java/lang/invoke/VarHandle") ∧ Cond.instantiable q.1.cls q.2 ∈ tables_1 ∧ Cond.privateMethod q.1 ∈ tables_1 ∧ Cond.instanceMethod q.1 ∈ tables_1
theorem lw_p0 : lw_okq (⟨"java/lang/Throwable", "fillInStackTrace", "(I)Ljava/lang/Throwable;"⟩, 6) := ⟨⟨by decide +kernel, by decide +kernel⟩, List.mem_of_getElem? (i := 122) (by decide +kernel), List.mem_of_getElem? (i := 120) (by decide +kernel), List.mem_of_getElem? (i := 121) (by decide +kernel)⟩
theorem lw_p1 : lw_okq (⟨"LeftThings", "endDay", "()I"⟩, 7) := ⟨⟨by decide +kernel, by decide +kernel⟩, List.mem_of_getElem? (i := 20) (by decide +kernel), List.mem_of_getElem? (i := 168) (by decide +kernel), List.mem_of_getElem? (i := 169) (by decide +kernel)⟩
theorem lw_p2 : lw_okq (⟨"LeftThings", "oweFees", "()V"⟩, 7) := ⟨⟨by decide +kernel, by decide +kernel⟩, List.mem_of_getElem? (i := 20) (by decide +kernel), List.mem_of_getElem? (i := 172) (by decide +kernel), List.mem_of_getElem? (i := 173) (by decide +kernel)⟩
theorem lw_p3 : lw_okq (⟨"LeftThings$Thing", "isAtCounter", "()Z"⟩, 12) := ⟨⟨by decide +kernel, by decide +kernel⟩, List.mem_of_getElem? (i := 197) (by decide +kernel), List.mem_of_getElem? (i := 195) (by decide +kernel), List.mem_of_getElem? (i := 196) (by decide +kernel)⟩
theorem lw_p4 : lw_okq (⟨"LeftThings$Thing", "hasLoan", "()Z"⟩, 12) := ⟨⟨by decide +kernel, by decide +kernel⟩, List.mem_of_getElem? (i := 197) (by decide +kernel), List.mem_of_getElem? (i := 203) (by decide +kernel), List.mem_of_getElem? (i := 204) (by decide +kernel)⟩
theorem lw_p5 : lw_okq (⟨"LeftThings", "sellCalled", "()I"⟩, 7) := ⟨⟨by decide +kernel, by decide +kernel⟩, List.mem_of_getElem? (i := 20) (by decide +kernel), List.mem_of_getElem? (i := 207) (by decide +kernel), List.mem_of_getElem? (i := 208) (by decide +kernel)⟩
theorem lw_p6 : lw_okq (⟨"LeftThings$Thing", "isCalled", "()Z"⟩, 12) := ⟨⟨by decide +kernel, by decide +kernel⟩, List.mem_of_getElem? (i := 197) (by decide +kernel), List.mem_of_getElem? (i := 211) (by decide +kernel), List.mem_of_getElem? (i := 212) (by decide +kernel)⟩
theorem lw_p7 : lw_okq (⟨"LeftThings", "sell", "(LLeftThings$Thing;)V"⟩, 7) := ⟨⟨by decide +kernel, by decide +kernel⟩, List.mem_of_getElem? (i := 20) (by decide +kernel), List.mem_of_getElem? (i := 215) (by decide +kernel), List.mem_of_getElem? (i := 216) (by decide +kernel)⟩
theorem lw_p8 : lw_okq (⟨"LeftThings", "putIntoPurse", "(II)V"⟩, 7) := ⟨⟨by decide +kernel, by decide +kernel⟩, List.mem_of_getElem? (i := 20) (by decide +kernel), List.mem_of_getElem? (i := 222) (by decide +kernel), List.mem_of_getElem? (i := 223) (by decide +kernel)⟩
theorem lw_p9 : lw_okq (⟨"LeftThings$Thing", "endLoan", "()V"⟩, 12) := ⟨⟨by decide +kernel, by decide +kernel⟩, List.mem_of_getElem? (i := 197) (by decide +kernel), List.mem_of_getElem? (i := 229) (by decide +kernel), List.mem_of_getElem? (i := 230) (by decide +kernel)⟩
theorem lw_p10 : lw_okq (⟨"LeftThings", "giveAway", "(LLeftThings$Thing;II)V"⟩, 7) := ⟨⟨by decide +kernel, by decide +kernel⟩, List.mem_of_getElem? (i := 20) (by decide +kernel), List.mem_of_getElem? (i := 233) (by decide +kernel), List.mem_of_getElem? (i := 234) (by decide +kernel)⟩
theorem lw_p11 : lw_okq (⟨"LeftThings", "dropEndedWishes", "()V"⟩, 7) := ⟨⟨by decide +kernel, by decide +kernel⟩, List.mem_of_getElem? (i := 20) (by decide +kernel), List.mem_of_getElem? (i := 237) (by decide +kernel), List.mem_of_getElem? (i := 238) (by decide +kernel)⟩
theorem lw_p12 : lw_okq (⟨"java/util/ArrayList", "fastRemove", "([Ljava/lang/Object;I)V"⟩, 3) := ⟨⟨by decide +kernel, by decide +kernel⟩, List.mem_of_getElem? (i := 28) (by decide +kernel), List.mem_of_getElem? (i := 245) (by decide +kernel), List.mem_of_getElem? (i := 246) (by decide +kernel)⟩
theorem lw_p13 : lw_okq (⟨"LeftThings$Thing", "moveTo", "(II)V"⟩, 12) := ⟨⟨by decide +kernel, by decide +kernel⟩, List.mem_of_getElem? (i := 197) (by decide +kernel), List.mem_of_getElem? (i := 252) (by decide +kernel), List.mem_of_getElem? (i := 253) (by decide +kernel)⟩
theorem lw_p14 : lw_okq (⟨"LeftThings", "sellUnfetched", "()I"⟩, 7) := ⟨⟨by decide +kernel, by decide +kernel⟩, List.mem_of_getElem? (i := 20) (by decide +kernel), List.mem_of_getElem? (i := 275) (by decide +kernel), List.mem_of_getElem? (i := 276) (by decide +kernel)⟩
theorem lw_p15 : lw_okq (⟨"LeftThings", "driveVan", "()V"⟩, 7) := ⟨⟨by decide +kernel, by decide +kernel⟩, List.mem_of_getElem? (i := 20) (by decide +kernel), List.mem_of_getElem? (i := 279) (by decide +kernel), List.mem_of_getElem? (i := 280) (by decide +kernel)⟩
def lw_privs_1 : List (MethodName × Nat) := [(⟨"java/lang/Throwable", "fillInStackTrace", "(I)Ljava/lang/Throwable;"⟩, 6), (⟨"LeftThings", "endDay", "()I"⟩, 7), (⟨"LeftThings", "oweFees", "()V"⟩, 7), (⟨"LeftThings$Thing", "isAtCounter", "()Z"⟩, 12), (⟨"LeftThings$Thing", "hasLoan", "()Z"⟩, 12), (⟨"LeftThings", "sellCalled", "()I"⟩, 7), (⟨"LeftThings$Thing", "isCalled", "()Z"⟩, 12), (⟨"LeftThings", "sell", "(LLeftThings$Thing;)V"⟩, 7), (⟨"LeftThings", "putIntoPurse", "(II)V"⟩, 7), (⟨"LeftThings$Thing", "endLoan", "()V"⟩, 12), (⟨"LeftThings", "giveAway", "(LLeftThings$Thing;II)V"⟩, 7), (⟨"LeftThings", "dropEndedWishes", "()V"⟩, 7), (⟨"java/util/ArrayList", "fastRemove", "([Ljava/lang/Object;I)V"⟩, 3), (⟨"LeftThings$Thing", "moveTo", "(II)V"⟩, 12), (⟨"LeftThings", "sellUnfetched", "()I"⟩, 7), (⟨"LeftThings", "driveVan", "()V"⟩, 7)]
theorem lw_r1 : ∀ q ∈ lw_privs_1, lw_okq q := List.forall_mem_cons.mpr ⟨lw_p0, List.forall_mem_cons.mpr ⟨lw_p1, List.forall_mem_cons.mpr ⟨lw_p2, List.forall_mem_cons.mpr ⟨lw_p3, List.forall_mem_cons.mpr ⟨lw_p4, List.forall_mem_cons.mpr ⟨lw_p5, List.forall_mem_cons.mpr ⟨lw_p6, List.forall_mem_cons.mpr ⟨lw_p7, List.forall_mem_cons.mpr ⟨lw_p8, List.forall_mem_cons.mpr ⟨lw_p9, List.forall_mem_cons.mpr ⟨lw_p10, List.forall_mem_cons.mpr ⟨lw_p11, List.forall_mem_cons.mpr ⟨lw_p12, List.forall_mem_cons.mpr ⟨lw_p13, List.forall_mem_cons.mpr ⟨lw_p14, List.forall_mem_cons.mpr ⟨lw_p15, fun _ h => absurd h List.not_mem_nil⟩⟩⟩⟩⟩⟩⟩⟩⟩⟩⟩⟩⟩⟩⟩⟩
theorem lw_p16 : lw_okq (⟨"LeftThings", "hasRoomFor", "(II)Z"⟩, 7) := ⟨⟨by decide +kernel, by decide +kernel⟩, List.mem_of_getElem? (i := 20) (by decide +kernel), List.mem_of_getElem? (i := 283) (by decide +kernel), List.mem_of_getElem? (i := 284) (by decide +kernel)⟩
theorem lw_p17 : lw_okq (⟨"LeftThings", "sizesAt", "(I)I"⟩, 7) := ⟨⟨by decide +kernel, by decide +kernel⟩, List.mem_of_getElem? (i := 20) (by decide +kernel), List.mem_of_getElem? (i := 288) (by decide +kernel), List.mem_of_getElem? (i := 289) (by decide +kernel)⟩
theorem lw_p18 : lw_okq (⟨"LeftThings", "thingNumbered", "(I)LLeftThings$Thing;"⟩, 7) := ⟨⟨by decide +kernel, by decide +kernel⟩, List.mem_of_getElem? (i := 20) (by decide +kernel), List.mem_of_getElem? (i := 304) (by decide +kernel), List.mem_of_getElem? (i := 305) (by decide +kernel)⟩
theorem lw_p19 : lw_okq (⟨"LeftThings$Thing", "placeAtBeginningOf", "(I)I"⟩, 12) := ⟨⟨by decide +kernel, by decide +kernel⟩, List.mem_of_getElem? (i := 197) (by decide +kernel), List.mem_of_getElem? (i := 329) (by decide +kernel), List.mem_of_getElem? (i := 330) (by decide +kernel)⟩
theorem lw_p20 : lw_okq (⟨"java/util/ArrayList", "add", "(Ljava/lang/Object;[Ljava/lang/Object;I)V"⟩, 3) := ⟨⟨by decide +kernel, by decide +kernel⟩, List.mem_of_getElem? (i := 28) (by decide +kernel), List.mem_of_getElem? (i := 423) (by decide +kernel), List.mem_of_getElem? (i := 424) (by decide +kernel)⟩
theorem lw_p21 : lw_okq (⟨"java/util/ArrayList", "grow", "()[Ljava/lang/Object;"⟩, 3) := ⟨⟨by decide +kernel, by decide +kernel⟩, List.mem_of_getElem? (i := 28) (by decide +kernel), List.mem_of_getElem? (i := 427) (by decide +kernel), List.mem_of_getElem? (i := 428) (by decide +kernel)⟩
theorem lw_p22 : lw_okq (⟨"java/util/ArrayList", "grow", "(I)[Ljava/lang/Object;"⟩, 3) := ⟨⟨by decide +kernel, by decide +kernel⟩, List.mem_of_getElem? (i := 28) (by decide +kernel), List.mem_of_getElem? (i := 431) (by decide +kernel), List.mem_of_getElem? (i := 432) (by decide +kernel)⟩
theorem lw_p23 : lw_okq (⟨"LeftThings$Thing", "beginLoan", "(II)V"⟩, 12) := ⟨⟨by decide +kernel, by decide +kernel⟩, List.mem_of_getElem? (i := 197) (by decide +kernel), List.mem_of_getElem? (i := 503) (by decide +kernel), List.mem_of_getElem? (i := 504) (by decide +kernel)⟩
def lw_privs_2 : List (MethodName × Nat) := [(⟨"LeftThings", "hasRoomFor", "(II)Z"⟩, 7), (⟨"LeftThings", "sizesAt", "(I)I"⟩, 7), (⟨"LeftThings", "thingNumbered", "(I)LLeftThings$Thing;"⟩, 7), (⟨"LeftThings$Thing", "placeAtBeginningOf", "(I)I"⟩, 12), (⟨"java/util/ArrayList", "add", "(Ljava/lang/Object;[Ljava/lang/Object;I)V"⟩, 3), (⟨"java/util/ArrayList", "grow", "()[Ljava/lang/Object;"⟩, 3), (⟨"java/util/ArrayList", "grow", "(I)[Ljava/lang/Object;"⟩, 3), (⟨"LeftThings$Thing", "beginLoan", "(II)V"⟩, 12)]
theorem lw_r2 : ∀ q ∈ lw_privs_2, lw_okq q := List.forall_mem_cons.mpr ⟨lw_p16, List.forall_mem_cons.mpr ⟨lw_p17, List.forall_mem_cons.mpr ⟨lw_p18, List.forall_mem_cons.mpr ⟨lw_p19, List.forall_mem_cons.mpr ⟨lw_p20, List.forall_mem_cons.mpr ⟨lw_p21, List.forall_mem_cons.mpr ⟨lw_p22, List.forall_mem_cons.mpr ⟨lw_p23, fun _ h => absurd h List.not_mem_nil⟩⟩⟩⟩⟩⟩⟩⟩
def lw_privs : List (MethodName × Nat) := lw_privs_1 ++ (lw_privs_2)
def lw_tbl : List Cond := k2_sels lw_privs ++ tables_1
theorem lw_privs_ok : ∀ q ∈ lw_privs, lw_okq q := by
  show ∀ q ∈ lw_privs_1 ++ (lw_privs_2), lw_okq q
  exact List.forall_mem_append.mpr ⟨lw_r1, lw_r2⟩
-- ===== end of PART A; then your names; then what follows =====
end
section
/-! ===== BEGIN words of one list among another's, by their places ===== -/
theorem goodIn_r {big : List Cond} (ws : List Cond) (ps : List Nat) (hp : ws = ps.filterMap (fun i => big[i]?)) (h : ws.all goodWord = true) : GoodIn big ws := by
  intro w hw
  have h1 := List.all_eq_true.mp h w hw
  rw [hp] at hw
  obtain ⟨i, -, hi⟩ := List.mem_filterMap.mp hw
  have hm : w ∈ big := by first | exact List.mem_of_getElem? hi | exact List.getElem?_mem hi
  exact ⟨hm, good_of_word h1⟩
theorem goodIn_app {big a b : List Cond} (ha : GoodIn big a) (hb : GoodIn big b) : GoodIn big (a ++ b) := fun w h => (List.mem_append.mp h).elim (ha w) (hb w)
theorem goodIn_ca {big a b : List Cond} {c : Cond} (ha : GoodIn big (c :: a)) (hb : GoodIn big b) : GoodIn big (c :: (a ++ b)) := fun w h => (List.mem_cons.mp h).elim (fun e => ha w (List.mem_cons.mpr (Or.inl e))) (fun h => (List.mem_append.mp h).elim (fun h => ha w (List.mem_cons.mpr (Or.inr h))) (hb w))
theorem goodIn_sub {big ws : List Cond} (hm : ∀ w ∈ ws, w ∈ big) (h : ws.all goodWord = true) : GoodIn big ws := fun w hw => ⟨hm w hw, good_of_word (List.all_eq_true.mp h w hw)⟩
/-! ===== END ===== -/

/-! ===== BEGIN exceptions that leave a method, and their catching by the caller (launches without stack traces) ===== -/
section VXA
/-! The laws vx_back, vx_callV, vx_callS, vx_callSW, vx_throw0, vx_throwS follow proofs of the library, with one case more: JvmDerived/Free/Laws.lean (Back.of_free), Shelf42/LK1.lean (callV, callS), Shelf/KitTraced.lean (throwNew0V, throwNewS). -/
/-- where a method has thrown q: the class by its name, the cell, what was written, the world -/
def vx_T (XC : String → State → State → Prop) (st : State) (q : Addr) (t : State) (mc ms : Nat) (free : Addr → Prop) : Prop :=
  ∃ (E : String) (ce : Cell) (L : List Loc), XC E st t ∧ t.heap[q]? = some ce ∧ ce.vm = .none ∧ st.vm.findClass E = some ce.cls ∧ st.WarmedH t.vm ∧ st.sameButNew ({ t with vm := st.vm } : State) L mc ms ∧ ∀ z ∈ L, free z.base
def vx_Q (Qc : Array Value → State → Outcome → State → Prop) (XC : String → State → State → Prop) (mc ms : Nat) (free : Addr → Prop) : Array Value → State → Outcome → State → Prop := fun a st o t =>
  (Qc a st o t ∧ ∃ L, FrameEnd st o t L mc ms ∧ ∀ q ∈ L, free q.base) ∨ ∃ q, o = .threw q ∧ vx_T XC st q t mc ms free
/-- a callee that returns or throws -/
def vx_Met (l : Launch) (y : MethodName) (ws : List Cond) (rm : Room) (Pc : Array Value → State → Prop) (Qc : Array Value → State → Outcome → State → Prop) (XC : String → State → State → Prop) (mc ms : Nat) (free : Addr → Prop) : Prop :=
  MetFree l y (headSpec ws rm) Pc (fun _ _ _ _ _ => True) (vx_Q Qc XC mc ms free)
def vx_Post (XC : String → State → State → Prop) (mc ms : Nat) (free : Addr → Prop) : Pt → Array Value → Addr → Pt → Prop := fun A a q B =>
  ∃ (g : JFrame) (mk : MethodId) (t : State) (L : List Loc) (E : String) (ce : Cell), B.U.heap = t.heap ∧ B.U.vm = t.vm ∧ XC E (A.U.calling g mk a) t ∧ t.heap[q]? = some ce ∧ ce.vm = .none ∧ A.U.vm.findClass E = some ce.cls ∧ B.locs = A.locs ++ L ∧ (∀ z ∈ L, free z.base) ∧ B.cells = A.cells + mc ∧ B.slots = A.slots + ms
def vx_Back (l : Launch) (R : Room) (p : Program) (e : Env) (below : List Frame) (s : State) (sargs : Array Value) (y : MethodName) (len W9 : Nat)
    (Pre : Pt → Array Value → Prop) (Post : Pt → Array Value → Option Value → Pt → Prop) (PostX : Pt → Array Value → Addr → Pt → Prop) : Prop :=
  ∀ (m : MethodId) (meth : Method) (c : Code) (A : Pt) (g : JFrame) (ig : Instr) (mk : MethodId) (a : Array Value),
    Stand p l e R s m sargs below meth c A.U A.locs A.cells A.slots → g.method = m → g.locals.size = c.maxLocals → decode c.code g.pc = .ok (ig, len) →
    2 * g.monitorRoom + (g.stack.map fun v => v.category).sum ≤ W9 → A.U.methodNamed? y = some mk → Pre A a →
    (∃ (v : Option Value) (B : Pt), Stand p l e R s m sargs below meth c B.U B.locs B.cells B.slots ∧ Post A a v B ∧
      Steps p.tables e below (doInvoke e (A.U.setTop g) [] mk a).1 (B.U.setTop { g with pc := g.pc + len, stack := v.toList ++ g.stack })) ∨
    (∃ (q : Addr) (B : Pt), Stand p l e R s m sargs below meth c B.U B.locs B.cells B.slots ∧ PostX A a q B ∧
      Steps p.tables e below (doInvoke e (A.U.setTop g) [] mk a).1 ((B.U.setTop g).pushFrame (.throwing q)))
section Payer
variable {l : Launch} {R : Room} {p : Program} {e : Env} {below : List Frame} {s : State} {sargs : Array Value} {y : MethodName} {len W9 : Nat}
theorem vx_back {ws : List Cond} {rm : Room} {Pc : Array Value → State → Prop} {Qc : Array Value → State → Outcome → State → Prop} {XC : String → State → State → Prop} {mc ms : Nat} {free : Addr → Prop} {bytes : ByteArray} {maxL : Nat} {ret : Option FieldType}
    (hM : vx_Met l y ws rm Pc Qc XC mc ms free) (hblind : FrameBlind Pc) (hrc : rm.cells = mc) (hrs : rm.slots = ms)
    (hframes : rm.frames + 1 ≤ R.frames) (hlocals : W9 + (maxL + 11) + rm.locals ≤ R.locals)
    (hws : ∀ w ∈ ws, ∀ a' U, s.WarmedH U.vm → w.before a' U = true) (hcode : Cond.code y bytes maxL ret ∈ ws) (hinit : ∀ a' U, s.WarmedH U.vm → (Cond.initialized y.cls).before a' U = true) :
    vx_Back l R p e below s sargs y len W9 (PreOf R mc ms Pc) (PostOf Qc mc ms free) (vx_Post XC mc ms free) := by
  intro m meth c A g ig mk a X hg hsize hdg hW hn hp
  have h1 : (headSpec ws rm).pre.before a A.U = true := atoms_intro fun w hw => hws w hw _ _ X.warmed
  have h2 : (Cond.code y bytes maxL ret).before a A.U = true := hws _ hcode _ _ X.warmed
  have h3 : (Cond.initialized y.cls).before a A.U = true := hinit _ _ X.warmed
  have h4 : A.cells + (headSpec ws rm).room.cells ≤ R.cells := by rw [show (headSpec ws rm).room.cells = mc from hrc]; exact hp.1
  have h5 : A.slots + (headSpec ws rm).room.slots ≤ R.slots := by rw [show (headSpec ws rm).room.slots = ms from hrs]; exact hp.2.1
  have hPc : Pc a (A.U.calling g mk a) := hblind _ _ _ _ hp.2.2
  obtain ⟨U, Ls, c0, s0⟩ := A
  dsimp only [Pt.U, Pt.locs, Pt.cells, Pt.slots] at h1 h2 h3 h4 h5 X hn hPc ⊢
  obtain ⟨methY, cY, hmY, hcY, -, hlY, -, -, -, -⟩ := Cond.code_spec hn h2
  obtain ⟨kY, hkY, -⟩ := className_of_methodNamed hn
  have hinitY : kY.init = .initialized := Cond.initialized_spec (findClass_of_methodNamed hn) hkY h3
  have h : At U g.method c below := by rw [hg]; exact X.here
  have hlocals9 : W9 + (maxL + 11) + (headSpec ws rm).room.locals ≤ R.locals := hlocals
  have happ : (headSpec ws rm).appliesLoose y e.platform (U.calling g mk a) = true :=
    Spec.appliesLoose_calling (g := g) h hdg hn hkY hinitY
      (X.room_calling (g := g) (R' := (headSpec ws rm).room) hsize hmY hcY hframes (by rw [hlY]; omega) h4 h5) h1
  obtain ⟨mid, hmid⟩ := h.above
  have hfr : (U.setTop g).frames = (.java g :: mid) ++ below := by rw [State.frames_setTop' g h.top, hmid]; rfl
  obtain ⟨o, s₂, hsteps, -, hend, hq⟩ := Steps.callFree hM p X.admits X.cas X.clock (acts := []) hfr happ hPc trivial
  have hq' : vx_Q Qc XC mc ms free a (U.calling g mk a) o s₂ := hq
  rw [State.frames_setTop' g h.top] at hend
  obtain ⟨g₀, hg0⟩ := Option.isSome_iff_exists.mp h.top
  obtain ⟨r, hr⟩ := State.topJava?_eq_some.mp hg0
  have hr' : (({ U with heap := s₂.heap, slotsUsed := s₂.slotsUsed } : State).setVm s₂.vm).frames = .java g₀ :: r := hr
  rcases hq' with ⟨hqc, L, hfe, hL⟩ | ⟨q, rfl, E, ce, L, hx, hce, hcv, hcl, hW₂, hsm, hL⟩
  · obtain ⟨⟨v, rfl⟩, hW₂, e2, q2, q3, q4, q5, q6⟩ := id hfe
    have e3 : s₂ = ({ (U.calling g mk a).setFrames s₂.frames with heap := s₂.heap, slotsUsed := s₂.slotsUsed } : State).setVm s₂.vm := by
      have : s₂ = ({ s₂ with vm := (U.calling g mk a).vm } : State).setVm s₂.vm := rfl
      rw [e2] at this
      exact this
    obtain ⟨c₂, i₂, len₂, hc₂, hd₂, hf₂⟩ := hend
    have hW' : U.WarmedH s₂.vm := hW₂
    have hcc : c₂ = c := by
      have h1 : s₂.code? g.method = U.code? g.method := by
        rw [State.code?_eq, State.code?_eq, hW'.alike.method?]
      exact Option.some.inj (hc₂.symm.trans (h1.trans h.code))
    subst hcc
    have hlen : len₂ = len := by rw [hdg] at hd₂; cases hd₂; rfl
    subst hlen
    have hs₂ : s₂ = (({ U with heap := s₂.heap, slotsUsed := s₂.slotsUsed } : State).setVm s₂.vm).setTop { g with pc := g.pc + len₂, stack := v.toList ++ g.stack } := by
      refine e3.trans ?_
      rw [hf₂, State.calling_eq h.top, State.setFrames_setFrames, State.setTop_of_frames _ hr', hr]
      rfl
    have hsame : U.sameButNew ({ U with heap := s₂.heap, slotsUsed := s₂.slotsUsed } : State) L mc ms := by
      refine ⟨?_, q2, q3, q4, q5, q6⟩
      obtain ⟨t, ht, -⟩ := State.frames_cons hr
      show ({ U with heap := s₂.heap, slotsUsed := s₂.slotsUsed } : State) = { U.setFrames U.frames with heap := s₂.heap, slotsUsed := s₂.slotsUsed }
      rw [State.setFrames_self ht]
    subst hg
    refine Or.inl ⟨v, ⟨(({ U with heap := s₂.heap, slotsUsed := s₂.slotsUsed } : State).setVm s₂.vm), Ls ++ L, c0 + mc, s0 + ms⟩,
      ⟨X.admits, X.cas, X.clock, X.frames, X.room, X.hears, X.method, X.code, (X.here.setHeapUsed s₂.heap s₂.slotsUsed).setVm hW'.alike, X.tail, State.WarmedH.trans X.warmed hW', X.limits, X.bytes, X.same.trans (hsame.setVm s.vm)⟩,
      ⟨g, mk, s₂, L, rfl, rfl, hqc, rfl, hL, rfl, rfl⟩, ?_⟩
    show Steps p.tables e below _ ((({ U with heap := s₂.heap, slotsUsed := s₂.slotsUsed } : State).setVm s₂.vm).setTop { g with pc := g.pc + len₂, stack := v.toList ++ g.stack })
    rw [← hs₂]
    exact hsteps
  · obtain ⟨e2, q2, q3, q4, q5, q6⟩ := id hsm
    have e3 : s₂ = ({ (U.calling g mk a).setFrames s₂.frames with heap := s₂.heap, slotsUsed := s₂.slotsUsed } : State).setVm s₂.vm := by
      have : s₂ = ({ s₂ with vm := (U.calling g mk a).vm } : State).setVm s₂.vm := rfl
      rw [e2] at this
      exact this
    have hf₂ : s₂.frames = .throwing q :: .java g :: U.frames.tail := hend
    have hW' : U.WarmedH s₂.vm := hW₂
    have hs₂ : s₂ = ((({ U with heap := s₂.heap, slotsUsed := s₂.slotsUsed } : State).setVm s₂.vm).setTop g).pushFrame (.throwing q) := by
      refine e3.trans ?_
      rw [hf₂, State.calling_eq h.top, State.setFrames_setFrames, State.pushFrame, State.frames_setTop _ hr', State.setTop_of_frames _ hr', State.setFrames_setFrames, hr]
      rfl
    have hsame : U.sameButNew ({ U with heap := s₂.heap, slotsUsed := s₂.slotsUsed } : State) L mc ms := by
      refine ⟨?_, q2, q3, q4, q5, q6⟩
      obtain ⟨t, ht, -⟩ := State.frames_cons hr
      show ({ U with heap := s₂.heap, slotsUsed := s₂.slotsUsed } : State) = { U.setFrames U.frames with heap := s₂.heap, slotsUsed := s₂.slotsUsed }
      rw [State.setFrames_self ht]
    subst hg
    refine Or.inr ⟨q, ⟨(({ U with heap := s₂.heap, slotsUsed := s₂.slotsUsed } : State).setVm s₂.vm), Ls ++ L, c0 + mc, s0 + ms⟩,
      ⟨X.admits, X.cas, X.clock, X.frames, X.room, X.hears, X.method, X.code, (X.here.setHeapUsed s₂.heap s₂.slotsUsed).setVm hW'.alike, X.tail, State.WarmedH.trans X.warmed hW', X.limits, X.bytes, X.same.trans (hsame.setVm s.vm)⟩,
      ⟨g, mk, s₂, L, E, ce, rfl, rfl, hx, hce, hcv, hcl, rfl, hL, rfl, rfl⟩, ?_⟩
    show Steps p.tables e below _ (((({ U with heap := s₂.heap, slotsUsed := s₂.slotsUsed } : State).setVm s₂.vm).setTop g).pushFrame (.throwing q))
    rw [← hs₂]
    exact hsteps
end Payer
section Calls
variable {p : Program} {l : Launch} {e : Env} {R : Room} {s : State} {m : MethodId} {args : Array Value} {below : List Frame} {meth : Method} {c : Code} {T : State} {locs : List Loc} {cells slots : Nat}
theorem vx_callV (X : Stand p l e R s m args below meth c T locs cells slots) (hexec : p.tables.exec = Jvm.exec) {own C : String} {index : Nat} {y : MethodName} {bytes : ByteArray} {maxL : Nat} {ret : Option FieldType}
    (hown : s.vm.findClass own = some m.cls) (hlink : (Cond.methodLink own index y).before args s = true) (hinst : (Cond.instanceMethod y).before args s = true) (hsel : (Cond.selects C y y).before args s = true)
    (hcode : (Cond.code y bytes maxL ret).before args s = true) (hy : y.cls ≠ "java/lang/invoke/MethodHandle" ∧ y.cls ≠ "java/lang/invoke/VarHandle")
    {W9 : Nat} {Pre : Pt → Array Value → Prop} {Post : Pt → Array Value → Option Value → Pt → Prop} {PostX : Pt → Array Value → Addr → Pt → Prop} (hK : vx_Back l R p e below s args y 3 W9 Pre Post PostX)
    {b : Addr} {cellB : Cell} (hcell : T.heap[b]? = some cellB) (hobj : cellB.vm.isStatics = false) (hcls : s.vm.findClass C = some cellB.cls)
    {g : JFrame} (hg : g.method = m) (hsize : g.locals.size = c.maxLocals) {argsL rest : List Value} (hlen : ∀ sig, parseMethodDescriptor y.desc = some sig → argsL.length = sig.parameters.length)
    (hstack : g.stack = argsL.reverse ++ .ref b :: rest) (hW : 2 * g.monitorRoom + (rest.map fun v => v.category).sum ≤ W9) (hdg : decode c.code g.pc = .ok (.invokevirtual index, 3))
    (hpre : ∀ vm₁, s.WarmedH vm₁ → Pre ⟨T.setVm vm₁, locs, cells, slots⟩ (Value.ref b :: argsL).toArray) :
    (∃ (v : Option Value) (vm₁ : Vm) (B : Pt), s.WarmedH vm₁ ∧ Stand p l e R s m args below meth c B.U B.locs B.cells B.slots ∧ Post ⟨T.setVm vm₁, locs, cells, slots⟩ (Value.ref b :: argsL).toArray v B ∧
      ∀ target, Steps p.tables e below (B.U.setTop { g with pc := g.pc + 3, stack := v.toList ++ rest }) target → Steps p.tables e below (T.setTop g) target) ∨
    (∃ (q : Addr) (vm₁ : Vm) (B : Pt), s.WarmedH vm₁ ∧ Stand p l e R s m args below meth c B.U B.locs B.cells B.slots ∧ PostX ⟨T.setVm vm₁, locs, cells, slots⟩ (Value.ref b :: argsL).toArray q B ∧
      Steps p.tables e below (T.setTop g) ((B.U.setTop { g with stack := rest }).pushFrame (.throwing q))) := by
  obtain ⟨mk, methM, hnamed, hmethM, hstM, habM⟩ := Cond.instanceMethod_spec hinst
  obtain ⟨methM', cM, hmethM', -, -, -, -, -, -, hsigM⟩ := Cond.code_spec hnamed hcode
  cases hmethM.symm.trans hmethM'
  obtain ⟨c2, r2, m2, q1, q2, q3, q4, kP, hkP, hkPi⟩ := Cond.selects_spec hsel
  cases hcls.symm.trans q1
  cases (State.methodFound?_of_named hnamed hy).symm.trans q2
  cases hnamed.symm.trans q3
  have hselP : selectMethod e.platform s.vm cellB.cls mk = .method mk := by rw [Launch.admits_selectMethod X.admits]; exact q4
  obtain ⟨vm₁, X₁, hstep₁⟩ := X.invokevirtual hexec hown hlink hnamed hmethM hstM hkP hkPi hy (a := b) (cell := cellB) hcell
    (fun z h => by rw [h] at hobj; cases hobj) hselP hmethM habM hkP hkPi (g := g) hg (argsL := argsL) (rest := rest) (hlen _ hsigM) hstack hdg
  rcases hK m meth c ⟨T.setVm vm₁, locs, cells, slots⟩ { g with stack := rest } (.invokevirtual index) mk (Value.ref b :: argsL).toArray X₁ hg hsize hdg hW (X₁.named hnamed) (hpre vm₁ X₁.warmed) with ⟨v, B, X', hpost, hsteps⟩ | ⟨q, B, X', hpost, hsteps⟩
  · exact Or.inl ⟨v, vm₁, B, X₁.warmed, X', hpost, fun target h => hstep₁ _ fun acts => by rw [doInvoke_state]; exact hsteps.trans h⟩
  · exact Or.inr ⟨q, vm₁, B, X₁.warmed, X', hpost, hstep₁ _ fun acts => by rw [doInvoke_state]; exact hsteps⟩
theorem vx_callS (X : Stand p l e R s m args below meth c T locs cells slots) (hexec : p.tables.exec = Jvm.exec) {own : String} {index : Nat} {y : MethodName} {bytes : ByteArray} {maxL : Nat} {ret : Option FieldType}
    (hown : s.vm.findClass own = some m.cls) (hlink : (Cond.methodLink own index y).before args s = true) (hstat : (Cond.static y).before args s = true) (hinit : (Cond.initialized y.cls).before args s = true)
    (hcode : (Cond.code y bytes maxL ret).before args s = true) (hy : y.cls ≠ "java/lang/invoke/MethodHandle" ∧ y.cls ≠ "java/lang/invoke/VarHandle")
    {W9 : Nat} {Pre : Pt → Array Value → Prop} {Post : Pt → Array Value → Option Value → Pt → Prop} {PostX : Pt → Array Value → Addr → Pt → Prop} (hK : vx_Back l R p e below s args y 3 W9 Pre Post PostX)
    {g : JFrame} (hg : g.method = m) (hsize : g.locals.size = c.maxLocals) {argsL rest : List Value} (hlen : ∀ sig, parseMethodDescriptor y.desc = some sig → argsL.length = sig.parameters.length)
    (hstack : g.stack = argsL.reverse ++ rest) (hW : 2 * g.monitorRoom + (rest.map fun v => v.category).sum ≤ W9) (hdg : decode c.code g.pc = .ok (.invokestatic index, 3))
    (hpre : ∀ vm₁, s.WarmedH vm₁ → Pre ⟨T.setVm vm₁, locs, cells, slots⟩ argsL.toArray) :
    (∃ (v : Option Value) (vm₁ : Vm) (B : Pt), s.WarmedH vm₁ ∧ Stand p l e R s m args below meth c B.U B.locs B.cells B.slots ∧ Post ⟨T.setVm vm₁, locs, cells, slots⟩ argsL.toArray v B ∧
      ∀ target, Steps p.tables e below (B.U.setTop { g with pc := g.pc + 3, stack := v.toList ++ rest }) target → Steps p.tables e below (T.setTop g) target) ∨
    (∃ (q : Addr) (vm₁ : Vm) (B : Pt), s.WarmedH vm₁ ∧ Stand p l e R s m args below meth c B.U B.locs B.cells B.slots ∧ PostX ⟨T.setVm vm₁, locs, cells, slots⟩ argsL.toArray q B ∧
      Steps p.tables e below (T.setTop g) ((B.U.setTop { g with stack := rest }).pushFrame (.throwing q))) := by
  obtain ⟨mk, hnamed⟩ := Cond.code_named hcode
  obtain ⟨methM, cM, hmethM, -, -, -, -, -, -, hsigM⟩ := Cond.code_spec hnamed hcode
  have hstatic : methM.isStatic = true := Cond.static_spec hnamed hmethM hstat
  obtain ⟨kP, hkP, -⟩ := className_of_methodNamed hnamed
  have hinitP : kP.init = .initialized := Cond.initialized_spec (findClass_of_methodNamed hnamed) hkP hinit
  obtain ⟨vm₁, X₁, hstep₁⟩ := X.invokestatic hexec hown hlink hnamed hmethM hstatic hkP hinitP hy (g := g) hg (argsL := argsL) (rest := rest) (hlen _ hsigM) hstack hdg
  rcases hK m meth c ⟨T.setVm vm₁, locs, cells, slots⟩ { g with stack := rest } (.invokestatic index) mk argsL.toArray X₁ hg hsize hdg hW (X₁.named hnamed) (hpre vm₁ X₁.warmed) with ⟨v, B, X', hpost, hsteps⟩ | ⟨q, B, X', hpost, hsteps⟩
  · exact Or.inl ⟨v, vm₁, B, X₁.warmed, X', hpost, fun target h => hstep₁ _ fun acts => by rw [doInvoke_state]; exact hsteps.trans h⟩
  · exact Or.inr ⟨q, vm₁, B, X₁.warmed, X', hpost, hstep₁ _ fun acts => by rw [doInvoke_state]; exact hsteps⟩
end Calls
theorem vx_cls {s : State} {T : State} {vm₁ : Vm} {E : String} {k : ClassId} (hW : s.WarmedH vm₁) (h : (T.setVm vm₁).vm.findClass E = some k) : s.vm.findClass E = some k := by
  have h1 : vm₁.findClass E = some k := h
  rw [hW.alike.findClass] at h1
  exact h1
/-- the method's frame g, with q thrown over it -/
def vx_W (p : Program) (l : Launch) (e : Env) (R : Room) (s : State) (m : MethodId) (args : Array Value) (below : List Frame) (meth : Method) (c : Code) (H : Heap) (locs : List Loc) (cells slots : Nat) (Q : State → Prop) (g : JFrame) (q : Addr) : Prop :=
  ∀ T : State, T.heap = H → Stand p l e R s m args below meth c T locs cells slots → ∃ t, Steps p.tables e below ((T.setTop g).pushFrame (.throwing q)) t ∧ Q t
def vx_Run (p : Program) (l : Launch) (e : Env) (R : Room) (s : State) (m : MethodId) (args : Array Value) (below : List Frame) (meth : Method) (c : Code) (H : Heap) (locs : List Loc) (cells slots mc ms : Nat) (g : JFrame) (rest : List Value) (Qa : State → Outcome → State → Prop) (XC : String → State → State → Prop) (free : Addr → Prop) : Prop :=
  ∀ T : State, T.heap = H → Stand p l e R s m args below meth c T locs cells slots →
    (∃ (v : Option Value) (st₀ t T' : State) (L : List Loc), st₀.heap = H ∧ Stand p l e R s m args below meth c T' (locs ++ L) (cells + mc) (slots + ms) ∧ (∀ q ∈ L, free q.base) ∧ T'.heap = t.heap ∧ T'.vm = t.vm ∧ Qa st₀ (.returned v) t ∧
      Goes p e below T g T' { g with pc := g.pc + 3, stack := v.toList ++ rest }) ∨
    (∃ (q : Addr) (st₀ t T' : State) (L : List Loc) (E : String) (ce : Cell), st₀.heap = H ∧ Stand p l e R s m args below meth c T' (locs ++ L) (cells + mc) (slots + ms) ∧ (∀ z ∈ L, free z.base) ∧ T'.heap = t.heap ∧ T'.vm = t.vm ∧ XC E st₀ t ∧ t.heap[q]? = some ce ∧ ce.vm = .none ∧ s.vm.findClass E = some ce.cls ∧
      Steps p.tables e below (T.setTop g) ((T'.setTop { g with stack := rest }).pushFrame (.throwing q)))
def vx_X {S : Type} (px : S → Prop) (B : String → S → State → Prop) (A : Nat → Prop) : String → State → State → Prop := fun E st t => ∃ u : S, px u ∧ B E u t ∧ va_F A st t
section Runs
variable {p : Program} {l : Launch} {e : Env} {R : Room} {s : State} {m : MethodId} {args : Array Value} {below : List Frame} {meth : Method} {c : Code} {H : Heap} {locs : List Loc} {cells slots : Nat}
variable {y : MethodName} {bytes cc : ByteArray} {maxL nL mc ms n index : Nat} {ret : Option FieldType} {ws : List Cond} {rm : Room} {Pc : Array Value → State → Prop} {Qc : Array Value → State → Outcome → State → Prop} {XC : String → State → State → Prop} {free : Addr → Prop} {Ts : List Cond} {own C : String} {b : Addr} {As rest : List Value} {g : JFrame}
theorem vx_callBack (cb : CallB R s args own index y bytes maxL ret ws rm mc ms n) (hM : vx_Met l y ws rm Pc Qc XC mc ms free) (hbl : FrameBlind Pc) : vx_Back l R p e below s args y 3 8 (PreOf R mc ms Pc) (PostOf Qc mc ms free) (vx_Post XC mc ms free) := by
  obtain ⟨hrc, hrs, hfr, hlo, hws, hcw, -, hini, -⟩ := cb
  exact vx_back (bytes := bytes) (maxL := maxL) (ret := ret) hM hbl hrc hrs hfr hlo hws hcw (fun a' U hW => word_at hW (Or.inl (by first | rfl | simp [Cond.onTables, Cond.keeps, Cond.steady])) hini)
theorem vx_runV (S : CallFix p m c cc nL s args Ts own) (hM : vx_Met l y ws rm Pc Qc XC mc ms free) (cw : CallW R s args own C index y bytes maxL ret ws rm mc ms n) (hp : PreV s H C b Pc As)
    (hg : g.method = m) (hn : As.length = n) (hsize : g.locals.size = nL) (hstack : g.stack = As.reverse ++ .ref b :: rest) (hW : 2 * g.monitorRoom + (rest.map fun v => v.category).sum ≤ 8) (hdg : decode cc g.pc = .ok (.invokevirtual index, 3)) (hf : cells + mc ≤ R.cells ∧ slots + ms ≤ R.slots) :
    vx_Run p l e R s m args below meth c H locs cells slots mc ms g rest (Qc (Value.ref b :: As).toArray) XC free := by
  have hK : vx_Back l R p e below s args y 3 8 (PreOf R mc ms Pc) (PostOf Qc mc ms free) (vx_Post XC mc ms free) := vx_callBack cw.1 hM hp.1
  obtain ⟨⟨-, -, -, -, -, -, hcode, -, hy, hlen, hl⟩, hin, hse⟩ := cw
  obtain ⟨hx, hb, hml, ho, -⟩ := S
  obtain ⟨-, ⟨cellB, hcB, hoB, hclB⟩, hPc⟩ := hp
  intro T hT X
  rcases vx_callV X hx (C := C) (bytes := bytes) (maxL := maxL) (ret := ret) ho hl hin hse hcode hy hK (by rw [hT]; exact hcB) hoB hclB hg (hsize.trans hml.symm) (argsL := As) (rest := rest) (fun sig h => hn.trans (hlen sig h)) hstack hW (by rw [hb]; exact hdg)
    (fun vm₁ hW₁ => ⟨hf.1, hf.2, hPc (T.setVm vm₁) hT hW₁⟩) with ⟨v, vm₁, ⟨U', l2, c2, s2⟩, hW₁, X', ⟨g', mk, t, L, e1, e2, hq, h1, hL, h2, h3⟩, st⟩ | ⟨q, vm₁, ⟨U', l2, c2, s2⟩, hW₁, X', ⟨g', mk, t, L, E, ce, e1, e2, hq, hce, hcv, hcl, h1, hL, h2, h3⟩, st⟩
  · dsimp only [Pt.U, Pt.locs, Pt.cells, Pt.slots] at X' e1 e2 h1 h2 h3 st
    subst h1; subst h2; subst h3
    exact Or.inl ⟨v, (T.setVm vm₁).calling g' mk (Value.ref b :: As).toArray, t, U', L, hT, X', hL, e1, e2, hq, st⟩
  · dsimp only [Pt.U, Pt.locs, Pt.cells, Pt.slots] at X' e1 e2 h1 h2 h3 st hcl
    subst h1; subst h2; subst h3
    exact Or.inr ⟨q, (T.setVm vm₁).calling g' mk (Value.ref b :: As).toArray, t, U', L, E, ce, hT, X', hL, e1, e2, hq, hce, hcv, vx_cls hW₁ hcl, st⟩
theorem vx_runS (S : CallFix p m c cc nL s args Ts own) (hM : vx_Met l y ws rm Pc Qc XC mc ms free) (cw : CallB R s args own index y bytes maxL ret ws rm mc ms n ∧ (Cond.static y).before args s = true) (hp : PreS s H Pc As)
    (hg : g.method = m) (hn : As.length = n) (hsize : g.locals.size = nL) (hstack : g.stack = As.reverse ++ rest) (hW : 2 * g.monitorRoom + (rest.map fun v => v.category).sum ≤ 8) (hdg : decode cc g.pc = .ok (.invokestatic index, 3)) (hf : cells + mc ≤ R.cells ∧ slots + ms ≤ R.slots) :
    vx_Run p l e R s m args below meth c H locs cells slots mc ms g rest (Qc As.toArray) XC free := by
  have hK : vx_Back l R p e below s args y 3 8 (PreOf R mc ms Pc) (PostOf Qc mc ms free) (vx_Post XC mc ms free) := vx_callBack cw.1 hM hp.1
  obtain ⟨⟨-, -, -, -, -, -, hcode, hini, hy, hlen, hl⟩, hstt⟩ := cw
  obtain ⟨hx, hb, hml, ho, -⟩ := S
  intro T hT X
  rcases vx_callS X hx (bytes := bytes) (maxL := maxL) (ret := ret) ho hl hstt hini hcode hy hK hg (hsize.trans hml.symm) (argsL := As) (rest := rest) (fun sig h => hn.trans (hlen sig h)) hstack hW (by rw [hb]; exact hdg)
    (fun vm₁ hW₁ => ⟨hf.1, hf.2, hp.2 (T.setVm vm₁) hT hW₁⟩) with ⟨v, vm₁, ⟨U', l2, c2, s2⟩, hW₁, X', ⟨g', mk, t, L, e1, e2, hq, h1, hL, h2, h3⟩, st⟩ | ⟨q, vm₁, ⟨U', l2, c2, s2⟩, hW₁, X', ⟨g', mk, t, L, E, ce, e1, e2, hq, hce, hcv, hcl, h1, hL, h2, h3⟩, st⟩
  · dsimp only [Pt.U, Pt.locs, Pt.cells, Pt.slots] at X' e1 e2 h1 h2 h3 st
    subst h1; subst h2; subst h3
    exact Or.inl ⟨v, (T.setVm vm₁).calling g' mk As.toArray, t, U', L, hT, X', hL, e1, e2, hq, st⟩
  · dsimp only [Pt.U, Pt.locs, Pt.cells, Pt.slots] at X' e1 e2 h1 h2 h3 st hcl
    subst h1; subst h2; subst h3
    exact Or.inr ⟨q, (T.setVm vm₁).calling g' mk As.toArray, t, U', L, E, ce, hT, X', hL, e1, e2, hq, hce, hcv, vx_cls hW₁ hcl, st⟩
end Runs
section Rows
variable {p : Program} {l : Launch} {e : Env} {R : Room} {s : State} {m : MethodId} {args : Array Value} {below : List Frame} {meth : Method} {c : Code} {H : Heap} {locs : List Loc} {cells slots : Nat} {Q : State → Prop}
variable {mc ms : Nat} {free : Addr → Prop} {A0 A1 : Nat → Prop} {H0 : Heap} {a : Array Value} {pc : Nat} {ls : Array Slot} {st0 rest : List Value}
theorem vx_keep {st₀ t T' : State} {L : List Loc} (h0 : st₀.heap = H) (e1 : T'.heap = t.heap) (hS : va_S A0 H0 H locs) (hA : ∀ q, q < H.size → A1 q → A0 q) (hf : ∀ q, free q → A0 q) (hL : ∀ q ∈ L, free q.base) (hF : va_F A1 st₀ t) :
    H.size ≤ T'.heap.size ∧ (∀ q : Nat, q < H.size → ¬ A1 q → T'.heap[q]? = H[q]?) ∧ va_S A0 H0 T'.heap (locs ++ L) := by
  obtain ⟨hz, hk⟩ := hF
  rw [h0] at hz hk
  exact ⟨by rw [e1]; exact hz, fun q h1 h2 => by rw [e1]; exact hk q h1 h2,
    ⟨Nat.le_trans hS.1 (by rw [e1]; exact hz), fun q h1 h2 => by rw [e1, hk q (Nat.lt_of_lt_of_le h1 hS.1) (fun z => h2 (hA q (Nat.lt_of_lt_of_le h1 hS.1) z))]; exact hS.2.1 q h1 h2, fun q hq => by
      rcases List.mem_append.mp hq with h | h
      · exact hS.2.2 q h
      · exact hf _ (hL q h)⟩⟩
theorem vx_calli {S SX : Type} {post : Int32 → S → Prop} {px : SX → Prop} {B : S → State → Prop} {BX : String → SX → State → Prop} {AX : Nat → Prop} (hr : vx_Run p l e R s m args below meth c H locs cells slots mc ms (F0 m pc ls st0) rest (va_Qi post B A1 a) (vx_X px BX AX) free) (hS : va_S A0 H0 H locs) (hA : ∀ q, q < H.size → A1 q → A0 q) (hf : ∀ q, free q → A0 q) (hAX : ∀ q, q < H.size → AX q → A0 q)
    (kx : ∀ (E : String) (ce : Cell) (q9 : Addr) (u : SX) (t : State) (H1 : Heap) (locs1 : List Loc), t.heap = H1 → s.vm.Alike t.vm → px u → BX E u t → H.size ≤ H1.size → (∀ q : Nat, q < H.size → ¬ AX q → H1[q]? = H[q]?) → va_S A0 H0 H1 locs1 → H1[q9]? = some ce → ce.vm = .none → s.vm.findClass E = some ce.cls → vx_W p l e R s m args below meth c H1 locs1 (cells + mc) (slots + ms) Q (F0 m pc ls rest) q9)
    (kk : ∀ (r : Int32) (u : S) (t : State) (H1 : Heap) (locs1 : List Loc), t.heap = H1 → s.vm.Alike t.vm → post r u → B u t → H.size ≤ H1.size → (∀ q : Nat, q < H.size → ¬ A1 q → H1[q]? = H[q]?) → va_S A0 H0 H1 locs1 → W p l e R s m args below meth c H1 locs1 (cells + mc) (slots + ms) Q (F0 m (pc + 3) ls (.int r :: rest))) : W p l e R s m args below meth c H locs cells slots Q (F0 m pc ls st0) := by
  intro T hT X
  rcases hr T hT X with ⟨v, st₀, t, T', L, h0, X', hL, e1, e2, ⟨⟨r, u, hv, hp, hb⟩, hF⟩, st⟩ | ⟨q, st₀, t, T', L, E, ce, h0, X', hL, e1, e2, ⟨u, hp, hb, hF⟩, hce, hcv, hcl, st⟩
  · cases hv
    obtain ⟨k1, k2, k3⟩ := vx_keep h0 e1 hS hA hf hL hF
    obtain ⟨t2, a1, b1⟩ := kk r u t T'.heap (locs ++ L) e1.symm (by rw [← e2]; exact X'.warmed.alike) hp hb k1 k2 k3 T' rfl X'
    exact ⟨t2, st t2 a1, b1⟩
  · obtain ⟨k1, k2, k3⟩ := vx_keep h0 e1 hS hAX hf hL hF
    obtain ⟨t2, a1, b1⟩ := kx E ce q u t T'.heap (locs ++ L) e1.symm (by rw [← e2]; exact X'.warmed.alike) hp hb k1 k2 k3 (by rw [e1]; exact hce) hcv hcl T' rfl X'
    exact ⟨t2, st.trans a1, b1⟩
theorem vx_calll {S SX : Type} {post : Int64 → S → Prop} {px : SX → Prop} {B : S → State → Prop} {BX : String → SX → State → Prop} {AX : Nat → Prop} (hr : vx_Run p l e R s m args below meth c H locs cells slots mc ms (F0 m pc ls st0) rest (va_Ql post B A1 a) (vx_X px BX AX) free) (hS : va_S A0 H0 H locs) (hA : ∀ q, q < H.size → A1 q → A0 q) (hf : ∀ q, free q → A0 q) (hAX : ∀ q, q < H.size → AX q → A0 q)
    (kx : ∀ (E : String) (ce : Cell) (q9 : Addr) (u : SX) (t : State) (H1 : Heap) (locs1 : List Loc), t.heap = H1 → s.vm.Alike t.vm → px u → BX E u t → H.size ≤ H1.size → (∀ q : Nat, q < H.size → ¬ AX q → H1[q]? = H[q]?) → va_S A0 H0 H1 locs1 → H1[q9]? = some ce → ce.vm = .none → s.vm.findClass E = some ce.cls → vx_W p l e R s m args below meth c H1 locs1 (cells + mc) (slots + ms) Q (F0 m pc ls rest) q9)
    (kk : ∀ (r : Int64) (u : S) (t : State) (H1 : Heap) (locs1 : List Loc), t.heap = H1 → s.vm.Alike t.vm → post r u → B u t → H.size ≤ H1.size → (∀ q : Nat, q < H.size → ¬ A1 q → H1[q]? = H[q]?) → va_S A0 H0 H1 locs1 → W p l e R s m args below meth c H1 locs1 (cells + mc) (slots + ms) Q (F0 m (pc + 3) ls (.long r :: rest))) : W p l e R s m args below meth c H locs cells slots Q (F0 m pc ls st0) := by
  intro T hT X
  rcases hr T hT X with ⟨v, st₀, t, T', L, h0, X', hL, e1, e2, ⟨⟨r, u, hv, hp, hb⟩, hF⟩, st⟩ | ⟨q, st₀, t, T', L, E, ce, h0, X', hL, e1, e2, ⟨u, hp, hb, hF⟩, hce, hcv, hcl, st⟩
  · cases hv
    obtain ⟨k1, k2, k3⟩ := vx_keep h0 e1 hS hA hf hL hF
    obtain ⟨t2, a1, b1⟩ := kk r u t T'.heap (locs ++ L) e1.symm (by rw [← e2]; exact X'.warmed.alike) hp hb k1 k2 k3 T' rfl X'
    exact ⟨t2, st t2 a1, b1⟩
  · obtain ⟨k1, k2, k3⟩ := vx_keep h0 e1 hS hAX hf hL hF
    obtain ⟨t2, a1, b1⟩ := kx E ce q u t T'.heap (locs ++ L) e1.symm (by rw [← e2]; exact X'.warmed.alike) hp hb k1 k2 k3 (by rw [e1]; exact hce) hcv hcl T' rfl X'
    exact ⟨t2, st.trans a1, b1⟩
theorem vx_callf {S SX : Type} {post : UInt32 → S → Prop} {px : SX → Prop} {B : S → State → Prop} {BX : String → SX → State → Prop} {AX : Nat → Prop} (hr : vx_Run p l e R s m args below meth c H locs cells slots mc ms (F0 m pc ls st0) rest (va_Qf post B A1 a) (vx_X px BX AX) free) (hS : va_S A0 H0 H locs) (hA : ∀ q, q < H.size → A1 q → A0 q) (hf : ∀ q, free q → A0 q) (hAX : ∀ q, q < H.size → AX q → A0 q)
    (kx : ∀ (E : String) (ce : Cell) (q9 : Addr) (u : SX) (t : State) (H1 : Heap) (locs1 : List Loc), t.heap = H1 → s.vm.Alike t.vm → px u → BX E u t → H.size ≤ H1.size → (∀ q : Nat, q < H.size → ¬ AX q → H1[q]? = H[q]?) → va_S A0 H0 H1 locs1 → H1[q9]? = some ce → ce.vm = .none → s.vm.findClass E = some ce.cls → vx_W p l e R s m args below meth c H1 locs1 (cells + mc) (slots + ms) Q (F0 m pc ls rest) q9)
    (kk : ∀ (r : UInt32) (u : S) (t : State) (H1 : Heap) (locs1 : List Loc), t.heap = H1 → s.vm.Alike t.vm → post r u → B u t → H.size ≤ H1.size → (∀ q : Nat, q < H.size → ¬ A1 q → H1[q]? = H[q]?) → va_S A0 H0 H1 locs1 → W p l e R s m args below meth c H1 locs1 (cells + mc) (slots + ms) Q (F0 m (pc + 3) ls (.float r :: rest))) : W p l e R s m args below meth c H locs cells slots Q (F0 m pc ls st0) := by
  intro T hT X
  rcases hr T hT X with ⟨v, st₀, t, T', L, h0, X', hL, e1, e2, ⟨⟨r, u, hv, hp, hb⟩, hF⟩, st⟩ | ⟨q, st₀, t, T', L, E, ce, h0, X', hL, e1, e2, ⟨u, hp, hb, hF⟩, hce, hcv, hcl, st⟩
  · cases hv
    obtain ⟨k1, k2, k3⟩ := vx_keep h0 e1 hS hA hf hL hF
    obtain ⟨t2, a1, b1⟩ := kk r u t T'.heap (locs ++ L) e1.symm (by rw [← e2]; exact X'.warmed.alike) hp hb k1 k2 k3 T' rfl X'
    exact ⟨t2, st t2 a1, b1⟩
  · obtain ⟨k1, k2, k3⟩ := vx_keep h0 e1 hS hAX hf hL hF
    obtain ⟨t2, a1, b1⟩ := kx E ce q u t T'.heap (locs ++ L) e1.symm (by rw [← e2]; exact X'.warmed.alike) hp hb k1 k2 k3 (by rw [e1]; exact hce) hcv hcl T' rfl X'
    exact ⟨t2, st.trans a1, b1⟩
theorem vx_calld {S SX : Type} {post : UInt64 → S → Prop} {px : SX → Prop} {B : S → State → Prop} {BX : String → SX → State → Prop} {AX : Nat → Prop} (hr : vx_Run p l e R s m args below meth c H locs cells slots mc ms (F0 m pc ls st0) rest (va_Qd post B A1 a) (vx_X px BX AX) free) (hS : va_S A0 H0 H locs) (hA : ∀ q, q < H.size → A1 q → A0 q) (hf : ∀ q, free q → A0 q) (hAX : ∀ q, q < H.size → AX q → A0 q)
    (kx : ∀ (E : String) (ce : Cell) (q9 : Addr) (u : SX) (t : State) (H1 : Heap) (locs1 : List Loc), t.heap = H1 → s.vm.Alike t.vm → px u → BX E u t → H.size ≤ H1.size → (∀ q : Nat, q < H.size → ¬ AX q → H1[q]? = H[q]?) → va_S A0 H0 H1 locs1 → H1[q9]? = some ce → ce.vm = .none → s.vm.findClass E = some ce.cls → vx_W p l e R s m args below meth c H1 locs1 (cells + mc) (slots + ms) Q (F0 m pc ls rest) q9)
    (kk : ∀ (r : UInt64) (u : S) (t : State) (H1 : Heap) (locs1 : List Loc), t.heap = H1 → s.vm.Alike t.vm → post r u → B u t → H.size ≤ H1.size → (∀ q : Nat, q < H.size → ¬ A1 q → H1[q]? = H[q]?) → va_S A0 H0 H1 locs1 → W p l e R s m args below meth c H1 locs1 (cells + mc) (slots + ms) Q (F0 m (pc + 3) ls (.double r :: rest))) : W p l e R s m args below meth c H locs cells slots Q (F0 m pc ls st0) := by
  intro T hT X
  rcases hr T hT X with ⟨v, st₀, t, T', L, h0, X', hL, e1, e2, ⟨⟨r, u, hv, hp, hb⟩, hF⟩, st⟩ | ⟨q, st₀, t, T', L, E, ce, h0, X', hL, e1, e2, ⟨u, hp, hb, hF⟩, hce, hcv, hcl, st⟩
  · cases hv
    obtain ⟨k1, k2, k3⟩ := vx_keep h0 e1 hS hA hf hL hF
    obtain ⟨t2, a1, b1⟩ := kk r u t T'.heap (locs ++ L) e1.symm (by rw [← e2]; exact X'.warmed.alike) hp hb k1 k2 k3 T' rfl X'
    exact ⟨t2, st t2 a1, b1⟩
  · obtain ⟨k1, k2, k3⟩ := vx_keep h0 e1 hS hAX hf hL hF
    obtain ⟨t2, a1, b1⟩ := kx E ce q u t T'.heap (locs ++ L) e1.symm (by rw [← e2]; exact X'.warmed.alike) hp hb k1 k2 k3 (by rw [e1]; exact hce) hcv hcl T' rfl X'
    exact ⟨t2, st.trans a1, b1⟩
theorem vx_callv {S SX : Type} {post : S → Prop} {px : SX → Prop} {B : S → State → Prop} {BX : String → SX → State → Prop} {AX : Nat → Prop} (hr : vx_Run p l e R s m args below meth c H locs cells slots mc ms (F0 m pc ls st0) rest (va_Qv post B A1 a) (vx_X px BX AX) free) (hS : va_S A0 H0 H locs) (hA : ∀ q, q < H.size → A1 q → A0 q) (hf : ∀ q, free q → A0 q) (hAX : ∀ q, q < H.size → AX q → A0 q)
    (kx : ∀ (E : String) (ce : Cell) (q9 : Addr) (u : SX) (t : State) (H1 : Heap) (locs1 : List Loc), t.heap = H1 → s.vm.Alike t.vm → px u → BX E u t → H.size ≤ H1.size → (∀ q : Nat, q < H.size → ¬ AX q → H1[q]? = H[q]?) → va_S A0 H0 H1 locs1 → H1[q9]? = some ce → ce.vm = .none → s.vm.findClass E = some ce.cls → vx_W p l e R s m args below meth c H1 locs1 (cells + mc) (slots + ms) Q (F0 m pc ls rest) q9)
    (kk : ∀ (u : S) (t : State) (H1 : Heap) (locs1 : List Loc), t.heap = H1 → s.vm.Alike t.vm → post u → B u t → H.size ≤ H1.size → (∀ q : Nat, q < H.size → ¬ A1 q → H1[q]? = H[q]?) → va_S A0 H0 H1 locs1 → W p l e R s m args below meth c H1 locs1 (cells + mc) (slots + ms) Q (F0 m (pc + 3) ls (rest))) : W p l e R s m args below meth c H locs cells slots Q (F0 m pc ls st0) := by
  intro T hT X
  rcases hr T hT X with ⟨v, st₀, t, T', L, h0, X', hL, e1, e2, ⟨⟨u, hv, hp, hb⟩, hF⟩, st⟩ | ⟨q, st₀, t, T', L, E, ce, h0, X', hL, e1, e2, ⟨u, hp, hb, hF⟩, hce, hcv, hcl, st⟩
  · cases hv
    obtain ⟨k1, k2, k3⟩ := vx_keep h0 e1 hS hA hf hL hF
    obtain ⟨t2, a1, b1⟩ := kk u t T'.heap (locs ++ L) e1.symm (by rw [← e2]; exact X'.warmed.alike) hp hb k1 k2 k3 T' rfl X'
    exact ⟨t2, st t2 a1, b1⟩
  · obtain ⟨k1, k2, k3⟩ := vx_keep h0 e1 hS hAX hf hL hF
    obtain ⟨t2, a1, b1⟩ := kx E ce q u t T'.heap (locs ++ L) e1.symm (by rw [← e2]; exact X'.warmed.alike) hp hb k1 k2 k3 (by rw [e1]; exact hce) hcv hcl T' rfl X'
    exact ⟨t2, st.trans a1, b1⟩
/-- caught by the row x of this method's table; the rows ahead don't take it -/
theorem vx_catch {own name : String} {E : String} {ce : Cell} {q : Addr} (hown : s.vm.findClass own = some m.cls) (pre : List ExceptionTableEntry) (x : ExceptionTableEntry) (suf : List ExceptionTableEntry) (hsplit : c.exceptionTable.toList = pre ++ x :: suf)
    (hpass : ∀ z ∈ pre, covers z pc = false ∨ (z.catchType ≠ 0 ∧ ∃ nm : String, (Cond.classLink own z.catchType nm).before args s = true ∧ va_Nc E nm s)) (hx : covers x pc = true) (h0 : x.catchType ≠ 0)
    (hlink : (Cond.classLink own x.catchType name).before args s = true) (hcast : (Cond.castable E name).before args s = true) (hcell : H[q]? = some ce) (hv : ce.vm = .none) (hcl : s.vm.findClass E = some ce.cls)
    (kk : W p l e R s m args below meth c H locs cells slots Q (F0 m x.handlerPc ls [.ref q])) : vx_W p l e R s m args below meth c H locs cells slots Q (F0 m pc ls rest) q := by
  intro T hT X
  have hpl : e.platform.magicAccessors = ({} : Platform).magicAccessors := by rw [X.admits.platform]
  obtain ⟨c3, c4, hc3, hc4, hasg⟩ := Cond.castable_spec hcast
  cases Option.some.inj (hc3.symm.trans hcl)
  obtain ⟨c5, hc5, hcl5⟩ := Cond.classLink_spec hown hlink e.platform hpl
  cases Option.some.inj (hc4.symm.trans hc5)
  obtain ⟨vm', X', st⟩ := X.thenCaughtThrough q (g := F0 m pc ls rest) rfl (Steps.refl _) (by rw [hT]; exact hcell) (by rw [hv]; rfl) (by obtain ⟨k9, h9, -⟩ := Vm.findClass_spec hcl; exact ⟨k9, h9⟩) pre x suf hsplit
    (fun z hz => by
      rcases hpass z hz with h | ⟨hz0, nm, hl1, hn1⟩
      · exact Or.inl h
      · obtain ⟨c6, hc6, hcl6⟩ := Cond.classLink_spec hown hl1 e.platform hpl
        obtain ⟨a8, b8, h1, h2, h3⟩ := hn1
        cases Option.some.inj (h1.symm.trans hcl)
        cases Option.some.inj (h2.symm.trans hc6)
        exact Or.inr ⟨hz0, _, hcl6, h3⟩) hx (Or.inr ⟨h0, c4, hcl5, hasg⟩)
  obtain ⟨t, a1, b1⟩ := kk (T.setVm vm') hT X'
  exact ⟨t, st.trans a1, b1⟩
end Rows
section Ends
variable {p : Program} {l : Launch} {e : Env} {R : Room} {s : State} {m : MethodId} {args : Array Value} {below : List Frame} {meth : Method} {c : Code} {H : Heap} {locs : List Loc} {cells slots : Nat} {Q : State → Prop}
variable {mc ms : Nat} {free : Addr → Prop} {A0 A1 : Nat → Prop} {H0 : Heap} {a : Array Value} {ls : Array Slot} {st0 rest : List Value}
variable {Qc : Array Value → State → Outcome → State → Prop} {XC : String → State → State → Prop}
/-- what a body that may throw owes at its end -/
def vx_MQ (below : List Frame) (Qc : Array Value → State → Outcome → State → Prop) (XC : String → State → State → Prop) (a : Array Value) (s : State) (mc ms : Nat) (free : Addr → Prop) : State → Prop := fun t =>
  ∃ o, t.status = .running ∧ Ended t below o ∧ vx_Q Qc XC mc ms free a s o t
theorem vx_ret {g : JFrame} {mc ms : Nat} (k : W p l e R s m args below meth c H locs cells slots (MQ below Qc args s mc ms free) g) : W p l e R s m args below meth c H locs cells slots (vx_MQ below Qc XC args s mc ms free) g := by
  intro T hT X
  obtain ⟨t, a1, o, b1, b2, b3, b4⟩ := k T hT X
  exact ⟨t, a1, o, b1, b2, Or.inl ⟨b3, b4⟩⟩
/-- not caught here: it goes on to the caller -/
theorem vx_widen {g : JFrame} {q : Addr} {k n : Nat} (h1 : cells ≤ k) (h2 : slots ≤ n) (kk : vx_W p l e R s m args below meth c H locs k n Q g q) : vx_W p l e R s m args below meth c H locs cells slots Q g q := fun T hT X => kk T hT (stand_widen X h1 h2)
theorem vx_out {pc : Nat} {E : String} {ce : Cell} {q : Addr} {mc ms : Nat} (hout : ∀ x ∈ c.exceptionTable.toList, covers x pc = false) (hlocks : meth.locks = false) (hcell : H[q]? = some ce) (hv : ce.vm = .none) (hcl : s.vm.findClass E = some ce.cls)
    (hx : ∀ t : State, t.heap = H → s.vm.Alike t.vm → XC E s t) (hf : ∀ z ∈ locs, free z.base) (hc : cells ≤ mc) (hs : slots ≤ ms) :
    vx_W p l e R s m args below meth c H locs cells slots (vx_MQ below Qc XC args s mc ms free) (F0 m pc ls rest) q := by
  intro T hT X
  obtain ⟨st1, hrun, hend, hW, hsm⟩ := X.leaveThrown q (g := F0 m pc ls rest) rfl rfl rfl hout hlocks
  have hcell9 : (T.setFrames (.throwing q :: below)).heap[q]? = some ce := by
    show T.heap[q]? = some ce
    rw [hT]; exact hcell
  exact ⟨_, st1, .threw q, hrun, hend, Or.inr ⟨q, rfl, E, ce, locs, hx _ hT hW.alike, hcell9, hv, hcl, hW, hsm.mono hc hs, hf⟩⟩
theorem vx_frame {U : State} {k n : Nat} (h : s.sameButNew ({ U with vm := s.vm } : State) locs k n) : s.heap.size ≤ U.heap.size ∧ ∀ q : Nat, q < s.heap.size → (∀ z ∈ locs, z.base ≠ q) → U.heap[q]? = s.heap[q]? := by
  obtain ⟨-, h2, -, -, -, h6⟩ := h
  refine ⟨h2, fun q hq hz => ?_⟩
  obtain ⟨c9, e1, e2, e3, e4⟩ := h6 q _ (Array.getElem?_eq_getElem hq)
  have hs : c9.slots = (s.heap[q]).slots := Array.ext_getElem? fun i => e4 i fun hm => hz _ hm rfl
  have h9 : c9 = s.heap[q] := by
    rw [hs] at e2
    exact e2
  have e5 : U.heap[q]? = some c9 := e1
  rw [e5, h9, Array.getElem?_eq_getElem hq]
/-- the words of a throw but the four that speak of the heap -/
def vx_no (w : Cond) : Bool := decide (w ≠ .isRef (.static Bundle.tN "UNASSIGNED_STACK" Bundle.steD)) && decide (w ≠ .isRef (.static Bundle.tN "SUPPRESSED_SENTINEL" Bundle.listD)) && decide (w ≠ .laysStatic Bundle.tN "UNASSIGNED_STACK" Bundle.steD) && decide (w ≠ .laysStatic Bundle.tN "SUPPRESSED_SENTINEL" Bundle.listD)
def vx_at0 (own : String) (ic : Nat) (X : String) (names : List String) : List Cond := (Bundle.ownAtoms0 own ic X names).filter vx_no
def vx_atS (own : String) (ic : Nat) (X : String) (names : List String) : List Cond := (Bundle.ownAtoms own ic X names).filter vx_no
/-- a word that the tables alone decide, or a good one -/
def vx_ot (w : Cond) : Bool := w.onTables || goodWord w
theorem vx_ot_at {args a' : Array Value} {s U : State} {w : Cond} (hW : s.WarmedH U.vm) (hvm : s.vm = U.vm) (hg : vx_ot w = true) (h : w.before args s = true) : w.before a' U = true := by
  simp only [vx_ot, Bool.or_eq_true] at hg
  rcases hg with hg | hg
  · exact va_tabs hg hvm h
  · exact word_at hW (good_of_word hg) h
/-- a list's words: the good ones out of the method's own list, the others by premises of their own -/
theorem vx_hat {args : Array Value} {s : State} {L B : List Cond} (h1 : ∀ w ∈ L.filter goodWord, w.before args s = true) (h2 : ∀ w ∈ L.filter (fun w => !goodWord w), w ∈ B) (h3 : ∀ w ∈ B, w.before args s = true) : ∀ w ∈ L, w.before args s = true := by
  intro w hw
  by_cases g : goodWord w = true
  · exact h1 w (List.mem_filter.mpr ⟨hw, g⟩)
  · refine h3 w (h2 w (List.mem_filter.mpr ⟨hw, ?_⟩))
    show (!goodWord w) = true
    cases hgw : goodWord w
    · rfl
    · exact absurd hgw g
theorem vx_c {args : Array Value} {s : State} {w : Cond} {B : List Cond} (h : w.before args s = true) (t : ∀ w ∈ B, w.before args s = true) : ∀ w' ∈ w :: B, w'.before args s = true := fun w' h' => (List.mem_cons.mp h').elim (fun e => by rw [e]; exact h) (t w')
theorem vx_n {args : Array Value} {s : State} : ∀ w ∈ ([] : List Cond), w.before args s = true := fun _ h => nomatch h
theorem vx_own {args : Array Value} {s : State} {L : List Cond} (h1 : ∀ w ∈ L.filter vx_no, w.before args s = true)
    (hU : (Cond.isRef (.static Bundle.tN "UNASSIGNED_STACK" Bundle.steD)).before args s = true) (hN : (Cond.isRef (.static Bundle.tN "SUPPRESSED_SENTINEL" Bundle.listD)).before args s = true)
    (lU : (Cond.laysStatic Bundle.tN "UNASSIGNED_STACK" Bundle.steD).before args s = true) (lN : (Cond.laysStatic Bundle.tN "SUPPRESSED_SENTINEL" Bundle.listD).before args s = true) : ∀ w ∈ L, w.before args s = true := by
  intro w hw
  by_cases e1 : w = .isRef (.static Bundle.tN "UNASSIGNED_STACK" Bundle.steD)
  · rw [e1]; exact hU
  · by_cases e2 : w = .isRef (.static Bundle.tN "SUPPRESSED_SENTINEL" Bundle.listD)
    · rw [e2]; exact hN
    · by_cases e3 : w = .laysStatic Bundle.tN "UNASSIGNED_STACK" Bundle.steD
      · rw [e3]; exact lU
      · by_cases e4 : w = .laysStatic Bundle.tN "SUPPRESSED_SENTINEL" Bundle.listD
        · rw [e4]; exact lN
        · exact h1 w (List.mem_filter.mpr ⟨hw, by unfold vx_no; rw [decide_eq_true e1, decide_eq_true e2, decide_eq_true e3, decide_eq_true e4]; rfl⟩)
/-- where a static field lies, its class's statics cell in H -/
def vx_L (C n d : String) (A : Nat → Prop) (U : State) (H : Heap) : Prop := ∃ (c : ClassId) (k : Class) (i : Nat) (f : Field) (a : Nat) (cell : Cell), U.vm.findClass C = some c ∧ U.fieldFound? C n d = some (c, k, i, f) ∧ f.isStatic = true ∧ k.statics = some a ∧ H[a]? = some cell ∧ cell.vm.isStatics = true ∧ cell.cls = c ∧ f.slot < cell.slots.size ∧ k.staticTypes[f.slot]? = some f.type ∧ ¬ A a
theorem vx_L.moved {C n d : String} {A : Nat → Prop} {u U : State} {H : Heap} (hvm : u.vm.Alike U.vm) (h : vx_L C n d A u H) : vx_L C n d A U H := by
  obtain ⟨c, k, i, f, a, cell, h1, h2, h3, h4, h5, h6, h7, h8, h9, h10⟩ := h
  obtain ⟨k', hi', he⟩ := State.fieldFound?_setVm hvm h2
  exact ⟨c, k', i, f, a, cell, by rw [hvm.findClass]; exact h1, hi', h3, by rw [he]; exact h4, h5, h6, h7, h8, by rw [he]; exact h9, h10⟩
theorem vx_L.kept {C n d : String} {A : Nat → Prop} {U : State} {H H1 : Heap} (h : vx_L C n d A U H) (hq : ∀ a : Nat, a < H.size → ¬ A a → H1[a]? = H[a]?) : vx_L C n d A U H1 := by
  obtain ⟨c, k, i, f, a, cell, h1, h2, h3, h4, h5, h6, h7, h8, h9, h10⟩ := h
  exact ⟨c, k, i, f, a, cell, h1, h2, h3, h4, by rw [hq a (Array.getElem?_eq_some_iff.mp h5).1 h10]; exact h5, h6, h7, h8, h9, h10⟩
theorem vx_L.narrow {C n d : String} {A B : Nat → Prop} {U : State} {H : Heap} (h : vx_L C n d A U H) (hAB : ∀ q, B q → A q) : vx_L C n d B U H := by
  obtain ⟨c, k, i, f, a, cell, h1, h2, h3, h4, h5, h6, h7, h8, h9, h10⟩ := h
  exact ⟨c, k, i, f, a, cell, h1, h2, h3, h4, h5, h6, h7, h8, h9, fun z => h10 (hAB _ z)⟩
theorem vx_L.word {C n d : String} {A : Nat → Prop} {s : State} {args : Array Value} (h : vx_L C n d A s s.heap) : (Cond.laysStatic C n d).before args s = true := by
  obtain ⟨c, k, i, f, a, cell, h1, h2, h3, h4, h5, h6, h7, h8, h9, -⟩ := h
  show (Cond.laysStatic C n d).holds args s none s [] = true
  exact Cond.laysStatic_of h1 h2 h3 h4 h5 h6 h7 h8 h9
/-- .. and what it holds: null or some reference -/
def vx_Zq (C n d : String) (A : Nat → Prop) (U : State) (H : Heap) : Prop := va_Zq C n d A U H ∧ vx_L C n d A U H
theorem vx_Zq.moved {C n d : String} {A : Nat → Prop} {u U : State} {H : Heap} (hvm : u.vm.Alike U.vm) (h : vx_Zq C n d A u H) : vx_Zq C n d A U H := ⟨va_Zq.moved hvm h.1, vx_L.moved hvm h.2⟩
theorem vx_Zq.kept {C n d : String} {A : Nat → Prop} {U : State} {H H1 : Heap} (h : vx_Zq C n d A U H) (hq : ∀ a : Nat, a < H.size → ¬ A a → H1[a]? = H[a]?) : vx_Zq C n d A U H1 := ⟨va_Zq.kept h.1 hq, vx_L.kept h.2 hq⟩
theorem vx_Zq.narrow {C n d : String} {A B : Nat → Prop} {U : State} {H : Heap} (h : vx_Zq C n d A U H) (hAB : ∀ q, B q → A q) : vx_Zq C n d B U H := ⟨va_Zq.narrow h.1 hAB, vx_L.narrow h.2 hAB⟩
theorem vx_Zqof {args : Array Value} {s : State} {C n d : String} {A : Nat → Prop} (hl : (Cond.laysStatic C n d).before args s = true) (hini : (Cond.initialized C).before args s = true) (h : (Cond.isRef (.static C n d)).before args s = true) (hA : ∀ a : Nat, a < s.heap.size → ¬ A a) : vx_Zq C n d A s s.heap := by
  refine ⟨va_Zqof hl hini h hA, ?_⟩
  obtain ⟨c, k, i, f, a, cell, h1, h2, h3, h4, h5, h6, h7, h8, h9⟩ := Cond.laysStatic_spec hl
  exact ⟨c, k, i, f, a, cell, h1, h2, h3, h4, h5, h6, h7, h8, h9, hA a (Array.getElem?_eq_some_iff.mp h5).1⟩
theorem vx_isRef {C n d : String} {v : Value} {A : Nat → Prop} {s : State} {args : Array Value} (h : va_Z C n d v A s s.heap) (hv : v.isRef = true) : (Cond.isRef (.static C n d)).before args s = true := by
  obtain ⟨cf, kf, fi, f, a, cell, h1, h2, h3, h4, h5, h6, h7, -⟩ := h
  have he : (Term.static C n d).eval args s none [] s = some v := by
    simp [Term.eval, State.fieldNamed?, h1, h2, h4, h5, h6, h7]
  simp only [Cond.before, Cond.holds, Cond.value, he]
  cases v <;> simp_all [Value.isRef]
theorem vx_isRefq {C n d : String} {A : Nat → Prop} {s : State} {args : Array Value} (h : va_Zq C n d A s s.heap) : (Cond.isRef (.static C n d)).before args s = true := by
  rcases h with h | ⟨t, h⟩
  · exact vx_isRef h rfl
  · exact vx_isRef h rfl
/-- the same frame, seen from here: as if the method were called anew in this heap -/
theorem vx_rebase {T : State} (X : Stand p l e R s m args below meth c T locs cells slots) {R' : Room} (hf : R'.frames ≤ R.frames) (hl : R'.locals ≤ R.locals) (hc : cells + R'.cells ≤ R.cells) (hs : slots + R'.slots ≤ R.slots) :
    Stand p l e R' ((T.setVm s.vm).setFrames (.invoking m args :: below)) m args below meth c T [] 0 0 := by
  have htop : (T.setVm s.vm).topJava?.isSome := X.here.top
  have hF : ((T.setVm s.vm).setFrames (.invoking m args :: below)).frames = .invoking m args :: below := State.frames_setFrames _ (State.cur_lt_of_top htop)
  obtain ⟨g₀, hg0⟩ := Option.isSome_iff_exists.mp htop
  obtain ⟨r, hr⟩ := State.topJava?_eq_some.mp hg0
  have hl9 : e.platform.stackLimits (T.setVm s.vm).me = e.platform.stackLimits s.me := X.limits
  have hb9 : (T.setVm s.vm).me.stackBytes = s.me.stackBytes := X.bytes
  refine ⟨X.admits, X.cas, X.clock, hF, ?_, X.hears, X.method, X.code, X.here, X.tail, X.warmed, ?_, ?_, ?_⟩
  · have h := X.room
    have hU : ((T.setVm s.vm).setFrames (.invoking m args :: below)).localsInUse = s.localsInUse := by
      rw [State.localsInUse_invoking hF (meth := meth) (c := c) X.method X.code, State.localsInUse_invoking X.frames X.method X.code]
    simp only [State.hasRoom, Bool.and_eq_true, decide_eq_true_eq] at h ⊢
    obtain ⟨⟨⟨⟨h1, h2, h3, h4, h5, h6⟩, h7⟩, h8⟩, h9⟩ := h
    rw [X.frames, List.length_cons] at h2 h3
    have q1 := X.heapSize
    have q2 := X.used
    simp only [hF, hU, List.length_cons, State.stackLimits_setFrames, State.stackBytes_setFrames, hl9, hb9]
    refine ⟨⟨⟨⟨by omega, by omega, by omega, by omega, by omega, h6⟩, ?_⟩, ?_⟩, X.book⟩
    · show T.heap.size + R'.cells ≤ e.platform.maxCells
      omega
    · show T.slotsUsed + R'.slots ≤ e.platform.maxSlots
      omega
  · rw [State.stackLimits_setFrames]; rfl
  · rw [State.stackBytes_setFrames]; rfl
  · refine ⟨?_, Nat.le_refl _, Nat.le_refl _, ?_, ?_, fun a c9 h9 => ⟨c9, h9, rfl, rfl, fun _ _ => rfl⟩⟩
    · obtain ⟨t, ht, -⟩ := State.frames_cons hr
      show T.setVm s.vm = { ((T.setVm s.vm).setFrames (.invoking m args :: below)).setFrames (T.setVm s.vm).frames with heap := T.heap, slotsUsed := T.slotsUsed }
      rw [State.setFrames_setFrames, State.setFrames_self ht]
      rfl
    · show T.slotsUsed = T.slotsUsed + ((T.heap.toList.drop T.heap.size).map (·.slots.size)).sum
      rw [List.drop_eq_nil_of_le (Nat.le_of_eq Array.length_toList)]
      rfl
    · show ((T.heap.toList.drop T.heap.size).map (·.slots.size)).sum ≤ 0
      rw [List.drop_eq_nil_of_le (Nat.le_of_eq Array.length_toList)]
      exact Nat.le_refl _
/-- 'throw new E()': new; dup; invokespecial; athrow -/
theorem vx_throw0 {cc : ByteArray} {pc : Nat} (hexec : p.tables.exec = Jvm.exec) (hb : c.code = cc) (hl : l.stackTraces = false) {own cls : String} {names : List String} {ik ic mc ms : Nat} {A : Nat → Prop}
    (hown : s.vm.findClass own = some m.cls) (hcls : Bundle.fit cls = true) (hnames : ∀ n ∈ names, Bundle.fit n = true)
    (hk : (Cond.classLink own ik cls).before args s = true) (hini : (Cond.initialized cls).before args s = true) (hat : ∀ w ∈ vx_at0 own ic cls names, w.before args s = true)
    (hgood : ∀ w ∈ Cond.classLink own ik cls :: Cond.initialized cls :: vx_at0 own ic cls names, vx_ot w = true)
    (hU : vx_Zq Bundle.tN "UNASSIGNED_STACK" Bundle.steD A s s.heap) (hN : vx_Zq Bundle.tN "SUPPRESSED_SENTINEL" Bundle.listD A s s.heap) (hS : va_S A s.heap H locs) (hsize : ls.size = c.maxLocals)
    (d0 : decode cc pc = .ok (.new ik, 3)) (d3 : decode cc (pc + 3) = .ok (.dup, 1)) (d4 : decode cc (pc + 4) = .ok (.invokespecial ic, 3)) (d7 : decode cc (pc + 7) = .ok (.athrow, 1))
    (hout : ∀ x ∈ c.exceptionTable.toList, covers x (pc + 7) = false)
    (hRframes : names.length + 3 < R.frames) (hRlocals : (rest.map fun v => v.category).sum + (13 * (names.length + 1) + 42) ≤ R.locals) (hRcells : cells + 1 ≤ R.cells) (hRslots : slots + 6 ≤ R.slots) (hlocks : meth.locks = false)
    (hx : ∀ t : State, s.vm.Alike t.vm → H.size ≤ t.heap.size → (∀ q : Nat, q < H.size → t.heap[q]? = H[q]?) → XC cls s t)
    (hf : ∀ z ∈ locs, free z.base) (hc : cells + 1 ≤ mc) (hs : slots + 6 ≤ ms) :
    W p l e R s m args below meth c H locs cells slots (vx_MQ below Qc XC args s mc ms free) (F0 m pc ls rest) := by
  intro T hT X
  have htr : e.platform.stackTraces = false := (show e.platform.stackTraces = l.stackTraces by rw [X.admits.platform]).trans hl
  have Y := vx_rebase X (R' := { frames := R.frames, locals := R.locals, cells := 1, slots := 6 }) (Nat.le_refl _) (Nat.le_refl _) hRcells hRslots
  obtain ⟨s', hA⟩ : ∃ z, z = (T.setVm s.vm).setFrames (.invoking m args :: below) := ⟨_, rfl⟩
  rw [← hA] at Y
  have hvm : s'.vm = s.vm := by rw [hA]; rfl
  have hhp : s'.heap = H := by rw [hA]; exact hT
  have hW0 : s.WarmedH s'.vm := by rw [hvm]; exact State.WarmedH.refl s
  have hat' : ∀ w ∈ vx_at0 own ic cls names, w.before args s' = true := fun w hw => vx_ot_at hW0 hvm.symm (hgood w (List.mem_cons_of_mem _ (List.mem_cons_of_mem _ hw))) (hat w hw)
  have hk' : (Cond.classLink own ik cls).before args s' = true := vx_ot_at hW0 hvm.symm (hgood _ List.mem_cons_self) hk
  have hini' : (Cond.initialized cls).before args s' = true := vx_ot_at hW0 hvm.symm (hgood _ (List.mem_cons_of_mem _ List.mem_cons_self)) hini
  have hU' : vx_Zq Bundle.tN "UNASSIGNED_STACK" Bundle.steD A s' s'.heap := by rw [hhp]; exact vx_Zq.moved hW0.alike (hU.kept hS.2.1)
  have hN' : vx_Zq Bundle.tN "SUPPRESSED_SENTINEL" Bundle.listD A s' s'.heap := by rw [hhp]; exact vx_Zq.moved hW0.alike (hN.kept hS.2.1)
  have h : ∀ w ∈ Bundle.ownAtoms0 own ic cls names, w.before args s' = true := vx_own hat' (vx_isRefq hU'.1) (vx_isRefq hN'.1) hU'.2.word hN'.2.word
  have hown' : s'.vm.findClass own = some m.cls := by rw [hvm]; exact hown
  have hins : (Cond.instantiable cls 6).before args s' = true := h _ (by simp [Bundle.ownAtoms0])
  obtain ⟨vm₁, cX, kX, hfX, hkX, -, -, X₁, st1⟩ := Y.newCold hexec (own := own) (C := cls) (index := ik) (n := 6) hown' hk' hins hini'
    (g := F0 m pc ls rest) rfl (by rw [hb]; exact d0) (Nat.le_refl _) (Nat.le_refl _)
  generalize hT1 : (T.setVm vm₁).pushCell { cls := cX, slots := kX.instanceTypes.map defaultValue, vm := .none } = T1 at X₁ st1
  have hcat : (Value.ref T.heap.size).category = 1 := rfl
  have hcellA : T1.heap[T.heap.size]? = some (freshCell cX kX) := by rw [← hT1]; exact State.heap_pushCell_size _ _
  have d3' : decode c.code (pc + 3) = .ok (.dup, 1) := by rw [hb]; exact d3
  obtain ⟨U, hsteps, hrun, hend, hW, hsame, ce, hce, hO⟩ := X₁.ctorThrow0 hexec htr (own := own) (cls := cls) (names := names) (ic := ic) hown' hcls hnames h (fun x hx => nomatch hx) hfX hkX hcellA (by rw [hhp, hT]; exact Nat.le_refl _)
    (g := { method := m, pc := pc + 4, locals := ls, stack := .ref T.heap.size :: .ref T.heap.size :: rest, locked := none }) rfl hsize rfl rfl (rest := rest) rfl
    (by rw [hb]; exact d4) (by rw [hb]; exact d7) hout hRframes (by simp only [List.map_cons, List.sum_cons, hcat]; omega) hlocks
  obtain ⟨f1, f2⟩ := vx_frame hsame
  rw [hhp] at f1 f2
  have hWs : s.WarmedH U.vm := State.WarmedH.trans hW0 hW
  have hcl : s.vm.findClass cls = some ce.cls := by
    have h9 := hO.cls
    rw [hvm] at h9
    exact h9
  have hall : s.sameButNew ({ U with vm := s.vm } : State) locs mc ms := by
    subst hA
    obtain ⟨e1, e2⟩ := hsame
    rw [State.setFrames_setFrames] at e1
    have h2 : (T.setVm s.vm).sameButNew ({ U with vm := s.vm } : State) [] (0 + 1) (0 + 6) := ⟨e1, e2⟩
    have h3 := X.same.trans h2
    rw [List.append_nil] at h3
    exact h3.mono hc hs
  refine ⟨U, ?_, .threw T.heap.size, hrun, hend, Or.inr ⟨T.heap.size, rfl, cls, ce, locs, hx U hWs.alike f1 (fun q hq => f2 q hq (fun z hz => nomatch hz)), hce, hO.vm, hcl, hWs, hall, hf⟩⟩
  refine st1 _ ?_
  show Steps p.tables e below (T1.setTop { method := m, pc := pc + 3, locals := ls, stack := .ref T.heap.size :: rest, locked := none }) _
  jvm_step X₁.here [X₁.here.top, hexec, d3', Value.category]
  exact hsteps
/-- 'throw new E("text")': new; dup; ldc; invokespecial; athrow -/
theorem vx_throwS {cc : ByteArray} {pc : Nat} (hexec : p.tables.exec = Jvm.exec) (hb : c.code = cc) (hl : l.stackTraces = false) {own cls text : String} {names : List String} {ik is ic mc ms sa : Nat} {A : Nat → Prop}
    (hown : s.vm.findClass own = some m.cls) (hcls : Bundle.fit cls = true) (hnames : ∀ n ∈ names, Bundle.fit n = true)
    (hk : (Cond.classLink own ik cls).before args s = true) (hini : (Cond.initialized cls).before args s = true) (hstr : vk_R own is text sa s) (hat : ∀ w ∈ vx_atS own ic cls names, w.before args s = true)
    (hgood : ∀ w ∈ Cond.classLink own ik cls :: Cond.initialized cls :: vx_atS own ic cls names, vx_ot w = true)
    (hU : vx_Zq Bundle.tN "UNASSIGNED_STACK" Bundle.steD A s s.heap) (hN : vx_Zq Bundle.tN "SUPPRESSED_SENTINEL" Bundle.listD A s s.heap) (hS : va_S A s.heap H locs) (hsize : ls.size = c.maxLocals)
    (d0 : decode cc pc = .ok (.new ik, 3)) (d3 : decode cc (pc + 3) = .ok (.dup, 1)) (d4 : decode cc (pc + 4) = .ok (.ldc is, 2)) (d6 : decode cc (pc + 6) = .ok (.invokespecial ic, 3)) (d9 : decode cc (pc + 9) = .ok (.athrow, 1))
    (hout : ∀ x ∈ c.exceptionTable.toList, covers x (pc + 9) = false)
    (hRframes : names.length + 3 < R.frames) (hRlocals : (rest.map fun v => v.category).sum + (13 * (names.length + 1) + 43) ≤ R.locals) (hRcells : cells + 1 ≤ R.cells) (hRslots : slots + 6 ≤ R.slots) (hlocks : meth.locks = false)
    (hx : ∀ t : State, s.vm.Alike t.vm → H.size ≤ t.heap.size → (∀ q : Nat, q < H.size → t.heap[q]? = H[q]?) → XC cls s t)
    (hf : ∀ z ∈ locs, free z.base) (hc : cells + 1 ≤ mc) (hs : slots + 6 ≤ ms) :
    W p l e R s m args below meth c H locs cells slots (vx_MQ below Qc XC args s mc ms free) (F0 m pc ls rest) := by
  intro T hT X
  have htr : e.platform.stackTraces = false := (show e.platform.stackTraces = l.stackTraces by rw [X.admits.platform]).trans hl
  have Y := vx_rebase X (R' := { frames := R.frames, locals := R.locals, cells := 1, slots := 6 }) (Nat.le_refl _) (Nat.le_refl _) hRcells hRslots
  obtain ⟨s', hA⟩ : ∃ z, z = (T.setVm s.vm).setFrames (.invoking m args :: below) := ⟨_, rfl⟩
  rw [← hA] at Y
  have hvm : s'.vm = s.vm := by rw [hA]; rfl
  have hhp : s'.heap = H := by rw [hA]; exact hT
  have hW0 : s.WarmedH s'.vm := by rw [hvm]; exact State.WarmedH.refl s
  have hat' : ∀ w ∈ vx_atS own ic cls names, w.before args s' = true := fun w hw => vx_ot_at hW0 hvm.symm (hgood w (List.mem_cons_of_mem _ (List.mem_cons_of_mem _ hw))) (hat w hw)
  have hk' : (Cond.classLink own ik cls).before args s' = true := vx_ot_at hW0 hvm.symm (hgood _ List.mem_cons_self) hk
  have hini' : (Cond.initialized cls).before args s' = true := vx_ot_at hW0 hvm.symm (hgood _ (List.mem_cons_of_mem _ List.mem_cons_self)) hini
  have hU' : vx_Zq Bundle.tN "UNASSIGNED_STACK" Bundle.steD A s' s'.heap := by rw [hhp]; exact vx_Zq.moved hW0.alike (hU.kept hS.2.1)
  have hN' : vx_Zq Bundle.tN "SUPPRESSED_SENTINEL" Bundle.listD A s' s'.heap := by rw [hhp]; exact vx_Zq.moved hW0.alike (hN.kept hS.2.1)
  have h : ∀ w ∈ Bundle.ownAtoms own ic cls names, w.before args s' = true := vx_own hat' (vx_isRefq hU'.1) (vx_isRefq hN'.1) hU'.2.word hN'.2.word
  have hown' : s'.vm.findClass own = some m.cls := by rw [hvm]; exact hown
  have hins : (Cond.instantiable cls 6).before args s' = true := h _ (by simp [Bundle.ownAtoms])
  obtain ⟨vm₁, cX, kX, hfX, hkX, -, -, X₁, st1⟩ := Y.newCold hexec (own := own) (C := cls) (index := ik) (n := 6) hown' hk' hins hini'
    (g := F0 m pc ls rest) rfl (by rw [hb]; exact d0) (Nat.le_refl _) (Nat.le_refl _)
  generalize hT1 : (T.setVm vm₁).pushCell { cls := cX, slots := kX.instanceTypes.map defaultValue, vm := .none } = T1 at X₁ st1
  have hcat : (Value.ref T.heap.size).category = 1 := rfl
  have hcellA : T1.heap[T.heap.size]? = some (freshCell cX kX) := by rw [← hT1]; exact State.heap_pushCell_size _ _
  have d3' : decode c.code (pc + 3) = .ok (.dup, 1) := by rw [hb]; exact d3
  have d4' : decode c.code (pc + 4) = .ok (.ldc is, 2) := by rw [hb]; exact d4
  have hstr' : vk_R own is text sa s' := vk_R.warm hW0 hstr
  obtain ⟨U, hsteps, hrun, hend, hW, hsame, ce, hce, hO⟩ := X₁.ctorThrowS hexec htr (own := own) (cls := cls) (names := names) (ic := ic) hown' hcls hnames h (fun x hx => nomatch hx) hfX hkX hcellA (by rw [hhp, hT]; exact Nat.le_refl _) (msg := .ref sa) rfl
    (g := { method := m, pc := pc + 6, locals := ls, stack := .ref sa :: .ref T.heap.size :: .ref T.heap.size :: rest, locked := none }) rfl hsize rfl rfl (rest := rest) rfl
    (by rw [hb]; exact d6) (by rw [hb]; exact d9) hout hRframes (by simp only [List.map_cons, List.sum_cons, hcat]; omega) hlocks
  obtain ⟨f1, f2⟩ := vx_frame hsame
  rw [hhp] at f1 f2
  have hWs : s.WarmedH U.vm := State.WarmedH.trans hW0 hW
  have hcl : s.vm.findClass cls = some ce.cls := by
    have h9 := hO.cls
    rw [hvm] at h9
    exact h9
  have hall : s.sameButNew ({ U with vm := s.vm } : State) locs mc ms := by
    subst hA
    obtain ⟨e1, e2⟩ := hsame
    rw [State.setFrames_setFrames] at e1
    have h2 : (T.setVm s.vm).sameButNew ({ U with vm := s.vm } : State) [] (0 + 1) (0 + 6) := ⟨e1, e2⟩
    have h3 := X.same.trans h2
    rw [List.append_nil] at h3
    exact h3.mono hc hs
  refine ⟨U, ?_, .threw T.heap.size, hrun, hend, Or.inr ⟨T.heap.size, rfl, cls, ce, locs, hx U hWs.alike f1 (fun q hq => f2 q hq (fun z hz => nomatch hz)), hce, hO.vm, hcl, hWs, hall, hf⟩⟩
  refine st1 _ ?_
  show Steps p.tables e below (T1.setTop { method := m, pc := pc + 3, locals := ls, stack := .ref T.heap.size :: rest, locked := none }) _
  jvm_step X₁.here [X₁.here.top, hexec, d3', Value.category]
  exact X₁.ldcString hexec (own := own) (text := text) (index := is) (a := sa) hown' hstr'.1 hstr'.2
    (g := { method := m, pc := pc + 4, locals := ls, stack := .ref T.heap.size :: .ref T.heap.size :: rest, locked := none }) rfl d4' _ hsteps
/-- 'throw new E("text")', the text by a wide index -/
theorem vx_throwSW {cc : ByteArray} {pc : Nat} (hexec : p.tables.exec = Jvm.exec) (hb : c.code = cc) (hl : l.stackTraces = false) {own cls text : String} {names : List String} {ik is ic mc ms sa : Nat} {A : Nat → Prop}
    (hown : s.vm.findClass own = some m.cls) (hcls : Bundle.fit cls = true) (hnames : ∀ n ∈ names, Bundle.fit n = true)
    (hk : (Cond.classLink own ik cls).before args s = true) (hini : (Cond.initialized cls).before args s = true) (hstr : vk_R own is text sa s) (hat : ∀ w ∈ vx_atS own ic cls names, w.before args s = true)
    (hgood : ∀ w ∈ Cond.classLink own ik cls :: Cond.initialized cls :: vx_atS own ic cls names, vx_ot w = true)
    (hU : vx_Zq Bundle.tN "UNASSIGNED_STACK" Bundle.steD A s s.heap) (hN : vx_Zq Bundle.tN "SUPPRESSED_SENTINEL" Bundle.listD A s s.heap) (hS : va_S A s.heap H locs) (hsize : ls.size = c.maxLocals)
    (d0 : decode cc pc = .ok (.new ik, 3)) (d3 : decode cc (pc + 3) = .ok (.dup, 1)) (d4 : decode cc (pc + 4) = .ok (.ldc_w is, 3)) (d7 : decode cc (pc + 7) = .ok (.invokespecial ic, 3)) (d10 : decode cc (pc + 10) = .ok (.athrow, 1))
    (hout : ∀ x ∈ c.exceptionTable.toList, covers x (pc + 10) = false)
    (hRframes : names.length + 3 < R.frames) (hRlocals : (rest.map fun v => v.category).sum + (13 * (names.length + 1) + 43) ≤ R.locals) (hRcells : cells + 1 ≤ R.cells) (hRslots : slots + 6 ≤ R.slots) (hlocks : meth.locks = false)
    (hx : ∀ t : State, s.vm.Alike t.vm → H.size ≤ t.heap.size → (∀ q : Nat, q < H.size → t.heap[q]? = H[q]?) → XC cls s t)
    (hf : ∀ z ∈ locs, free z.base) (hc : cells + 1 ≤ mc) (hs : slots + 6 ≤ ms) :
    W p l e R s m args below meth c H locs cells slots (vx_MQ below Qc XC args s mc ms free) (F0 m pc ls rest) := by
  intro T hT X
  have htr : e.platform.stackTraces = false := (show e.platform.stackTraces = l.stackTraces by rw [X.admits.platform]).trans hl
  have Y := vx_rebase X (R' := { frames := R.frames, locals := R.locals, cells := 1, slots := 6 }) (Nat.le_refl _) (Nat.le_refl _) hRcells hRslots
  obtain ⟨s', hA⟩ : ∃ z, z = (T.setVm s.vm).setFrames (.invoking m args :: below) := ⟨_, rfl⟩
  rw [← hA] at Y
  have hvm : s'.vm = s.vm := by rw [hA]; rfl
  have hhp : s'.heap = H := by rw [hA]; exact hT
  have hW0 : s.WarmedH s'.vm := by rw [hvm]; exact State.WarmedH.refl s
  have hat' : ∀ w ∈ vx_atS own ic cls names, w.before args s' = true := fun w hw => vx_ot_at hW0 hvm.symm (hgood w (List.mem_cons_of_mem _ (List.mem_cons_of_mem _ hw))) (hat w hw)
  have hk' : (Cond.classLink own ik cls).before args s' = true := vx_ot_at hW0 hvm.symm (hgood _ List.mem_cons_self) hk
  have hini' : (Cond.initialized cls).before args s' = true := vx_ot_at hW0 hvm.symm (hgood _ (List.mem_cons_of_mem _ List.mem_cons_self)) hini
  have hU' : vx_Zq Bundle.tN "UNASSIGNED_STACK" Bundle.steD A s' s'.heap := by rw [hhp]; exact vx_Zq.moved hW0.alike (hU.kept hS.2.1)
  have hN' : vx_Zq Bundle.tN "SUPPRESSED_SENTINEL" Bundle.listD A s' s'.heap := by rw [hhp]; exact vx_Zq.moved hW0.alike (hN.kept hS.2.1)
  have h : ∀ w ∈ Bundle.ownAtoms own ic cls names, w.before args s' = true := vx_own hat' (vx_isRefq hU'.1) (vx_isRefq hN'.1) hU'.2.word hN'.2.word
  have hown' : s'.vm.findClass own = some m.cls := by rw [hvm]; exact hown
  have hins : (Cond.instantiable cls 6).before args s' = true := h _ (by simp [Bundle.ownAtoms])
  obtain ⟨vm₁, cX, kX, hfX, hkX, -, -, X₁, st1⟩ := Y.newCold hexec (own := own) (C := cls) (index := ik) (n := 6) hown' hk' hins hini'
    (g := F0 m pc ls rest) rfl (by rw [hb]; exact d0) (Nat.le_refl _) (Nat.le_refl _)
  generalize hT1 : (T.setVm vm₁).pushCell { cls := cX, slots := kX.instanceTypes.map defaultValue, vm := .none } = T1 at X₁ st1
  have hcat : (Value.ref T.heap.size).category = 1 := rfl
  have hcellA : T1.heap[T.heap.size]? = some (freshCell cX kX) := by rw [← hT1]; exact State.heap_pushCell_size _ _
  have d3' : decode c.code (pc + 3) = .ok (.dup, 1) := by rw [hb]; exact d3
  have d4' : decode c.code (pc + 4) = .ok (.ldc_w is, 3) := by rw [hb]; exact d4
  have hstr' : vk_R own is text sa s' := vk_R.warm hW0 hstr
  obtain ⟨U, hsteps, hrun, hend, hW, hsame, ce, hce, hO⟩ := X₁.ctorThrowS hexec htr (own := own) (cls := cls) (names := names) (ic := ic) hown' hcls hnames h (fun x hx => nomatch hx) hfX hkX hcellA (by rw [hhp, hT]; exact Nat.le_refl _) (msg := .ref sa) rfl
    (g := { method := m, pc := pc + 7, locals := ls, stack := .ref sa :: .ref T.heap.size :: .ref T.heap.size :: rest, locked := none }) rfl hsize rfl rfl (rest := rest) rfl
    (by rw [hb]; exact d7) (by rw [hb]; exact d10) hout hRframes (by simp only [List.map_cons, List.sum_cons, hcat]; omega) hlocks
  obtain ⟨f1, f2⟩ := vx_frame hsame
  rw [hhp] at f1 f2
  have hWs : s.WarmedH U.vm := State.WarmedH.trans hW0 hW
  have hcl : s.vm.findClass cls = some ce.cls := by
    have h9 := hO.cls
    rw [hvm] at h9
    exact h9
  have hall : s.sameButNew ({ U with vm := s.vm } : State) locs mc ms := by
    subst hA
    obtain ⟨e1, e2⟩ := hsame
    rw [State.setFrames_setFrames] at e1
    have h2 : (T.setVm s.vm).sameButNew ({ U with vm := s.vm } : State) [] (0 + 1) (0 + 6) := ⟨e1, e2⟩
    have h3 := X.same.trans h2
    rw [List.append_nil] at h3
    exact h3.mono hc hs
  refine ⟨U, ?_, .threw T.heap.size, hrun, hend, Or.inr ⟨T.heap.size, rfl, cls, ce, locs, hx U hWs.alike f1 (fun q hq => f2 q hq (fun z hz => nomatch hz)), hce, hO.vm, hcl, hWs, hall, hf⟩⟩
  refine st1 _ ?_
  show Steps p.tables e below (T1.setTop { method := m, pc := pc + 3, locals := ls, stack := .ref T.heap.size :: rest, locked := none }) _
  jvm_step X₁.here [X₁.here.top, hexec, d3', Value.category]
  exact X₁.ldcStringW hexec (own := own) (text := text) (index := is) (a := sa) hown' hstr'.1 hstr'.2
    (g := { method := m, pc := pc + 4, locals := ls, stack := .ref T.heap.size :: .ref T.heap.size :: rest, locked := none }) rfl d4' _ hsteps
end Ends
section Bodies
variable {l : Launch}
theorem vx_ofW {y : MethodName} {ws ws' : List Cond} {rm : Room} {Pc : Array Value → State → Prop} {Qc : Array Value → State → Outcome → State → Prop} {XC : String → State → State → Prop} {mc ms : Nat} {free : Addr → Prop} {cc : ByteArray} {maxL : Nat} {ret : Option FieldType}
    (hy : plainName y.cls = true) (hw : ws = Cond.code y cc maxL ret :: ws')
    (body : ∀ p e s m args below meth c s₁, BodyLoose p l y (headSpec ws rm) cc maxL ret e s m args below meth c s₁ → c.maxLocals = maxL → (∀ x ∈ c.exceptionTable.toList, False) → Pc args s →
      W p l e (headSpec ws rm).room s m args below meth c s.heap [] 0 0 (vx_MQ below Qc XC args s mc ms free) (entryFrame m args maxL)) : vx_Met l y ws rm Pc Qc XC mc ms free := by
  refine MetFree.of_bodyS (code := cc) (maxLocals := maxL) (ret := ret) hy ?_ ?_
  · intro args s m h hn
    obtain ⟨meth, c, h1, h2, h3, h4, h5, h6, -, -⟩ := Cond.code_spec hn (atoms_spec (ws := ws) h _ (by rw [hw]; exact List.mem_cons_self))
    exact ⟨meth, c, h1, h2, h3, h4, h5, h6⟩
  · intro p e s m args below meth c s₁ B hml hP _
    have hh0 : s₁.heap = s.heap := by rw [B.state]; rfl
    have ht : ∀ x ∈ c.exceptionTable.toList, False := by
      obtain ⟨meth9, c9, h1, h2, -, -, -, -, h7, -⟩ := Cond.code_spec B.named (atoms_spec (ws := ws) B.pre _ (by rw [hw]; exact List.mem_cons_self))
      cases Option.some.inj (h1.symm.trans B.method)
      cases Option.some.inj (h2.symm.trans (Stand.of_body B).code)
      intro x hx
      rw [Array.isEmpty_iff.mp h7] at hx
      cases hx
    obtain ⟨t, a1, o, b1, b2, b3⟩ := body p e s m args below meth c s₁ B hml ht hP s₁ hh0 (Stand.of_body B)
    exact ⟨t, o, a1, b1, b2, b3⟩
/-- the table of a body with handlers -/
theorem vx_table {p : Program} {x y : MethodName} {S : Spec} {cc bytes : ByteArray} {maxL maxL' : Nat} {ret ret' : Option FieldType} {e : Env} {s s₁ : State} {m : MethodId} {args : Array Value} {below : List Frame} {meth : Method} {c : Code} {hh : List (Nat × Nat × Nat × Nat)}
    (B : BodyLoose p l y S cc maxL ret e s m args below meth c s₁) (h : (Cond.codeWith y bytes maxL' ret' hh).before args s = true) : c.exceptionTable.toList = tableOf hh := by
  obtain ⟨m9, meth9, c9, hn9, h1, h2, -, -, h6, -⟩ := Cond.codeWith_spec h
  cases Option.some.inj (hn9.symm.trans B.named)
  cases Option.some.inj (h1.symm.trans B.method)
  cases Option.some.inj (h2.symm.trans (Stand.of_body B).code)
  rw [← h6, table_eq]
end Bodies
end VXA
/-! ===== END ===== -/
/-! ===== BEGIN a static call of a method with an exception table ===== -/
section VXS
variable {p : Program} {l : Launch} {e : Env} {R : Room} {s : State} {m : MethodId} {args : Array Value} {below : List Frame} {meth : Method} {c : Code} {T : State} {H : Heap} {locs : List Loc} {cells slots : Nat}
abbrev vx_CSW (R : Room) (s : State) (args : Array Value) (own : String) (index : Nat) (y : MethodName) (bytes : ByteArray) (maxL : Nat) (ret : Option FieldType) (hh : List (Nat × Nat × Nat × Nat)) (ws : List Cond) (rm : Room) (mc ms n : Nat) : Prop :=
  (rm.cells = mc ∧ rm.slots = ms ∧ rm.frames + 1 ≤ R.frames ∧ 8 + (maxL + 11) + rm.locals ≤ R.locals ∧ (∀ w ∈ ws, ∀ (a' : Array Value) (U : State), s.WarmedH U.vm → w.before a' U = true) ∧ Cond.codeWith y bytes maxL ret hh ∈ ws) ∧
  (Cond.codeWith y bytes maxL ret hh).before args s = true ∧ (Cond.initialized y.cls).before args s = true ∧ (y.cls ≠ "java/lang/invoke/MethodHandle" ∧ y.cls ≠ "java/lang/invoke/VarHandle") ∧
  (∀ sig, parseMethodDescriptor y.desc = some sig → n = sig.parameters.length) ∧ (Cond.methodLink own index y).before args s = true ∧ (Cond.static y).before args s = true
theorem vx_cwSW {own : String} {index maxL mc ms : Nat} {y : MethodName} {bytes : ByteArray} {ret : Option FieldType} {hh : List (Nat × Nat × Nat × Nat)} {Ts ws ws' : List Cond} {rm : Room} (n : Nat) (ht : ∀ w ∈ Ts, w.before args s = true) (hT : GoodIn Ts (va_wsS own index y ws)) (hw : ws = Cond.codeWith y bytes maxL ret hh :: ws') (hrc : rm.cells = mc) (hrs : rm.slots = ms)
    (hd : y.cls ≠ "java/lang/invoke/MethodHandle" ∧ y.cls ≠ "java/lang/invoke/VarHandle" ∧ (parseMethodDescriptor y.desc).map (fun d => d.parameters.length) = some n) (hR : rm.frames + 1 ≤ R.frames ∧ 8 + (maxL + 11) + rm.locals ≤ R.locals) :
    vx_CSW R s args own index y bytes maxL ret hh ws rm mc ms n := by
  have ok : ∀ w ∈ va_wsS own index y ws, w.before args s = true := fun w h => ht w (hT w h).1
  have hG : GoodIn Ts ws := fun w h => hT w (by unfold va_wsS; exact List.mem_append_right _ h)
  have hc : Cond.codeWith y bytes maxL ret hh ∈ ws := by rw [hw]; exact List.mem_cons_self
  refine ⟨⟨hrc, hrs, hR.1, hR.2, pay_in ht hG, hc⟩, ht _ (hG _ hc).1, ok _ (by simp [va_wsS]), ⟨hd.1, hd.2.1⟩, fun sig h => ?_, ok _ (by simp [va_wsS]), ok _ (by simp [va_wsS])⟩
  have h2 := hd.2.2
  rw [h] at h2
  exact (Option.some.inj h2).symm
theorem vx_callSW (X : Stand p l e R s m args below meth c T locs cells slots) (hexec : p.tables.exec = Jvm.exec) {own : String} {index : Nat} {y : MethodName} {bytes : ByteArray} {maxL : Nat} {ret : Option FieldType} {hh : List (Nat × Nat × Nat × Nat)}
    (hown : s.vm.findClass own = some m.cls) (hlink : (Cond.methodLink own index y).before args s = true) (hstat : (Cond.static y).before args s = true) (hinit : (Cond.initialized y.cls).before args s = true)
    (hcode : (Cond.codeWith y bytes maxL ret hh).before args s = true) (hy : y.cls ≠ "java/lang/invoke/MethodHandle" ∧ y.cls ≠ "java/lang/invoke/VarHandle")
    {W9 : Nat} {Pre : Pt → Array Value → Prop} {Post : Pt → Array Value → Option Value → Pt → Prop} (hK : Back l R p e below s args y 3 W9 Pre Post)
    {g : JFrame} (hg : g.method = m) (hsize : g.locals.size = c.maxLocals) {argsL rest : List Value} (hlen : ∀ sig, parseMethodDescriptor y.desc = some sig → argsL.length = sig.parameters.length)
    (hstack : g.stack = argsL.reverse ++ rest) (hW : 2 * g.monitorRoom + (rest.map fun v => v.category).sum ≤ W9) (hdg : decode c.code g.pc = .ok (.invokestatic index, 3))
    (hpre : ∀ vm₁, s.WarmedH vm₁ → Pre ⟨T.setVm vm₁, locs, cells, slots⟩ argsL.toArray) :
    ∃ (v : Option Value) (vm₁ : Vm) (B : Pt), s.WarmedH vm₁ ∧ Stand p l e R s m args below meth c B.U B.locs B.cells B.slots ∧ Post ⟨T.setVm vm₁, locs, cells, slots⟩ argsL.toArray v B ∧
      ∀ target, Steps p.tables e below (B.U.setTop { g with pc := g.pc + 3, stack := v.toList ++ rest }) target → Steps p.tables e below (T.setTop g) target := by
  obtain ⟨mk, methM, cM, hnamed, hmethM, -, -, -, -, -, -, hsigM⟩ := Cond.codeWith_spec hcode
  have hstatic : methM.isStatic = true := Cond.static_spec hnamed hmethM hstat
  obtain ⟨kP, hkP, -⟩ := className_of_methodNamed hnamed
  have hinitP : kP.init = .initialized := Cond.initialized_spec (findClass_of_methodNamed hnamed) hkP hinit
  obtain ⟨vm₁, X₁, hstep₁⟩ := X.invokestatic hexec hown hlink hnamed hmethM hstatic hkP hinitP hy (g := g) hg (argsL := argsL) (rest := rest) (hlen _ hsigM) hstack hdg
  obtain ⟨v, B, X', hpost, hsteps⟩ := hK m meth c ⟨T.setVm vm₁, locs, cells, slots⟩ { g with stack := rest } (.invokestatic index) mk argsL.toArray X₁ hg hsize hdg hW (X₁.named hnamed) (hpre vm₁ X₁.warmed)
  exact ⟨v, vm₁, B, X₁.warmed, X', hpost, fun target h => hstep₁ _ fun acts => by rw [doInvoke_state]; exact hsteps.trans h⟩
theorem vx_runSW {y : MethodName} {bytes cc : ByteArray} {maxL nL mc ms n index : Nat} {ret : Option FieldType} {hh : List (Nat × Nat × Nat × Nat)} {ws : List Cond} {rm : Room} {Pc : Array Value → State → Prop} {Qc : Array Value → State → Outcome → State → Prop} {free : Addr → Prop} {Ts : List Cond} {own : String} {As rest : List Value} {g : JFrame}
    (S : CallFix p m c cc nL s args Ts own) (hM : Met l y ws rm Pc Qc mc ms free) (cw : vx_CSW R s args own index y bytes maxL ret hh ws rm mc ms n) (hp : PreS s H Pc As)
    (hg : g.method = m) (hn : As.length = n) (hsize : g.locals.size = nL) (hstack : g.stack = As.reverse ++ rest) (hW : 2 * g.monitorRoom + (rest.map fun v => v.category).sum ≤ 8) (hdg : decode cc g.pc = .ok (.invokestatic index, 3)) (hf : cells + mc ≤ R.cells ∧ slots + ms ≤ R.slots) :
    va_Run p l e R s m args below meth c H locs cells slots mc ms g rest (Qc As.toArray) (free) := by
  obtain ⟨⟨hrc, hrs, hfr, hlo, hws, hcw⟩, hcode, hini, hy, hlen, hl, hstt⟩ := cw
  have hK : Back l R p e below s args y 3 8 (PreOf R mc ms Pc) (PostOf Qc mc ms free) := va_backW (hh := hh) (bytes := bytes) (maxL := maxL) (ret := ret) hM hp.1 hrc hrs hfr hlo hws hcw (fun a' U hW => word_at hW (Or.inl (by first | rfl | simp [Cond.onTables, Cond.keeps, Cond.steady])) hini)
  obtain ⟨hx, hb, hml, ho, -⟩ := S
  intro T hT X
  obtain ⟨v, vm₁, ⟨U', l2, c2, s2⟩, hW₁, X', ⟨g', mk, t, L, e1, e2, hq, h1, hL, h2, h3⟩, st⟩ := vx_callSW X hx (hh := hh) (bytes := bytes) (maxL := maxL) (ret := ret) ho hl hstt hini hcode hy hK hg (hsize.trans hml.symm) (argsL := As) (rest := rest) (fun sig h => hn.trans (hlen sig h)) hstack hW (by rw [hb]; exact hdg)
    (fun vm₁ hW₁ => ⟨hf.1, hf.2, hp.2 (T.setVm vm₁) hT hW₁⟩)
  dsimp only [Pt.U, Pt.locs, Pt.cells, Pt.slots] at X' e1 e2 h1 h2 h3 st
  subst h1; subst h2; subst h3
  exact ⟨v, (T.setVm vm₁).calling g' mk As.toArray, t, U', L, hT, X', hL, e1, e2, hq, st⟩
/-- not caught here, past rows that name other classes: it goes on to the caller -/
theorem vx_outP {p : Program} {l : Launch} {e : Env} {R : Room} {s : State} {m : MethodId} {args : Array Value} {below : List Frame} {meth : Method} {c : Code} {H : Heap} {locs : List Loc} {cells slots : Nat} {free : Addr → Prop} {ls : Array Slot} {rest : List Value} {Qc : Array Value → State → Outcome → State → Prop} {XC : String → State → State → Prop}
    {pc : Nat} {own E : String} {ce : Cell} {q : Addr} {mc ms : Nat} (hown : s.vm.findClass own = some m.cls) (hlocks : meth.locks = false)
    (hpass : ∀ z ∈ c.exceptionTable.toList, covers z pc = false ∨ (z.catchType ≠ 0 ∧ ∃ nm : String, (Cond.classLink own z.catchType nm).before args s = true ∧ va_Nc E nm s)) (hcell : H[q]? = some ce) (hv : ce.vm = .none) (hcl : s.vm.findClass E = some ce.cls)
    (hx : ∀ t : State, t.heap = H → s.vm.Alike t.vm → XC E s t) (hf : ∀ z ∈ locs, free z.base) (hc : cells ≤ mc) (hs : slots ≤ ms) :
    vx_W p l e R s m args below meth c H locs cells slots (vx_MQ below Qc XC args s mc ms free) (F0 m pc ls rest) q := by
  intro T hT X
  have hpl : e.platform.magicAccessors = ({} : Platform).magicAccessors := by rw [X.admits.platform]
  obtain ⟨vm', hW', X', st⟩ := X.outThrough hlocks q (g := F0 m pc ls rest) rfl rfl rfl (cell := ce) (by rw [hT]; exact hcell) (by rw [hv]; rfl)
    (by obtain ⟨k9, h9, -⟩ := Vm.findClass_spec hcl; exact ⟨k9, h9⟩) (fun z hz => by
      rcases hpass z hz with h | ⟨hz0, nm, hl1, hn1⟩
      · exact Or.inl h
      · obtain ⟨c6, hc6, hcl6⟩ := Cond.classLink_spec hown hl1 e.platform hpl
        obtain ⟨a8, b8, h1, h2, h3⟩ := hn1
        cases Option.some.inj (h1.symm.trans hcl)
        cases Option.some.inj (h2.symm.trans hc6)
        exact Or.inr ⟨hz0, _, hcl6, h3⟩)
  obtain ⟨g₀, hfr⟩ := X'.frames_eq
  have hcell9 : ((T.setVm vm').setFrames (.throwing q :: below)).heap[q]? = some ce := by
    show T.heap[q]? = some ce
    rw [hT]; exact hcell
  have hend : Ended ((T.setVm vm').setFrames (.throwing q :: below)) below (.threw q) := State.frames_setFrames _ (State.cur_lt_of_frames hfr)
  refine ⟨(T.setVm vm').setFrames (.throwing q :: below), ?_, .threw q, X'.here.running, hend, Or.inr ⟨q, rfl, E, ce, locs, hx _ hT (X'.ends _).1.alike, hcell9, hv, hcl, (X'.ends _).1, (X'.ends _).2.mono hc hs, hf⟩⟩
  rw [X.pushThrowing_eq]
  exact st
/-- a thing of a world lies in the heap -/
theorem vx_lt {D : va_G} {cl : List vw_C} {ws : va_W} {H1 : Heap} (h : va_P D cl ws H1) {k : Nat} {q : Nat × va_E} (hk : ws[k]? = some q) : q.1 < H1.size := (h k q hk).lt
end VXS
/-! ===== END ===== -/
/-! ===== BEGIN methods with a table of their own: called by a name, returning or throwing ===== -/
section VXH
/-! vx_backW, vx_callVX, vx_callSX, vx_callVW, vx_runVW, vx_runVX, vx_runSX, vx_ofWH follow the same proofs as their sisters above (Free/Laws.lean, Shelf42/LK1.lean); vx_outP calls Shelf42/NT130.lean (outThrough). -/
section
variable {l : Launch} {R : Room} {p : Program} {e : Env} {below : List Frame} {s : State} {sargs : Array Value} {y : MethodName} {len W9 : Nat}
theorem vx_backW {ws : List Cond} {rm : Room} {Pc : Array Value → State → Prop} {Qc : Array Value → State → Outcome → State → Prop} {XC : String → State → State → Prop} {mc ms : Nat} {free : Addr → Prop} {bytes : ByteArray} {maxL : Nat} {ret : Option FieldType} {hh : List (Nat × Nat × Nat × Nat)}
    (hM : vx_Met l y ws rm Pc Qc XC mc ms free) (hblind : FrameBlind Pc) (hrc : rm.cells = mc) (hrs : rm.slots = ms)
    (hframes : rm.frames + 1 ≤ R.frames) (hlocals : W9 + (maxL + 11) + rm.locals ≤ R.locals)
    (hws : ∀ w ∈ ws, ∀ a' U, s.WarmedH U.vm → w.before a' U = true) (hcode : Cond.codeWith y bytes maxL ret hh ∈ ws) (hinit : ∀ a' U, s.WarmedH U.vm → (Cond.initialized y.cls).before a' U = true) :
    vx_Back l R p e below s sargs y len W9 (PreOf R mc ms Pc) (PostOf Qc mc ms free) (vx_Post XC mc ms free) := by
  intro m meth c A g ig mk a X hg hsize hdg hW hn hp
  have h1 : (headSpec ws rm).pre.before a A.U = true := atoms_intro fun w hw => hws w hw _ _ X.warmed
  have h2 : (Cond.codeWith y bytes maxL ret hh).before a A.U = true := hws _ hcode _ _ X.warmed
  have h3 : (Cond.initialized y.cls).before a A.U = true := hinit _ _ X.warmed
  have h4 : A.cells + (headSpec ws rm).room.cells ≤ R.cells := by rw [show (headSpec ws rm).room.cells = mc from hrc]; exact hp.1
  have h5 : A.slots + (headSpec ws rm).room.slots ≤ R.slots := by rw [show (headSpec ws rm).room.slots = ms from hrs]; exact hp.2.1
  have hPc : Pc a (A.U.calling g mk a) := hblind _ _ _ _ hp.2.2
  obtain ⟨U, Ls, c0, s0⟩ := A
  dsimp only [Pt.U, Pt.locs, Pt.cells, Pt.slots] at h1 h2 h3 h4 h5 X hn hPc ⊢
  obtain ⟨m9, methY, cY, hn9, hmY, hcY, -, hlY, -⟩ := Cond.codeWith_spec h2
  cases Option.some.inj (hn9.symm.trans hn)
  obtain ⟨kY, hkY, -⟩ := className_of_methodNamed hn
  have hinitY : kY.init = .initialized := Cond.initialized_spec (findClass_of_methodNamed hn) hkY h3
  have h : At U g.method c below := by rw [hg]; exact X.here
  have hlocals9 : W9 + (maxL + 11) + (headSpec ws rm).room.locals ≤ R.locals := hlocals
  have happ : (headSpec ws rm).appliesLoose y e.platform (U.calling g mk a) = true :=
    Spec.appliesLoose_calling (g := g) h hdg hn hkY hinitY
      (X.room_calling (g := g) (R' := (headSpec ws rm).room) hsize hmY hcY hframes (by rw [hlY]; omega) h4 h5) h1
  obtain ⟨mid, hmid⟩ := h.above
  have hfr : (U.setTop g).frames = (.java g :: mid) ++ below := by rw [State.frames_setTop' g h.top, hmid]; rfl
  obtain ⟨o, s₂, hsteps, -, hend, hq⟩ := Steps.callFree hM p X.admits X.cas X.clock (acts := []) hfr happ hPc trivial
  have hq' : vx_Q Qc XC mc ms free a (U.calling g mk a) o s₂ := hq
  rw [State.frames_setTop' g h.top] at hend
  obtain ⟨g₀, hg0⟩ := Option.isSome_iff_exists.mp h.top
  obtain ⟨r, hr⟩ := State.topJava?_eq_some.mp hg0
  have hr' : (({ U with heap := s₂.heap, slotsUsed := s₂.slotsUsed } : State).setVm s₂.vm).frames = .java g₀ :: r := hr
  rcases hq' with ⟨hqc, L, hfe, hL⟩ | ⟨q, rfl, E, ce, L, hx, hce, hcv, hcl, hW₂, hsm, hL⟩
  · obtain ⟨⟨v, rfl⟩, hW₂, e2, q2, q3, q4, q5, q6⟩ := id hfe
    have e3 : s₂ = ({ (U.calling g mk a).setFrames s₂.frames with heap := s₂.heap, slotsUsed := s₂.slotsUsed } : State).setVm s₂.vm := by
      have : s₂ = ({ s₂ with vm := (U.calling g mk a).vm } : State).setVm s₂.vm := rfl
      rw [e2] at this
      exact this
    obtain ⟨c₂, i₂, len₂, hc₂, hd₂, hf₂⟩ := hend
    have hW' : U.WarmedH s₂.vm := hW₂
    have hcc : c₂ = c := by
      have h1 : s₂.code? g.method = U.code? g.method := by
        rw [State.code?_eq, State.code?_eq, hW'.alike.method?]
      exact Option.some.inj (hc₂.symm.trans (h1.trans h.code))
    subst hcc
    have hlen : len₂ = len := by rw [hdg] at hd₂; cases hd₂; rfl
    subst hlen
    have hs₂ : s₂ = (({ U with heap := s₂.heap, slotsUsed := s₂.slotsUsed } : State).setVm s₂.vm).setTop { g with pc := g.pc + len₂, stack := v.toList ++ g.stack } := by
      refine e3.trans ?_
      rw [hf₂, State.calling_eq h.top, State.setFrames_setFrames, State.setTop_of_frames _ hr', hr]
      rfl
    have hsame : U.sameButNew ({ U with heap := s₂.heap, slotsUsed := s₂.slotsUsed } : State) L mc ms := by
      refine ⟨?_, q2, q3, q4, q5, q6⟩
      obtain ⟨t, ht, -⟩ := State.frames_cons hr
      show ({ U with heap := s₂.heap, slotsUsed := s₂.slotsUsed } : State) = { U.setFrames U.frames with heap := s₂.heap, slotsUsed := s₂.slotsUsed }
      rw [State.setFrames_self ht]
    subst hg
    refine Or.inl ⟨v, ⟨(({ U with heap := s₂.heap, slotsUsed := s₂.slotsUsed } : State).setVm s₂.vm), Ls ++ L, c0 + mc, s0 + ms⟩,
      ⟨X.admits, X.cas, X.clock, X.frames, X.room, X.hears, X.method, X.code, (X.here.setHeapUsed s₂.heap s₂.slotsUsed).setVm hW'.alike, X.tail, State.WarmedH.trans X.warmed hW', X.limits, X.bytes, X.same.trans (hsame.setVm s.vm)⟩,
      ⟨g, mk, s₂, L, rfl, rfl, hqc, rfl, hL, rfl, rfl⟩, ?_⟩
    show Steps p.tables e below _ ((({ U with heap := s₂.heap, slotsUsed := s₂.slotsUsed } : State).setVm s₂.vm).setTop { g with pc := g.pc + len₂, stack := v.toList ++ g.stack })
    rw [← hs₂]
    exact hsteps
  · obtain ⟨e2, q2, q3, q4, q5, q6⟩ := id hsm
    have e3 : s₂ = ({ (U.calling g mk a).setFrames s₂.frames with heap := s₂.heap, slotsUsed := s₂.slotsUsed } : State).setVm s₂.vm := by
      have : s₂ = ({ s₂ with vm := (U.calling g mk a).vm } : State).setVm s₂.vm := rfl
      rw [e2] at this
      exact this
    have hf₂ : s₂.frames = .throwing q :: .java g :: U.frames.tail := hend
    have hW' : U.WarmedH s₂.vm := hW₂
    have hs₂ : s₂ = ((({ U with heap := s₂.heap, slotsUsed := s₂.slotsUsed } : State).setVm s₂.vm).setTop g).pushFrame (.throwing q) := by
      refine e3.trans ?_
      rw [hf₂, State.calling_eq h.top, State.setFrames_setFrames, State.pushFrame, State.frames_setTop _ hr', State.setTop_of_frames _ hr', State.setFrames_setFrames, hr]
      rfl
    have hsame : U.sameButNew ({ U with heap := s₂.heap, slotsUsed := s₂.slotsUsed } : State) L mc ms := by
      refine ⟨?_, q2, q3, q4, q5, q6⟩
      obtain ⟨t, ht, -⟩ := State.frames_cons hr
      show ({ U with heap := s₂.heap, slotsUsed := s₂.slotsUsed } : State) = { U.setFrames U.frames with heap := s₂.heap, slotsUsed := s₂.slotsUsed }
      rw [State.setFrames_self ht]
    subst hg
    refine Or.inr ⟨q, ⟨(({ U with heap := s₂.heap, slotsUsed := s₂.slotsUsed } : State).setVm s₂.vm), Ls ++ L, c0 + mc, s0 + ms⟩,
      ⟨X.admits, X.cas, X.clock, X.frames, X.room, X.hears, X.method, X.code, (X.here.setHeapUsed s₂.heap s₂.slotsUsed).setVm hW'.alike, X.tail, State.WarmedH.trans X.warmed hW', X.limits, X.bytes, X.same.trans (hsame.setVm s.vm)⟩,
      ⟨g, mk, s₂, L, E, ce, rfl, rfl, hx, hce, hcv, hcl, rfl, hL, rfl, rfl⟩, ?_⟩
    show Steps p.tables e below _ (((({ U with heap := s₂.heap, slotsUsed := s₂.slotsUsed } : State).setVm s₂.vm).setTop g).pushFrame (.throwing q))
    rw [← hs₂]
    exact hsteps
end
variable {p : Program} {l : Launch} {e : Env} {R : Room} {s : State} {m : MethodId} {args : Array Value} {below : List Frame} {meth : Method} {c : Code} {T : State} {H : Heap} {locs : List Loc} {cells slots : Nat}
theorem vx_callVX (X : Stand p l e R s m args below meth c T locs cells slots) (hexec : p.tables.exec = Jvm.exec) {own C : String} {index : Nat} {y : MethodName} {bytes : ByteArray} {maxL : Nat} {ret : Option FieldType} {hh : List (Nat × Nat × Nat × Nat)}
    (hown : s.vm.findClass own = some m.cls) (hlink : (Cond.methodLink own index y).before args s = true) (hinst : (Cond.instanceMethod y).before args s = true) (hsel : (Cond.selects C y y).before args s = true)
    (hcode : (Cond.codeWith y bytes maxL ret hh).before args s = true) (hy : y.cls ≠ "java/lang/invoke/MethodHandle" ∧ y.cls ≠ "java/lang/invoke/VarHandle")
    {W9 : Nat} {Pre : Pt → Array Value → Prop} {Post : Pt → Array Value → Option Value → Pt → Prop} {PostX : Pt → Array Value → Addr → Pt → Prop} (hK : vx_Back l R p e below s args y 3 W9 Pre Post PostX)
    {b : Addr} {cellB : Cell} (hcell : T.heap[b]? = some cellB) (hobj : cellB.vm.isStatics = false) (hcls : s.vm.findClass C = some cellB.cls)
    {g : JFrame} (hg : g.method = m) (hsize : g.locals.size = c.maxLocals) {argsL rest : List Value} (hlen : ∀ sig, parseMethodDescriptor y.desc = some sig → argsL.length = sig.parameters.length)
    (hstack : g.stack = argsL.reverse ++ .ref b :: rest) (hW : 2 * g.monitorRoom + (rest.map fun v => v.category).sum ≤ W9) (hdg : decode c.code g.pc = .ok (.invokevirtual index, 3))
    (hpre : ∀ vm₁, s.WarmedH vm₁ → Pre ⟨T.setVm vm₁, locs, cells, slots⟩ (Value.ref b :: argsL).toArray) :
    (∃ (v : Option Value) (vm₁ : Vm) (B : Pt), s.WarmedH vm₁ ∧ Stand p l e R s m args below meth c B.U B.locs B.cells B.slots ∧ Post ⟨T.setVm vm₁, locs, cells, slots⟩ (Value.ref b :: argsL).toArray v B ∧
      ∀ target, Steps p.tables e below (B.U.setTop { g with pc := g.pc + 3, stack := v.toList ++ rest }) target → Steps p.tables e below (T.setTop g) target) ∨
    (∃ (q : Addr) (vm₁ : Vm) (B : Pt), s.WarmedH vm₁ ∧ Stand p l e R s m args below meth c B.U B.locs B.cells B.slots ∧ PostX ⟨T.setVm vm₁, locs, cells, slots⟩ (Value.ref b :: argsL).toArray q B ∧
      Steps p.tables e below (T.setTop g) ((B.U.setTop { g with stack := rest }).pushFrame (.throwing q))) := by
  obtain ⟨mk, methM, hnamed, hmethM, hstM, habM⟩ := Cond.instanceMethod_spec hinst
  obtain ⟨m8, methM', cM, hn8, hmethM', -, -, -, -, -, -, hsigM⟩ := Cond.codeWith_spec hcode
  cases Option.some.inj (hn8.symm.trans hnamed)
  cases hmethM.symm.trans hmethM'
  obtain ⟨c2, r2, m2, q1, q2, q3, q4, kP, hkP, hkPi⟩ := Cond.selects_spec hsel
  cases hcls.symm.trans q1
  cases (State.methodFound?_of_named hnamed hy).symm.trans q2
  cases hnamed.symm.trans q3
  have hselP : selectMethod e.platform s.vm cellB.cls mk = .method mk := by rw [Launch.admits_selectMethod X.admits]; exact q4
  obtain ⟨vm₁, X₁, hstep₁⟩ := X.invokevirtual hexec hown hlink hnamed hmethM hstM hkP hkPi hy (a := b) (cell := cellB) hcell
    (fun z h => by rw [h] at hobj; cases hobj) hselP hmethM habM hkP hkPi (g := g) hg (argsL := argsL) (rest := rest) (hlen _ hsigM) hstack hdg
  rcases hK m meth c ⟨T.setVm vm₁, locs, cells, slots⟩ { g with stack := rest } (.invokevirtual index) mk (Value.ref b :: argsL).toArray X₁ hg hsize hdg hW (X₁.named hnamed) (hpre vm₁ X₁.warmed) with ⟨v, B, X', hpost, hsteps⟩ | ⟨q, B, X', hpost, hsteps⟩
  · exact Or.inl ⟨v, vm₁, B, X₁.warmed, X', hpost, fun target h => hstep₁ _ fun acts => by rw [doInvoke_state]; exact hsteps.trans h⟩
  · exact Or.inr ⟨q, vm₁, B, X₁.warmed, X', hpost, hstep₁ _ fun acts => by rw [doInvoke_state]; exact hsteps⟩
theorem vx_callSX (X : Stand p l e R s m args below meth c T locs cells slots) (hexec : p.tables.exec = Jvm.exec) {own : String} {index : Nat} {y : MethodName} {bytes : ByteArray} {maxL : Nat} {ret : Option FieldType} {hh : List (Nat × Nat × Nat × Nat)}
    (hown : s.vm.findClass own = some m.cls) (hlink : (Cond.methodLink own index y).before args s = true) (hstat : (Cond.static y).before args s = true) (hinit : (Cond.initialized y.cls).before args s = true)
    (hcode : (Cond.codeWith y bytes maxL ret hh).before args s = true) (hy : y.cls ≠ "java/lang/invoke/MethodHandle" ∧ y.cls ≠ "java/lang/invoke/VarHandle")
    {W9 : Nat} {Pre : Pt → Array Value → Prop} {Post : Pt → Array Value → Option Value → Pt → Prop} {PostX : Pt → Array Value → Addr → Pt → Prop} (hK : vx_Back l R p e below s args y 3 W9 Pre Post PostX)
    {g : JFrame} (hg : g.method = m) (hsize : g.locals.size = c.maxLocals) {argsL rest : List Value} (hlen : ∀ sig, parseMethodDescriptor y.desc = some sig → argsL.length = sig.parameters.length)
    (hstack : g.stack = argsL.reverse ++ rest) (hW : 2 * g.monitorRoom + (rest.map fun v => v.category).sum ≤ W9) (hdg : decode c.code g.pc = .ok (.invokestatic index, 3))
    (hpre : ∀ vm₁, s.WarmedH vm₁ → Pre ⟨T.setVm vm₁, locs, cells, slots⟩ argsL.toArray) :
    (∃ (v : Option Value) (vm₁ : Vm) (B : Pt), s.WarmedH vm₁ ∧ Stand p l e R s m args below meth c B.U B.locs B.cells B.slots ∧ Post ⟨T.setVm vm₁, locs, cells, slots⟩ argsL.toArray v B ∧
      ∀ target, Steps p.tables e below (B.U.setTop { g with pc := g.pc + 3, stack := v.toList ++ rest }) target → Steps p.tables e below (T.setTop g) target) ∨
    (∃ (q : Addr) (vm₁ : Vm) (B : Pt), s.WarmedH vm₁ ∧ Stand p l e R s m args below meth c B.U B.locs B.cells B.slots ∧ PostX ⟨T.setVm vm₁, locs, cells, slots⟩ argsL.toArray q B ∧
      Steps p.tables e below (T.setTop g) ((B.U.setTop { g with stack := rest }).pushFrame (.throwing q))) := by
  obtain ⟨mk, methM, cM, hnamed, hmethM, -, -, -, -, -, -, hsigM⟩ := Cond.codeWith_spec hcode
  have hstatic : methM.isStatic = true := Cond.static_spec hnamed hmethM hstat
  obtain ⟨kP, hkP, -⟩ := className_of_methodNamed hnamed
  have hinitP : kP.init = .initialized := Cond.initialized_spec (findClass_of_methodNamed hnamed) hkP hinit
  obtain ⟨vm₁, X₁, hstep₁⟩ := X.invokestatic hexec hown hlink hnamed hmethM hstatic hkP hinitP hy (g := g) hg (argsL := argsL) (rest := rest) (hlen _ hsigM) hstack hdg
  rcases hK m meth c ⟨T.setVm vm₁, locs, cells, slots⟩ { g with stack := rest } (.invokestatic index) mk argsL.toArray X₁ hg hsize hdg hW (X₁.named hnamed) (hpre vm₁ X₁.warmed) with ⟨v, B, X', hpost, hsteps⟩ | ⟨q, B, X', hpost, hsteps⟩
  · exact Or.inl ⟨v, vm₁, B, X₁.warmed, X', hpost, fun target h => hstep₁ _ fun acts => by rw [doInvoke_state]; exact hsteps.trans h⟩
  · exact Or.inr ⟨q, vm₁, B, X₁.warmed, X', hpost, hstep₁ _ fun acts => by rw [doInvoke_state]; exact hsteps⟩
theorem vx_callVW (X : Stand p l e R s m args below meth c T locs cells slots) (hexec : p.tables.exec = Jvm.exec) {own C : String} {index : Nat} {y : MethodName} {bytes : ByteArray} {maxL : Nat} {ret : Option FieldType} {hh : List (Nat × Nat × Nat × Nat)}
    (hown : s.vm.findClass own = some m.cls) (hlink : (Cond.methodLink own index y).before args s = true) (hinst : (Cond.instanceMethod y).before args s = true) (hsel : (Cond.selects C y y).before args s = true)
    (hcode : (Cond.codeWith y bytes maxL ret hh).before args s = true) (hy : y.cls ≠ "java/lang/invoke/MethodHandle" ∧ y.cls ≠ "java/lang/invoke/VarHandle")
    {W9 : Nat} {Pre : Pt → Array Value → Prop} {Post : Pt → Array Value → Option Value → Pt → Prop} (hK : Back l R p e below s args y 3 W9 Pre Post)
    {b : Addr} {cellB : Cell} (hcell : T.heap[b]? = some cellB) (hobj : cellB.vm.isStatics = false) (hcls : s.vm.findClass C = some cellB.cls)
    {g : JFrame} (hg : g.method = m) (hsize : g.locals.size = c.maxLocals) {argsL rest : List Value} (hlen : ∀ sig, parseMethodDescriptor y.desc = some sig → argsL.length = sig.parameters.length)
    (hstack : g.stack = argsL.reverse ++ .ref b :: rest) (hW : 2 * g.monitorRoom + (rest.map fun v => v.category).sum ≤ W9) (hdg : decode c.code g.pc = .ok (.invokevirtual index, 3))
    (hpre : ∀ vm₁, s.WarmedH vm₁ → Pre ⟨T.setVm vm₁, locs, cells, slots⟩ (Value.ref b :: argsL).toArray) :
    ∃ (v : Option Value) (vm₁ : Vm) (B : Pt), s.WarmedH vm₁ ∧ Stand p l e R s m args below meth c B.U B.locs B.cells B.slots ∧ Post ⟨T.setVm vm₁, locs, cells, slots⟩ (Value.ref b :: argsL).toArray v B ∧
      ∀ target, Steps p.tables e below (B.U.setTop { g with pc := g.pc + 3, stack := v.toList ++ rest }) target → Steps p.tables e below (T.setTop g) target := by
  obtain ⟨mk, methM, hnamed, hmethM, hstM, habM⟩ := Cond.instanceMethod_spec hinst
  obtain ⟨m8, methM', cM, hn8, hmethM', -, -, -, -, -, -, hsigM⟩ := Cond.codeWith_spec hcode
  cases Option.some.inj (hn8.symm.trans hnamed)
  cases hmethM.symm.trans hmethM'
  obtain ⟨c2, r2, m2, q1, q2, q3, q4, kP, hkP, hkPi⟩ := Cond.selects_spec hsel
  cases hcls.symm.trans q1
  cases (State.methodFound?_of_named hnamed hy).symm.trans q2
  cases hnamed.symm.trans q3
  have hselP : selectMethod e.platform s.vm cellB.cls mk = .method mk := by rw [Launch.admits_selectMethod X.admits]; exact q4
  obtain ⟨vm₁, X₁, hstep₁⟩ := X.invokevirtual hexec hown hlink hnamed hmethM hstM hkP hkPi hy (a := b) (cell := cellB) hcell
    (fun z h => by rw [h] at hobj; cases hobj) hselP hmethM habM hkP hkPi (g := g) hg (argsL := argsL) (rest := rest) (hlen _ hsigM) hstack hdg
  obtain ⟨v, B, X', hpost, hsteps⟩ := hK m meth c ⟨T.setVm vm₁, locs, cells, slots⟩ { g with stack := rest } (.invokevirtual index) mk (Value.ref b :: argsL).toArray X₁ hg hsize hdg hW (X₁.named hnamed) (hpre vm₁ X₁.warmed)
  exact ⟨v, vm₁, B, X₁.warmed, X', hpost, fun target h => hstep₁ _ fun acts => by rw [doInvoke_state]; exact hsteps.trans h⟩
abbrev vx_CVW (R : Room) (s : State) (args : Array Value) (own C : String) (index : Nat) (y : MethodName) (bytes : ByteArray) (maxL : Nat) (ret : Option FieldType) (hh : List (Nat × Nat × Nat × Nat)) (ws : List Cond) (rm : Room) (mc ms n : Nat) : Prop :=
  (rm.cells = mc ∧ rm.slots = ms ∧ rm.frames + 1 ≤ R.frames ∧ 8 + (maxL + 11) + rm.locals ≤ R.locals ∧ (∀ w ∈ ws, ∀ (a' : Array Value) (U : State), s.WarmedH U.vm → w.before a' U = true) ∧ Cond.codeWith y bytes maxL ret hh ∈ ws) ∧
  (Cond.codeWith y bytes maxL ret hh).before args s = true ∧ (Cond.initialized y.cls).before args s = true ∧ (y.cls ≠ "java/lang/invoke/MethodHandle" ∧ y.cls ≠ "java/lang/invoke/VarHandle") ∧
  (∀ sig, parseMethodDescriptor y.desc = some sig → n = sig.parameters.length) ∧ (Cond.methodLink own index y).before args s = true ∧ (Cond.instanceMethod y).before args s = true ∧ (Cond.selects C y y).before args s = true
theorem vx_cwVW {own C : String} {index maxL mc ms : Nat} {y : MethodName} {bytes : ByteArray} {ret : Option FieldType} {hh : List (Nat × Nat × Nat × Nat)} {Ts ws ws' : List Cond} {rm : Room} (n : Nat) (ht : ∀ w ∈ Ts, w.before args s = true) (hT : GoodIn Ts (wsV own index C y ws)) (hw : ws = Cond.codeWith y bytes maxL ret hh :: ws') (hrc : rm.cells = mc) (hrs : rm.slots = ms)
    (hd : y.cls = C ∧ y.cls ≠ "java/lang/invoke/MethodHandle" ∧ y.cls ≠ "java/lang/invoke/VarHandle" ∧ (parseMethodDescriptor y.desc).map (fun d => d.parameters.length) = some n) (hR : rm.frames + 1 ≤ R.frames ∧ 8 + (maxL + 11) + rm.locals ≤ R.locals) :
    vx_CVW R s args own C index y bytes maxL ret hh ws rm mc ms n := by
  obtain ⟨hC, hd⟩ := hd
  subst hC
  have ok : ∀ w ∈ wsV own index y.cls y ws, w.before args s = true := fun w h => ht w (hT w h).1
  have hG : GoodIn Ts ws := fun w h => hT w (by unfold wsV; exact List.mem_append_right _ h)
  have hc : Cond.codeWith y bytes maxL ret hh ∈ ws := by rw [hw]; exact List.mem_cons_self
  refine ⟨⟨hrc, hrs, hR.1, hR.2, pay_in ht hG, hc⟩, ht _ (hG _ hc).1, ok _ (by simp [wsV]), ⟨hd.1, hd.2.1⟩, fun sig h => ?_, ok _ (by simp [wsV]), ok _ (by simp [wsV]), ok _ (by simp [wsV])⟩
  have h2 := hd.2.2
  rw [h] at h2
  exact (Option.some.inj h2).symm
theorem vx_runVW {y : MethodName} {bytes cc : ByteArray} {maxL nL mc ms n index : Nat} {ret : Option FieldType} {hh : List (Nat × Nat × Nat × Nat)} {ws : List Cond} {rm : Room} {Pc : Array Value → State → Prop} {Qc : Array Value → State → Outcome → State → Prop} {free : Addr → Prop} {Ts : List Cond} {own C : String} {b : Addr} {As rest : List Value} {g : JFrame}
    (S : CallFix p m c cc nL s args Ts own) (hM : Met l y ws rm Pc Qc mc ms free) (cw : vx_CVW R s args own C index y bytes maxL ret hh ws rm mc ms n) (hp : PreV s H C b Pc As)
    (hg : g.method = m) (hn : As.length = n) (hsize : g.locals.size = nL) (hstack : g.stack = As.reverse ++ .ref b :: rest) (hW : 2 * g.monitorRoom + (rest.map fun v => v.category).sum ≤ 8) (hdg : decode cc g.pc = .ok (.invokevirtual index, 3)) (hf : cells + mc ≤ R.cells ∧ slots + ms ≤ R.slots) :
    va_Run p l e R s m args below meth c H locs cells slots mc ms g rest (Qc (Value.ref b :: As).toArray) free := by
  obtain ⟨⟨hrc, hrs, hfr, hlo, hws, hcw⟩, hcode, hini, hy, hlen, hl, hin, hse⟩ := cw
  have hK : Back l R p e below s args y 3 8 (PreOf R mc ms Pc) (PostOf Qc mc ms free) := va_backW (hh := hh) (bytes := bytes) (maxL := maxL) (ret := ret) hM hp.1 hrc hrs hfr hlo hws hcw (fun a' U hW => word_at hW (Or.inl (by first | rfl | simp [Cond.onTables, Cond.keeps, Cond.steady])) hini)
  obtain ⟨hx, hb, hml, ho, -⟩ := S
  obtain ⟨-, ⟨cellB, hcB, hoB, hclB⟩, hPc⟩ := hp
  intro T hT X
  obtain ⟨v, vm₁, ⟨U', l2, c2, s2⟩, hW₁, X', ⟨g', mk, t, L, e1, e2, hq, h1, hL, h2, h3⟩, st⟩ := vx_callVW X hx (C := C) (hh := hh) (bytes := bytes) (maxL := maxL) (ret := ret) ho hl hin hse hcode hy hK (by rw [hT]; exact hcB) hoB hclB hg (hsize.trans hml.symm) (argsL := As) (rest := rest) (fun sig h => hn.trans (hlen sig h)) hstack hW (by rw [hb]; exact hdg)
    (fun vm₁ hW₁ => ⟨hf.1, hf.2, hPc (T.setVm vm₁) hT hW₁⟩)
  dsimp only [Pt.U, Pt.locs, Pt.cells, Pt.slots] at X' e1 e2 h1 h2 h3 st
  subst h1; subst h2; subst h3
  exact ⟨v, (T.setVm vm₁).calling g' mk (Value.ref b :: As).toArray, t, U', L, hT, X', hL, e1, e2, hq, st⟩
section
variable {y : MethodName} {bytes cc : ByteArray} {maxL nL mc ms n index : Nat} {ret : Option FieldType} {ws : List Cond} {rm : Room} {Pc : Array Value → State → Prop} {Qc : Array Value → State → Outcome → State → Prop} {XC : String → State → State → Prop} {free : Addr → Prop} {Ts : List Cond} {own C : String} {b : Addr} {As rest : List Value} {g : JFrame}
theorem vx_runVX {hh : List (Nat × Nat × Nat × Nat)} (S : CallFix p m c cc nL s args Ts own) (hM : vx_Met l y ws rm Pc Qc XC mc ms free) (cw : vx_CVW R s args own C index y bytes maxL ret hh ws rm mc ms n) (hp : PreV s H C b Pc As)
    (hg : g.method = m) (hn : As.length = n) (hsize : g.locals.size = nL) (hstack : g.stack = As.reverse ++ .ref b :: rest) (hW : 2 * g.monitorRoom + (rest.map fun v => v.category).sum ≤ 8) (hdg : decode cc g.pc = .ok (.invokevirtual index, 3)) (hf : cells + mc ≤ R.cells ∧ slots + ms ≤ R.slots) :
    vx_Run p l e R s m args below meth c H locs cells slots mc ms g rest (Qc (Value.ref b :: As).toArray) XC free := by
  obtain ⟨⟨hrc, hrs, hfr, hlo, hws, hcw⟩, hcode, hini, hy, hlen, hl, hin, hse⟩ := cw
  have hK : vx_Back l R p e below s args y 3 8 (PreOf R mc ms Pc) (PostOf Qc mc ms free) (vx_Post XC mc ms free) := vx_backW (hh := hh) (bytes := bytes) (maxL := maxL) (ret := ret) hM hp.1 hrc hrs hfr hlo hws hcw (fun a' U hW => word_at hW (Or.inl (by first | rfl | simp [Cond.onTables, Cond.keeps, Cond.steady])) hini)
  obtain ⟨hx, hb, hml, ho, -⟩ := S
  obtain ⟨-, ⟨cellB, hcB, hoB, hclB⟩, hPc⟩ := hp
  intro T hT X
  rcases vx_callVX X hx (C := C) (hh := hh) (bytes := bytes) (maxL := maxL) (ret := ret) ho hl hin hse hcode hy hK (by rw [hT]; exact hcB) hoB hclB hg (hsize.trans hml.symm) (argsL := As) (rest := rest) (fun sig h => hn.trans (hlen sig h)) hstack hW (by rw [hb]; exact hdg)
    (fun vm₁ hW₁ => ⟨hf.1, hf.2, hPc (T.setVm vm₁) hT hW₁⟩) with ⟨v, vm₁, ⟨U', l2, c2, s2⟩, hW₁, X', ⟨g', mk, t, L, e1, e2, hq, h1, hL, h2, h3⟩, st⟩ | ⟨q, vm₁, ⟨U', l2, c2, s2⟩, hW₁, X', ⟨g', mk, t, L, E, ce, e1, e2, hq, hce, hcv, hcl, h1, hL, h2, h3⟩, st⟩
  · dsimp only [Pt.U, Pt.locs, Pt.cells, Pt.slots] at X' e1 e2 h1 h2 h3 st
    subst h1; subst h2; subst h3
    exact Or.inl ⟨v, (T.setVm vm₁).calling g' mk (Value.ref b :: As).toArray, t, U', L, hT, X', hL, e1, e2, hq, st⟩
  · dsimp only [Pt.U, Pt.locs, Pt.cells, Pt.slots] at X' e1 e2 h1 h2 h3 st hcl
    subst h1; subst h2; subst h3
    exact Or.inr ⟨q, (T.setVm vm₁).calling g' mk (Value.ref b :: As).toArray, t, U', L, E, ce, hT, X', hL, e1, e2, hq, hce, hcv, vx_cls hW₁ hcl, st⟩
theorem vx_runSX {hh : List (Nat × Nat × Nat × Nat)} (S : CallFix p m c cc nL s args Ts own) (hM : vx_Met l y ws rm Pc Qc XC mc ms free) (cw : vx_CSW R s args own index y bytes maxL ret hh ws rm mc ms n) (hp : PreS s H Pc As)
    (hg : g.method = m) (hn : As.length = n) (hsize : g.locals.size = nL) (hstack : g.stack = As.reverse ++ rest) (hW : 2 * g.monitorRoom + (rest.map fun v => v.category).sum ≤ 8) (hdg : decode cc g.pc = .ok (.invokestatic index, 3)) (hf : cells + mc ≤ R.cells ∧ slots + ms ≤ R.slots) :
    vx_Run p l e R s m args below meth c H locs cells slots mc ms g rest (Qc As.toArray) XC free := by
  obtain ⟨⟨hrc, hrs, hfr, hlo, hws, hcw⟩, hcode, hini, hy, hlen, hl, hstt⟩ := cw
  have hK : vx_Back l R p e below s args y 3 8 (PreOf R mc ms Pc) (PostOf Qc mc ms free) (vx_Post XC mc ms free) := vx_backW (hh := hh) (bytes := bytes) (maxL := maxL) (ret := ret) hM hp.1 hrc hrs hfr hlo hws hcw (fun a' U hW => word_at hW (Or.inl (by first | rfl | simp [Cond.onTables, Cond.keeps, Cond.steady])) hini)
  obtain ⟨hx, hb, hml, ho, -⟩ := S
  intro T hT X
  rcases vx_callSX X hx (hh := hh) (bytes := bytes) (maxL := maxL) (ret := ret) ho hl hstt hini hcode hy hK hg (hsize.trans hml.symm) (argsL := As) (rest := rest) (fun sig h => hn.trans (hlen sig h)) hstack hW (by rw [hb]; exact hdg)
    (fun vm₁ hW₁ => ⟨hf.1, hf.2, hp.2 (T.setVm vm₁) hT hW₁⟩) with ⟨v, vm₁, ⟨U', l2, c2, s2⟩, hW₁, X', ⟨g', mk, t, L, e1, e2, hq, h1, hL, h2, h3⟩, st⟩ | ⟨q, vm₁, ⟨U', l2, c2, s2⟩, hW₁, X', ⟨g', mk, t, L, E, ce, e1, e2, hq, hce, hcv, hcl, h1, hL, h2, h3⟩, st⟩
  · dsimp only [Pt.U, Pt.locs, Pt.cells, Pt.slots] at X' e1 e2 h1 h2 h3 st
    subst h1; subst h2; subst h3
    exact Or.inl ⟨v, (T.setVm vm₁).calling g' mk As.toArray, t, U', L, hT, X', hL, e1, e2, hq, st⟩
  · dsimp only [Pt.U, Pt.locs, Pt.cells, Pt.slots] at X' e1 e2 h1 h2 h3 st hcl
    subst h1; subst h2; subst h3
    exact Or.inr ⟨q, (T.setVm vm₁).calling g' mk As.toArray, t, U', L, E, ce, hT, X', hL, e1, e2, hq, hce, hcv, vx_cls hW₁ hcl, st⟩
end
end VXH
theorem vx_ofWH {l : Launch} {y : MethodName} {ws ws' : List Cond} {rm : Room} {Pc : Array Value → State → Prop} {Qc : Array Value → State → Outcome → State → Prop} {XC : String → State → State → Prop} {mc ms : Nat} {free : Addr → Prop} {cc : ByteArray} {maxL : Nat} {ret : Option FieldType} {hh : List (Nat × Nat × Nat × Nat)}
    (hy : plainName y.cls = true) (hw : ws = Cond.codeWith y cc maxL ret hh :: ws')
    (body : ∀ p e s m args below meth c s₁, BodyLoose p l y (headSpec ws rm) cc maxL ret e s m args below meth c s₁ → c.maxLocals = maxL → Pc args s →
      W p l e (headSpec ws rm).room s m args below meth c s.heap [] 0 0 (vx_MQ below Qc XC args s mc ms free) (entryFrame m args maxL)) : vx_Met l y ws rm Pc Qc XC mc ms free := by
  refine MetFree.of_bodyS (code := cc) (maxLocals := maxL) (ret := ret) hy ?_ ?_
  · intro args s m h hn
    obtain ⟨m9, meth, c, hn9, h1, h2, h3, h4, -, h5, h6, -⟩ := Cond.codeWith_spec (atoms_spec (ws := ws) h _ (by rw [hw]; exact List.mem_cons_self))
    cases hn.symm.trans hn9
    exact ⟨meth, c, h1, h2, h3, h4, h5, h6⟩
  · intro p e s m args below meth c s₁ B hml hP _
    have hh0 : s₁.heap = s.heap := by rw [B.state]; rfl
    obtain ⟨t, a1, o, b1, b2, b3⟩ := body p e s m args below meth c s₁ B hml hP s₁ hh0 (Stand.of_body B)
    exact ⟨t, o, a1, b1, b2, b3⟩
/-! ===== END ===== -/
end
section
/-! ===== BEGIN printed: names, fields, word lists, decode rows ===== -/
def RX0 : String := "LeftThings$Tag"
def TX0 : u_T := fun k => match k with
  | 0 => ("LeftThings$Tag", "place", "I", true)
  | 1 => ("LeftThings$Tag", "fromDay", "I", true)
  | _ => ("LeftThings$Tag", "before", "LLeftThings$Tag;", true)
def tyX0 : Nat → FieldType := fun k => match k with
  | 0 => .int
  | 1 => .int
  | _ => .object "LeftThings$Tag"
abbrev wsX00 : List Cond := u_ws RX0 TX0 3
theorem nmX0 : ∀ a, a < 3 → ∀ b, b < 3 → a ≠ b → (TX0 a).2.1 ≠ (TX0 b).2.1 := by decide +kernel
theorem tyX0_ok : ∀ k, k < 3 → parseFieldDescriptor (TX0 k).2.2.1 = some (tyX0 k) := by decide +kernel
abbrev cX0_init : ByteArray := prog_2_method_1_code
def yX0_init : MethodName := ⟨RX0, "<init>", "(IILLeftThings$Tag;)V"⟩
def RX1 : String := "LeftThings$Thing"
def TX1 : u_T := fun k => match k with
  | 0 => ("LeftThings$Thing", "number", "I", true)
  | 1 => ("LeftThings$Thing", "owner", "I", true)
  | 2 => ("LeftThings$Thing", "size", "I", true)
  | 3 => ("LeftThings$Thing", "leftOn", "I", true)
  | 4 => ("LeftThings$Thing", "worth", "I", false)
  | 5 => ("LeftThings$Thing", "place", "I", false)
  | 6 => ("LeftThings$Thing", "newestTag", "LLeftThings$Tag;", false)
  | 7 => ("LeftThings$Thing", "wantedAt", "I", false)
  | 8 => ("LeftThings$Thing", "feeSum", "I", false)
  | 9 => ("LeftThings$Thing", "loanSum", "I", false)
  | 10 => ("LeftThings$Thing", "lender", "I", false)
  | _ => ("LeftThings$Thing", "repayBy", "I", false)
def tyX1 : Nat → FieldType := fun k => match k with
  | 0 => .int
  | 1 => .int
  | 2 => .int
  | 3 => .int
  | 4 => .int
  | 5 => .int
  | 6 => .object "LeftThings$Tag"
  | 7 => .int
  | 8 => .int
  | 9 => .int
  | 10 => .int
  | _ => .int
abbrev wsX10 : List Cond := u_ws RX1 TX1 12
theorem nmX1 : ∀ a, a < 12 → ∀ b, b < 12 → a ≠ b → (TX1 a).2.1 ≠ (TX1 b).2.1 := by decide +kernel
theorem tyX1_ok : ∀ k, k < 12 → parseFieldDescriptor (TX1 k).2.2.1 = some (tyX1 k) := by decide +kernel
abbrev cX1_init : ByteArray := prog_3_method_1_code
def yX1_init : MethodName := ⟨RX1, "<init>", "(IIIII)V"⟩
abbrev cX1_isAtCounter : ByteArray := prog_3_method_2_code
def yX1_isAtCounter : MethodName := ⟨RX1, "isAtCounter", "()Z"⟩
abbrev cX1_hasLoan : ByteArray := prog_3_method_3_code
def yX1_hasLoan : MethodName := ⟨RX1, "hasLoan", "()Z"⟩
abbrev cX1_isCalled : ByteArray := prog_3_method_4_code
def yX1_isCalled : MethodName := ⟨RX1, "isCalled", "()Z"⟩
abbrev cX1_beginLoan : ByteArray := prog_3_method_5_code
def yX1_beginLoan : MethodName := ⟨RX1, "beginLoan", "(II)V"⟩
abbrev cX1_endLoan : ByteArray := prog_3_method_6_code
def yX1_endLoan : MethodName := ⟨RX1, "endLoan", "()V"⟩
abbrev cX1_moveTo : ByteArray := prog_3_method_7_code
def yX1_moveTo : MethodName := ⟨RX1, "moveTo", "(II)V"⟩
abbrev cX1_placeAtBeginningOf : ByteArray := prog_3_method_8_code
def yX1_placeAtBeginningOf : MethodName := ⟨RX1, "placeAtBeginningOf", "(I)I"⟩
def RX2 : String := "LeftThings"
def TX2 : u_T := fun k => match k with
  | 0 => ("LeftThings", "rooms", "[I", true)
  | 1 => ("LeftThings", "purses", "[I", true)
  | 2 => ("LeftThings", "leftThings", "Ljava/util/ArrayList;", true)
  | 3 => ("LeftThings", "wishes", "Ljava/util/ArrayList;", true)
  | 4 => ("LeftThings", "vanRoom", "I", false)
  | 5 => ("LeftThings", "today", "I", false)
  | _ => ("LeftThings", "takenFees", "I", false)
def tyX2 : Nat → FieldType := fun k => match k with
  | 0 => .array .int
  | 1 => .array .int
  | 2 => .object "java/util/ArrayList"
  | 3 => .object "java/util/ArrayList"
  | 4 => .int
  | 5 => .int
  | _ => .int
abbrev wsX20 : List Cond := u_ws RX2 TX2 7
theorem nmX2 : ∀ a, a < 7 → ∀ b, b < 7 → a ≠ b → (TX2 a).2.1 ≠ (TX2 b).2.1 := by decide +kernel
theorem tyX2_ok : ∀ k, k < 7 → parseFieldDescriptor (TX2 k).2.2.1 = some (tyX2 k) := by decide +kernel
abbrev cX2_init : ByteArray := prog_1_method_1_code
def yX2_init : MethodName := ⟨RX2, "<init>", "()V"⟩
abbrev cX2_leave : ByteArray := prog_1_method_4_code
def yX2_leave : MethodName := ⟨RX2, "leave", "(III)I"⟩
abbrev cX2_fetch : ByteArray := prog_1_method_5_code
def yX2_fetch : MethodName := ⟨RX2, "fetch", "(I)I"⟩
abbrev cX2_want : ByteArray := prog_1_method_6_code
def yX2_want : MethodName := ⟨RX2, "want", "(II)I"⟩
abbrev cX2_value : ByteArray := prog_1_method_7_code
def yX2_value : MethodName := ⟨RX2, "value", "(II)I"⟩
abbrev cX2_lend : ByteArray := prog_1_method_8_code
def yX2_lend : MethodName := ⟨RX2, "lend", "(III)V"⟩
abbrev cX2_repay : ByteArray := prog_1_method_9_code
def yX2_repay : MethodName := ⟨RX2, "repay", "(I)I"⟩
abbrev cX2_doubt : ByteArray := prog_1_method_10_code
def yX2_doubt : MethodName := ⟨RX2, "doubt", "(I)I"⟩
abbrev cX2_pass : ByteArray := prog_1_method_11_code
def yX2_pass : MethodName := ⟨RX2, "pass", "(I)I"⟩
abbrev cX2_day : ByteArray := prog_1_method_12_code
def yX2_day : MethodName := ⟨RX2, "day", "()I"⟩
abbrev cX2_things : ByteArray := prog_1_method_13_code
def yX2_things : MethodName := ⟨RX2, "things", "()I"⟩
abbrev cX2_where : ByteArray := prog_1_method_14_code
def yX2_where : MethodName := ⟨RX2, "where", "(I)I"⟩
abbrev cX2_whereOn : ByteArray := prog_1_method_15_code
def yX2_whereOn : MethodName := ⟨RX2, "whereOn", "(II)I"⟩
abbrev cX2_load : ByteArray := prog_1_method_16_code
def yX2_load : MethodName := ⟨RX2, "load", "(I)I"⟩
abbrev cX2_fees : ByteArray := prog_1_method_17_code
def yX2_fees : MethodName := ⟨RX2, "fees", "(I)I"⟩
abbrev cX2_loan : ByteArray := prog_1_method_18_code
def yX2_loan : MethodName := ⟨RX2, "loan", "(I)I"⟩
abbrev cX2_purse : ByteArray := prog_1_method_19_code
def yX2_purse : MethodName := ⟨RX2, "purse", "(I)I"⟩
abbrev cX2_taken : ByteArray := prog_1_method_20_code
def yX2_taken : MethodName := ⟨RX2, "taken", "()I"⟩
abbrev cX2_isCounter : ByteArray := prog_1_method_22_code
def yX2_isCounter : MethodName := ⟨RX2, "isCounter", "(I)Z"⟩
abbrev cX2_isPerson : ByteArray := prog_1_method_23_code
def yX2_isPerson : MethodName := ⟨RX2, "isPerson", "(I)Z"⟩
abbrev cX2_thingNumbered : ByteArray := prog_1_method_25_code
def yX2_thingNumbered : MethodName := ⟨RX2, "thingNumbered", "(I)LLeftThings$Thing;"⟩
abbrev cX2_sizesAt : ByteArray := prog_1_method_26_code
def yX2_sizesAt : MethodName := ⟨RX2, "sizesAt", "(I)I"⟩
abbrev cX2_hasRoomFor : ByteArray := prog_1_method_27_code
def yX2_hasRoomFor : MethodName := ⟨RX2, "hasRoomFor", "(II)Z"⟩
abbrev cX2_putIntoPurse : ByteArray := prog_1_method_28_code
def yX2_putIntoPurse : MethodName := ⟨RX2, "putIntoPurse", "(II)V"⟩
abbrev cX2_dropEndedWishes : ByteArray := prog_1_method_29_code
def yX2_dropEndedWishes : MethodName := ⟨RX2, "dropEndedWishes", "()V"⟩
abbrev cX2_giveAway : ByteArray := prog_1_method_30_code
def yX2_giveAway : MethodName := ⟨RX2, "giveAway", "(LLeftThings$Thing;II)V"⟩
abbrev cX2_sell : ByteArray := prog_1_method_31_code
def yX2_sell : MethodName := ⟨RX2, "sell", "(LLeftThings$Thing;)V"⟩
abbrev cX2_endDay : ByteArray := prog_1_method_32_code
def yX2_endDay : MethodName := ⟨RX2, "endDay", "()I"⟩
abbrev cX2_oweFees : ByteArray := prog_1_method_33_code
def yX2_oweFees : MethodName := ⟨RX2, "oweFees", "()V"⟩
abbrev cX2_sellCalled : ByteArray := prog_1_method_34_code
def yX2_sellCalled : MethodName := ⟨RX2, "sellCalled", "()I"⟩
abbrev cX2_sellUnfetched : ByteArray := prog_1_method_35_code
def yX2_sellUnfetched : MethodName := ⟨RX2, "sellUnfetched", "()I"⟩
abbrev cX2_driveVan : ByteArray := prog_1_method_36_code
def yX2_driveVan : MethodName := ⟨RX2, "driveVan", "()V"⟩
def RX3 : String := "LeftThingsModel"
def TX3 : u_T := fun k => match k with
  | _ => ("", "", "", false)
def tyX3 : Nat → FieldType := fun k => match k with
  | _ => .int
abbrev wsX30 : List Cond := u_ws RX3 TX3 0
theorem nmX3 : ∀ a, a < 0 → ∀ b, b < 0 → a ≠ b → (TX3 a).2.1 ≠ (TX3 b).2.1 := by decide +kernel
theorem tyX3_ok : ∀ k, k < 0 → parseFieldDescriptor (TX3 k).2.2.1 = some (tyX3 k) := by decide +kernel
def RJx145de : String := "java/io/Serializable"
def TJx145de : u_T := fun k => match k with
  | _ => ("", "", "", false)
def tyJx145de : Nat → FieldType := fun k => match k with
  | _ => .int
abbrev wsJx145de0 : List Cond := u_ws RJx145de TJx145de 0
theorem nmJx145de : ∀ a, a < 0 → ∀ b, b < 0 → a ≠ b → (TJx145de a).2.1 ≠ (TJx145de b).2.1 := by decide +kernel
theorem tyJx145de_ok : ∀ k, k < 0 → parseFieldDescriptor (TJx145de k).2.2.1 = some (tyJx145de k) := by decide +kernel
def RJx8e188 : String := "java/lang/Cloneable"
def TJx8e188 : u_T := fun k => match k with
  | _ => ("", "", "", false)
def tyJx8e188 : Nat → FieldType := fun k => match k with
  | _ => .int
abbrev wsJx8e1880 : List Cond := u_ws RJx8e188 TJx8e188 0
theorem nmJx8e188 : ∀ a, a < 0 → ∀ b, b < 0 → a ≠ b → (TJx8e188 a).2.1 ≠ (TJx8e188 b).2.1 := by decide +kernel
theorem tyJx8e188_ok : ∀ k, k < 0 → parseFieldDescriptor (TJx8e188 k).2.2.1 = some (tyJx8e188 k) := by decide +kernel
def RJxab1ab : String := "java/lang/Iterable"
def TJxab1ab : u_T := fun k => match k with
  | _ => ("", "", "", false)
def tyJxab1ab : Nat → FieldType := fun k => match k with
  | _ => .int
abbrev wsJxab1ab0 : List Cond := u_ws RJxab1ab TJxab1ab 0
theorem nmJxab1ab : ∀ a, a < 0 → ∀ b, b < 0 → a ≠ b → (TJxab1ab a).2.1 ≠ (TJxab1ab b).2.1 := by decide +kernel
theorem tyJxab1ab_ok : ∀ k, k < 0 → parseFieldDescriptor (TJxab1ab k).2.2.1 = some (tyJxab1ab k) := by decide +kernel
def RJ9 : String := "java/lang/Math"
def TJ9 : u_T := fun k => match k with
  | _ => ("", "", "", false)
def tyJ9 : Nat → FieldType := fun k => match k with
  | _ => .int
abbrev wsJ90 : List Cond := u_ws RJ9 TJ9 0
theorem nmJ9 : ∀ a, a < 0 → ∀ b, b < 0 → a ≠ b → (TJ9 a).2.1 ≠ (TJ9 b).2.1 := by decide +kernel
theorem tyJ9_ok : ∀ k, k < 0 → parseFieldDescriptor (TJ9 k).2.2.1 = some (tyJ9 k) := by decide +kernel
abbrev cJ9_max_7cf53 : ByteArray := prog_13_method_65_code
def yJ9_max_7cf53 : MethodName := ⟨RJ9, "max", "(II)I"⟩
abbrev cJ9_min_7cf53 : ByteArray := prog_13_method_69_code
def yJ9_min_7cf53 : MethodName := ⟨RJ9, "min", "(II)I"⟩
def RJ0 : String := "java/lang/String"
def TJ0 : u_T := fun k => match k with
  | _ => ("", "", "", false)
def tyJ0 : Nat → FieldType := fun k => match k with
  | _ => .int
abbrev wsJ00 : List Cond := u_ws RJ0 TJ0 0
theorem nmJ0 : ∀ a, a < 0 → ∀ b, b < 0 → a ≠ b → (TJ0 a).2.1 ≠ (TJ0 b).2.1 := by decide +kernel
theorem tyJ0_ok : ∀ k, k < 0 → parseFieldDescriptor (TJ0 k).2.2.1 = some (tyJ0 k) := by decide +kernel
def RJ10 : String := "java/lang/System"
def TJ10 : u_T := fun k => match k with
  | _ => ("", "", "", false)
def tyJ10 : Nat → FieldType := fun k => match k with
  | _ => .int
abbrev wsJ100 : List Cond := u_ws RJ10 TJ10 0
theorem nmJ10 : ∀ a, a < 0 → ∀ b, b < 0 → a ≠ b → (TJ10 a).2.1 ≠ (TJ10 b).2.1 := by decide +kernel
theorem tyJ10_ok : ∀ k, k < 0 → parseFieldDescriptor (TJ10 k).2.2.1 = some (tyJ10 k) := by decide +kernel
def RJxa1e45 : String := "java/util/AbstractCollection"
def TJxa1e45 : u_T := fun k => match k with
  | _ => ("", "", "", false)
def tyJxa1e45 : Nat → FieldType := fun k => match k with
  | _ => .int
abbrev wsJxa1e450 : List Cond := u_ws RJxa1e45 TJxa1e45 0
theorem nmJxa1e45 : ∀ a, a < 0 → ∀ b, b < 0 → a ≠ b → (TJxa1e45 a).2.1 ≠ (TJxa1e45 b).2.1 := by decide +kernel
theorem tyJxa1e45_ok : ∀ k, k < 0 → parseFieldDescriptor (TJxa1e45 k).2.2.1 = some (tyJxa1e45 k) := by decide +kernel
abbrev cJxa1e45_init_da8c8 : ByteArray := prog_18_method_1_code
def yJxa1e45_init_da8c8 : MethodName := ⟨RJxa1e45, "<init>", "()V"⟩
def RJxc12de : String := "java/util/AbstractList"
def TJxc12de : u_T := fun k => match k with
  | _ => ("", "", "", false)
def tyJxc12de : Nat → FieldType := fun k => match k with
  | _ => .int
abbrev wsJxc12de0 : List Cond := u_ws RJxc12de TJxc12de 0
theorem nmJxc12de : ∀ a, a < 0 → ∀ b, b < 0 → a ≠ b → (TJxc12de a).2.1 ≠ (TJxc12de b).2.1 := by decide +kernel
theorem tyJxc12de_ok : ∀ k, k < 0 → parseFieldDescriptor (TJxc12de k).2.2.1 = some (tyJxc12de k) := by decide +kernel
abbrev cJxc12de_init_da8c8 : ByteArray := prog_19_method_1_code
def yJxc12de_init_da8c8 : MethodName := ⟨RJxc12de, "<init>", "()V"⟩
def RJx4a65c : String := "java/util/ArrayList"
def TJx4a65c : u_T := fun k => match k with
  | 0 => ("java/util/AbstractList", "modCount", "I", false)
  | 1 => ("java/util/ArrayList", "elementData", "[Ljava/lang/Object;", false)
  | _ => ("java/util/ArrayList", "size", "I", false)
def tyJx4a65c : Nat → FieldType := fun k => match k with
  | 0 => .int
  | 1 => .array (.object "java/lang/Object")
  | _ => .int
abbrev wsJx4a65c0 : List Cond := u_ws RJx4a65c TJx4a65c 3
theorem nmJx4a65c : ∀ a, a < 3 → ∀ b, b < 3 → a ≠ b → (TJx4a65c a).2.1 ≠ (TJx4a65c b).2.1 := by decide +kernel
theorem tyJx4a65c_ok : ∀ k, k < 3 → parseFieldDescriptor (TJx4a65c k).2.2.1 = some (tyJx4a65c k) := by decide +kernel
abbrev cJx4a65c_init_da8c8 : ByteArray := prog_20_method_2_code
def yJx4a65c_init_da8c8 : MethodName := ⟨RJx4a65c, "<init>", "()V"⟩
abbrev cJx4a65c_grow_92f84 : ByteArray := prog_20_method_6_code
def yJx4a65c_grow_92f84 : MethodName := ⟨RJx4a65c, "grow", "(I)[Ljava/lang/Object;"⟩
abbrev cJx4a65c_grow_d5877 : ByteArray := prog_20_method_7_code
def yJx4a65c_grow_d5877 : MethodName := ⟨RJx4a65c, "grow", "()[Ljava/lang/Object;"⟩
abbrev cJx4a65c_size_8abf5 : ByteArray := prog_20_method_8_code
def yJx4a65c_size_8abf5 : MethodName := ⟨RJx4a65c, "size", "()I"⟩
abbrev cJx4a65c_elementData_915e3 : ByteArray := prog_20_method_18_code
def yJx4a65c_elementData_915e3 : MethodName := ⟨RJx4a65c, "elementData", "(I)Ljava/lang/Object;"⟩
abbrev cJx4a65c_get_915e3 : ByteArray := prog_20_method_20_code
def yJx4a65c_get_915e3 : MethodName := ⟨RJx4a65c, "get", "(I)Ljava/lang/Object;"⟩
abbrev cJx4a65c_add_72be8 : ByteArray := prog_20_method_24_code
def yJx4a65c_add_72be8 : MethodName := ⟨RJx4a65c, "add", "(Ljava/lang/Object;[Ljava/lang/Object;I)V"⟩
abbrev cJx4a65c_add_9ea2d : ByteArray := prog_20_method_25_code
def yJx4a65c_add_9ea2d : MethodName := ⟨RJx4a65c, "add", "(Ljava/lang/Object;)Z"⟩
abbrev cJx4a65c_remove_915e3 : ByteArray := prog_20_method_29_code
def yJx4a65c_remove_915e3 : MethodName := ⟨RJx4a65c, "remove", "(I)Ljava/lang/Object;"⟩
abbrev cJx4a65c_fastRemove_b59b0 : ByteArray := prog_20_method_39_code
def yJx4a65c_fastRemove_b59b0 : MethodName := ⟨RJx4a65c, "fastRemove", "([Ljava/lang/Object;I)V"⟩
def RJ7 : String := "java/util/Arrays"
def TJ7 : u_T := fun k => match k with
  | _ => ("", "", "", false)
def tyJ7 : Nat → FieldType := fun k => match k with
  | _ => .int
abbrev wsJ70 : List Cond := u_ws RJ7 TJ7 0
theorem nmJ7 : ∀ a, a < 0 → ∀ b, b < 0 → a ≠ b → (TJ7 a).2.1 ≠ (TJ7 b).2.1 := by decide +kernel
theorem tyJ7_ok : ∀ k, k < 0 → parseFieldDescriptor (TJ7 k).2.2.1 = some (tyJ7 k) := by decide +kernel
abbrev cJ7_fill_53178 : ByteArray := prog_21_method_103_code
def yJ7_fill_53178 : MethodName := ⟨RJ7, "fill", "([II)V"⟩
abbrev cJ7_copyOf_1904c : ByteArray := prog_21_method_119_code
def yJ7_copyOf_1904c : MethodName := ⟨RJ7, "copyOf", "([Ljava/lang/Object;I)[Ljava/lang/Object;"⟩
abbrev cJ7_copyOf_6403c : ByteArray := prog_21_method_120_code
def yJ7_copyOf_6403c : MethodName := ⟨RJ7, "copyOf", "([Ljava/lang/Object;ILjava/lang/Class;)[Ljava/lang/Object;"⟩
def RJx5ef63 : String := "java/util/Collection"
def TJx5ef63 : u_T := fun k => match k with
  | _ => ("", "", "", false)
def tyJx5ef63 : Nat → FieldType := fun k => match k with
  | _ => .int
abbrev wsJx5ef630 : List Cond := u_ws RJx5ef63 TJx5ef63 0
theorem nmJx5ef63 : ∀ a, a < 0 → ∀ b, b < 0 → a ≠ b → (TJx5ef63 a).2.1 ≠ (TJx5ef63 b).2.1 := by decide +kernel
theorem tyJx5ef63_ok : ∀ k, k < 0 → parseFieldDescriptor (TJx5ef63 k).2.2.1 = some (tyJx5ef63 k) := by decide +kernel
def RJxbd725 : String := "java/util/List"
def TJxbd725 : u_T := fun k => match k with
  | _ => ("", "", "", false)
def tyJxbd725 : Nat → FieldType := fun k => match k with
  | _ => .int
abbrev wsJxbd7250 : List Cond := u_ws RJxbd725 TJxbd725 0
theorem nmJxbd725 : ∀ a, a < 0 → ∀ b, b < 0 → a ≠ b → (TJxbd725 a).2.1 ≠ (TJxbd725 b).2.1 := by decide +kernel
theorem tyJxbd725_ok : ∀ k, k < 0 → parseFieldDescriptor (TJxbd725 k).2.2.1 = some (tyJxbd725 k) := by decide +kernel
def RJ15 : String := "java/util/Objects"
def TJ15 : u_T := fun k => match k with
  | _ => ("", "", "", false)
def tyJ15 : Nat → FieldType := fun k => match k with
  | _ => .int
abbrev wsJ150 : List Cond := u_ws RJ15 TJ15 0
theorem nmJ15 : ∀ a, a < 0 → ∀ b, b < 0 → a ≠ b → (TJ15 a).2.1 ≠ (TJ15 b).2.1 := by decide +kernel
theorem tyJ15_ok : ∀ k, k < 0 → parseFieldDescriptor (TJ15 k).2.2.1 = some (tyJ15 k) := by decide +kernel
abbrev cJ15_checkIndex_7cf53 : ByteArray := prog_24_method_17_code
def yJ15_checkIndex_7cf53 : MethodName := ⟨RJ15, "checkIndex", "(II)I"⟩
def RJxf0a74 : String := "java/util/RandomAccess"
def TJxf0a74 : u_T := fun k => match k with
  | _ => ("", "", "", false)
def tyJxf0a74 : Nat → FieldType := fun k => match k with
  | _ => .int
abbrev wsJxf0a740 : List Cond := u_ws RJxf0a74 TJxf0a74 0
theorem nmJxf0a74 : ∀ a, a < 0 → ∀ b, b < 0 → a ≠ b → (TJxf0a74 a).2.1 ≠ (TJxf0a74 b).2.1 := by decide +kernel
theorem tyJxf0a74_ok : ∀ k, k < 0 → parseFieldDescriptor (TJxf0a74 k).2.2.1 = some (tyJxf0a74 k) := by decide +kernel
def RJxa66e6 : String := "java/util/SequencedCollection"
def TJxa66e6 : u_T := fun k => match k with
  | _ => ("", "", "", false)
def tyJxa66e6 : Nat → FieldType := fun k => match k with
  | _ => .int
abbrev wsJxa66e60 : List Cond := u_ws RJxa66e6 TJxa66e6 0
theorem nmJxa66e6 : ∀ a, a < 0 → ∀ b, b < 0 → a ≠ b → (TJxa66e6 a).2.1 ≠ (TJxa66e6 b).2.1 := by decide +kernel
theorem tyJxa66e6_ok : ∀ k, k < 0 → parseFieldDescriptor (TJxa66e6 k).2.2.1 = some (tyJxa66e6 k) := by decide +kernel
def RJ8 : String := "jdk/internal/util/ArraysSupport"
def TJ8 : u_T := fun k => match k with
  | _ => ("", "", "", false)
def tyJ8 : Nat → FieldType := fun k => match k with
  | _ => .int
abbrev wsJ80 : List Cond := u_ws RJ8 TJ8 0
theorem nmJ8 : ∀ a, a < 0 → ∀ b, b < 0 → a ≠ b → (TJ8 a).2.1 ≠ (TJ8 b).2.1 := by decide +kernel
theorem tyJ8_ok : ∀ k, k < 0 → parseFieldDescriptor (TJ8 k).2.2.1 = some (tyJ8 k) := by decide +kernel
abbrev cJ8_newLength_cabcc : ByteArray := prog_27_method_27_code
def yJ8_newLength_cabcc : MethodName := ⟨RJ8, "newLength", "(III)I"⟩
abbrev cJ8_hugeLength_7cf53 : ByteArray := prog_27_method_28_code
def yJ8_hugeLength_7cf53 : MethodName := ⟨RJ8, "hugeLength", "(II)I"⟩
def RJ3 : String := "jdk/internal/util/Preconditions"
def TJ3 : u_T := fun k => match k with
  | _ => ("", "", "", false)
def tyJ3 : Nat → FieldType := fun k => match k with
  | _ => .int
abbrev wsJ30 : List Cond := u_ws RJ3 TJ3 0
theorem nmJ3 : ∀ a, a < 0 → ∀ b, b < 0 → a ≠ b → (TJ3 a).2.1 ≠ (TJ3 b).2.1 := by decide +kernel
theorem tyJ3_ok : ∀ k, k < 0 → parseFieldDescriptor (TJ3 k).2.2.1 = some (tyJ3 k) := by decide +kernel
abbrev cJ3_checkIndex_8e157 : ByteArray := prog_28_method_11_code
def yJ3_checkIndex_8e157 : MethodName := ⟨RJ3, "checkIndex", "(IILjava/util/function/BiFunction;)I"⟩
def RL : String := "LeftThingsLaw"
abbrev cL_told : ByteArray := method_2_code
def yL_told : MethodName := ⟨RL, "told", "([II)I"⟩
abbrev cL_purses : ByteArray := method_3_code
def yL_purses : MethodName := ⟨RL, "purses", "(LLeftThings;)I"⟩
abbrev cL_does : ByteArray := method_4_code
def yL_does : MethodName := ⟨RL, "does", "(LLeftThings;[III)Z"⟩
abbrev cL_lends : ByteArray := method_5_code
def yL_lends : MethodName := ⟨RL, "lends", "(LLeftThings;[IIII)Z"⟩
abbrev cL_areSo : ByteArray := method_6_code
def yL_areSo : MethodName := ⟨RL, "areSo", "(LLeftThings;[I[I)Z"⟩
abbrev cL_law : ByteArray := code
def yL_law : MethodName := ⟨RL, "law", "([I)Z"⟩
abbrev vwCl : List vw_C := [(RJx4a65c, TJx4a65c, 3), (RX0, TX0, 3), (RX1, TX1, 12), (RX2, TX2, 7)]
end
section
theorem dX0_init_0 : decode cX0_init 0 = .ok (.aload_n 0, 1) := by decide +kernel
theorem dX0_init_1 : decode cX0_init 1 = .ok (.invokespecial 1, 3) := by decide +kernel
theorem dX0_init_4 : decode cX0_init 4 = .ok (.aload_n 0, 1) := by decide +kernel
theorem dX0_init_5 : decode cX0_init 5 = .ok (.iload_n 1, 1) := by decide +kernel
theorem dX0_init_6 : decode cX0_init 6 = .ok (.putfield 7, 3) := by decide +kernel
theorem dX0_init_9 : decode cX0_init 9 = .ok (.aload_n 0, 1) := by decide +kernel
theorem dX0_init_10 : decode cX0_init 10 = .ok (.iload_n 2, 1) := by decide +kernel
theorem dX0_init_11 : decode cX0_init 11 = .ok (.putfield 13, 3) := by decide +kernel
theorem dX0_init_14 : decode cX0_init 14 = .ok (.aload_n 0, 1) := by decide +kernel
theorem dX0_init_15 : decode cX0_init 15 = .ok (.aload_n 3, 1) := by decide +kernel
theorem dX0_init_16 : decode cX0_init 16 = .ok (.putfield 16, 3) := by decide +kernel
theorem dX0_init_19 : decode cX0_init 19 = .ok (.return_, 1) := by decide +kernel
theorem dX1_init_0 : decode cX1_init 0 = .ok (.aload_n 0, 1) := by decide +kernel
theorem dX1_init_1 : decode cX1_init 1 = .ok (.invokespecial 3, 3) := by decide +kernel
theorem dX1_init_4 : decode cX1_init 4 = .ok (.aload_n 0, 1) := by decide +kernel
theorem dX1_init_5 : decode cX1_init 5 = .ok (.iconst (-1), 1) := by decide +kernel
theorem dX1_init_6 : decode cX1_init 6 = .ok (.putfield 9, 3) := by decide +kernel
theorem dX1_init_9 : decode cX1_init 9 = .ok (.aload_n 0, 1) := by decide +kernel
theorem dX1_init_10 : decode cX1_init 10 = .ok (.iconst 0, 1) := by decide +kernel
theorem dX1_init_11 : decode cX1_init 11 = .ok (.putfield 15, 3) := by decide +kernel
theorem dX1_init_14 : decode cX1_init 14 = .ok (.aload_n 0, 1) := by decide +kernel
theorem dX1_init_15 : decode cX1_init 15 = .ok (.iconst 0, 1) := by decide +kernel
theorem dX1_init_16 : decode cX1_init 16 = .ok (.putfield 18, 3) := by decide +kernel
theorem dX1_init_19 : decode cX1_init 19 = .ok (.aload_n 0, 1) := by decide +kernel
theorem dX1_init_20 : decode cX1_init 20 = .ok (.iconst (-1), 1) := by decide +kernel
theorem dX1_init_21 : decode cX1_init 21 = .ok (.putfield 21, 3) := by decide +kernel
theorem dX1_init_24 : decode cX1_init 24 = .ok (.aload_n 0, 1) := by decide +kernel
theorem dX1_init_25 : decode cX1_init 25 = .ok (.iconst (-1), 1) := by decide +kernel
theorem dX1_init_26 : decode cX1_init 26 = .ok (.putfield 24, 3) := by decide +kernel
theorem dX1_init_29 : decode cX1_init 29 = .ok (.aload_n 0, 1) := by decide +kernel
theorem dX1_init_30 : decode cX1_init 30 = .ok (.iload_n 1, 1) := by decide +kernel
theorem dX1_init_31 : decode cX1_init 31 = .ok (.putfield 27, 3) := by decide +kernel
theorem dX1_init_34 : decode cX1_init 34 = .ok (.aload_n 0, 1) := by decide +kernel
theorem dX1_init_35 : decode cX1_init 35 = .ok (.iload_n 2, 1) := by decide +kernel
theorem dX1_init_36 : decode cX1_init 36 = .ok (.putfield 30, 3) := by decide +kernel
theorem dX1_init_39 : decode cX1_init 39 = .ok (.aload_n 0, 1) := by decide +kernel
theorem dX1_init_40 : decode cX1_init 40 = .ok (.iload_n 3, 1) := by decide +kernel
theorem dX1_init_41 : decode cX1_init 41 = .ok (.putfield 33, 3) := by decide +kernel
theorem dX1_init_44 : decode cX1_init 44 = .ok (.aload_n 0, 1) := by decide +kernel
theorem dX1_init_45 : decode cX1_init 45 = .ok (.iload 5, 2) := by decide +kernel
theorem dX1_init_47 : decode cX1_init 47 = .ok (.putfield 36, 3) := by decide +kernel
theorem dX1_init_50 : decode cX1_init 50 = .ok (.aload_n 0, 1) := by decide +kernel
theorem dX1_init_51 : decode cX1_init 51 = .ok (.bipush 20, 2) := by decide +kernel
theorem dX1_init_53 : decode cX1_init 53 = .ok (.iload_n 3, 1) := by decide +kernel
theorem dX1_init_54 : decode cX1_init 54 = .ok (.imul, 1) := by decide +kernel
theorem dX1_init_55 : decode cX1_init 55 = .ok (.putfield 39, 3) := by decide +kernel
theorem dX1_init_58 : decode cX1_init 58 = .ok (.aload_n 0, 1) := by decide +kernel
theorem dX1_init_59 : decode cX1_init 59 = .ok (.iload 4, 2) := by decide +kernel
theorem dX1_init_61 : decode cX1_init 61 = .ok (.putfield 42, 3) := by decide +kernel
theorem dX1_init_64 : decode cX1_init 64 = .ok (.aload_n 0, 1) := by decide +kernel
theorem dX1_init_65 : decode cX1_init 65 = .ok (.new 45, 3) := by decide +kernel
theorem dX1_init_68 : decode cX1_init 68 = .ok (.dup, 1) := by decide +kernel
theorem dX1_init_69 : decode cX1_init 69 = .ok (.iload 4, 2) := by decide +kernel
theorem dX1_init_71 : decode cX1_init 71 = .ok (.iload 5, 2) := by decide +kernel
theorem dX1_init_73 : decode cX1_init 73 = .ok (.iconst 1, 1) := by decide +kernel
theorem dX1_init_74 : decode cX1_init 74 = .ok (.iadd, 1) := by decide +kernel
theorem dX1_init_75 : decode cX1_init 75 = .ok (.aconst_null, 1) := by decide +kernel
theorem dX1_init_76 : decode cX1_init 76 = .ok (.invokespecial 47, 3) := by decide +kernel
theorem dX1_init_79 : decode cX1_init 79 = .ok (.putfield 50, 3) := by decide +kernel
theorem dX1_init_82 : decode cX1_init 82 = .ok (.return_, 1) := by decide +kernel
theorem dX1_isAtCounter_0 : decode cX1_isAtCounter 0 = .ok (.aload_n 0, 1) := by decide +kernel
theorem dX1_isAtCounter_1 : decode cX1_isAtCounter 1 = .ok (.getfield 42, 3) := by decide +kernel
theorem dX1_isAtCounter_4 : decode cX1_isAtCounter 4 = .ok (.invokestatic 54, 3) := by decide +kernel
theorem dX1_isAtCounter_7 : decode cX1_isAtCounter 7 = .ok (.ireturn, 1) := by decide +kernel
theorem dX1_hasLoan_0 : decode cX1_hasLoan 0 = .ok (.aload_n 0, 1) := by decide +kernel
theorem dX1_hasLoan_1 : decode cX1_hasLoan 1 = .ok (.getfield 18, 3) := by decide +kernel
theorem dX1_hasLoan_4 : decode cX1_hasLoan 4 = .ok (.ifCond .le 7, 3) := by decide +kernel
theorem dX1_hasLoan_7 : decode cX1_hasLoan 7 = .ok (.iconst 1, 1) := by decide +kernel
theorem dX1_hasLoan_8 : decode cX1_hasLoan 8 = .ok (.goto 4, 3) := by decide +kernel
theorem dX1_hasLoan_11 : decode cX1_hasLoan 11 = .ok (.iconst 0, 1) := by decide +kernel
theorem dX1_hasLoan_12 : decode cX1_hasLoan 12 = .ok (.ireturn, 1) := by decide +kernel
theorem dX1_isCalled_0 : decode cX1_isCalled 0 = .ok (.aload_n 0, 1) := by decide +kernel
theorem dX1_isCalled_1 : decode cX1_isCalled 1 = .ok (.getfield 24, 3) := by decide +kernel
theorem dX1_isCalled_4 : decode cX1_isCalled 4 = .ok (.iconst (-1), 1) := by decide +kernel
theorem dX1_isCalled_5 : decode cX1_isCalled 5 = .ok (.if_icmp .eq 7, 3) := by decide +kernel
theorem dX1_isCalled_8 : decode cX1_isCalled 8 = .ok (.iconst 1, 1) := by decide +kernel
theorem dX1_isCalled_9 : decode cX1_isCalled 9 = .ok (.goto 4, 3) := by decide +kernel
theorem dX1_isCalled_12 : decode cX1_isCalled 12 = .ok (.iconst 0, 1) := by decide +kernel
theorem dX1_isCalled_13 : decode cX1_isCalled 13 = .ok (.ireturn, 1) := by decide +kernel
theorem dX1_beginLoan_0 : decode cX1_beginLoan 0 = .ok (.aload_n 0, 1) := by decide +kernel
theorem dX1_beginLoan_1 : decode cX1_beginLoan 1 = .ok (.iload_n 1, 1) := by decide +kernel
theorem dX1_beginLoan_2 : decode cX1_beginLoan 2 = .ok (.putfield 21, 3) := by decide +kernel
theorem dX1_beginLoan_5 : decode cX1_beginLoan 5 = .ok (.aload_n 0, 1) := by decide +kernel
theorem dX1_beginLoan_6 : decode cX1_beginLoan 6 = .ok (.iload_n 2, 1) := by decide +kernel
theorem dX1_beginLoan_7 : decode cX1_beginLoan 7 = .ok (.putfield 18, 3) := by decide +kernel
theorem dX1_beginLoan_10 : decode cX1_beginLoan 10 = .ok (.return_, 1) := by decide +kernel
theorem dX1_endLoan_0 : decode cX1_endLoan 0 = .ok (.aload_n 0, 1) := by decide +kernel
theorem dX1_endLoan_1 : decode cX1_endLoan 1 = .ok (.iconst (-1), 1) := by decide +kernel
theorem dX1_endLoan_2 : decode cX1_endLoan 2 = .ok (.putfield 21, 3) := by decide +kernel
theorem dX1_endLoan_5 : decode cX1_endLoan 5 = .ok (.aload_n 0, 1) := by decide +kernel
theorem dX1_endLoan_6 : decode cX1_endLoan 6 = .ok (.iconst 0, 1) := by decide +kernel
theorem dX1_endLoan_7 : decode cX1_endLoan 7 = .ok (.putfield 18, 3) := by decide +kernel
theorem dX1_endLoan_10 : decode cX1_endLoan 10 = .ok (.aload_n 0, 1) := by decide +kernel
theorem dX1_endLoan_11 : decode cX1_endLoan 11 = .ok (.iconst (-1), 1) := by decide +kernel
theorem dX1_endLoan_12 : decode cX1_endLoan 12 = .ok (.putfield 24, 3) := by decide +kernel
theorem dX1_endLoan_15 : decode cX1_endLoan 15 = .ok (.return_, 1) := by decide +kernel
theorem dX1_moveTo_0 : decode cX1_moveTo 0 = .ok (.aload_n 0, 1) := by decide +kernel
theorem dX1_moveTo_1 : decode cX1_moveTo 1 = .ok (.iload_n 1, 1) := by decide +kernel
theorem dX1_moveTo_2 : decode cX1_moveTo 2 = .ok (.putfield 42, 3) := by decide +kernel
theorem dX1_moveTo_5 : decode cX1_moveTo 5 = .ok (.aload_n 0, 1) := by decide +kernel
theorem dX1_moveTo_6 : decode cX1_moveTo 6 = .ok (.new 45, 3) := by decide +kernel
theorem dX1_moveTo_9 : decode cX1_moveTo 9 = .ok (.dup, 1) := by decide +kernel
theorem dX1_moveTo_10 : decode cX1_moveTo 10 = .ok (.iload_n 1, 1) := by decide +kernel
theorem dX1_moveTo_11 : decode cX1_moveTo 11 = .ok (.iload_n 2, 1) := by decide +kernel
theorem dX1_moveTo_12 : decode cX1_moveTo 12 = .ok (.iconst 1, 1) := by decide +kernel
theorem dX1_moveTo_13 : decode cX1_moveTo 13 = .ok (.iadd, 1) := by decide +kernel
theorem dX1_moveTo_14 : decode cX1_moveTo 14 = .ok (.aload_n 0, 1) := by decide +kernel
theorem dX1_moveTo_15 : decode cX1_moveTo 15 = .ok (.getfield 50, 3) := by decide +kernel
theorem dX1_moveTo_18 : decode cX1_moveTo 18 = .ok (.invokespecial 47, 3) := by decide +kernel
theorem dX1_moveTo_21 : decode cX1_moveTo 21 = .ok (.putfield 50, 3) := by decide +kernel
theorem dX1_moveTo_24 : decode cX1_moveTo 24 = .ok (.return_, 1) := by decide +kernel
theorem dX1_placeAtBeginningOf_0 : decode cX1_placeAtBeginningOf 0 = .ok (.aload_n 0, 1) := by decide +kernel
theorem dX1_placeAtBeginningOf_1 : decode cX1_placeAtBeginningOf 1 = .ok (.getfield 50, 3) := by decide +kernel
theorem dX1_placeAtBeginningOf_4 : decode cX1_placeAtBeginningOf 4 = .ok (.astore_n 2, 1) := by decide +kernel
theorem dX1_placeAtBeginningOf_5 : decode cX1_placeAtBeginningOf 5 = .ok (.aload_n 2, 1) := by decide +kernel
theorem dX1_placeAtBeginningOf_6 : decode cX1_placeAtBeginningOf 6 = .ok (.ifnull 24, 3) := by decide +kernel
theorem dX1_placeAtBeginningOf_9 : decode cX1_placeAtBeginningOf 9 = .ok (.aload_n 2, 1) := by decide +kernel
theorem dX1_placeAtBeginningOf_10 : decode cX1_placeAtBeginningOf 10 = .ok (.getfield 58, 3) := by decide +kernel
theorem dX1_placeAtBeginningOf_13 : decode cX1_placeAtBeginningOf 13 = .ok (.iload_n 1, 1) := by decide +kernel
theorem dX1_placeAtBeginningOf_14 : decode cX1_placeAtBeginningOf 14 = .ok (.if_icmp .gt 8, 3) := by decide +kernel
theorem dX1_placeAtBeginningOf_17 : decode cX1_placeAtBeginningOf 17 = .ok (.aload_n 2, 1) := by decide +kernel
theorem dX1_placeAtBeginningOf_18 : decode cX1_placeAtBeginningOf 18 = .ok (.getfield 61, 3) := by decide +kernel
theorem dX1_placeAtBeginningOf_21 : decode cX1_placeAtBeginningOf 21 = .ok (.ireturn, 1) := by decide +kernel
theorem dX1_placeAtBeginningOf_22 : decode cX1_placeAtBeginningOf 22 = .ok (.aload_n 2, 1) := by decide +kernel
theorem dX1_placeAtBeginningOf_23 : decode cX1_placeAtBeginningOf 23 = .ok (.getfield 62, 3) := by decide +kernel
theorem dX1_placeAtBeginningOf_26 : decode cX1_placeAtBeginningOf 26 = .ok (.astore_n 2, 1) := by decide +kernel
theorem dX1_placeAtBeginningOf_27 : decode cX1_placeAtBeginningOf 27 = .ok (.goto (-22), 3) := by decide +kernel
theorem dX1_placeAtBeginningOf_30 : decode cX1_placeAtBeginningOf 30 = .ok (.bipush 12, 2) := by decide +kernel
theorem dX1_placeAtBeginningOf_32 : decode cX1_placeAtBeginningOf 32 = .ok (.ireturn, 1) := by decide +kernel
theorem dX2_init_0 : decode cX2_init 0 = .ok (.aload_n 0, 1) := by decide +kernel
theorem dX2_init_1 : decode cX2_init 1 = .ok (.invokespecial 1, 3) := by decide +kernel
theorem dX2_init_4 : decode cX2_init 4 = .ok (.aload_n 0, 1) := by decide +kernel
theorem dX2_init_5 : decode cX2_init 5 = .ok (.iconst 5, 1) := by decide +kernel
theorem dX2_init_6 : decode cX2_init 6 = .ok (.newarray .int, 2) := by decide +kernel
theorem dX2_init_8 : decode cX2_init 8 = .ok (.putfield 9, 3) := by decide +kernel
theorem dX2_init_11 : decode cX2_init 11 = .ok (.aload_n 0, 1) := by decide +kernel
theorem dX2_init_12 : decode cX2_init 12 = .ok (.bipush 8, 2) := by decide +kernel
theorem dX2_init_14 : decode cX2_init 14 = .ok (.newarray .int, 2) := by decide +kernel
theorem dX2_init_16 : decode cX2_init 16 = .ok (.putfield 13, 3) := by decide +kernel
theorem dX2_init_19 : decode cX2_init 19 = .ok (.aload_n 0, 1) := by decide +kernel
theorem dX2_init_20 : decode cX2_init 20 = .ok (.new 16, 3) := by decide +kernel
theorem dX2_init_23 : decode cX2_init 23 = .ok (.dup, 1) := by decide +kernel
theorem dX2_init_24 : decode cX2_init 24 = .ok (.invokespecial 18, 3) := by decide +kernel
theorem dX2_init_27 : decode cX2_init 27 = .ok (.putfield 19, 3) := by decide +kernel
theorem dX2_init_30 : decode cX2_init 30 = .ok (.aload_n 0, 1) := by decide +kernel
theorem dX2_init_31 : decode cX2_init 31 = .ok (.new 16, 3) := by decide +kernel
theorem dX2_init_34 : decode cX2_init 34 = .ok (.dup, 1) := by decide +kernel
theorem dX2_init_35 : decode cX2_init 35 = .ok (.invokespecial 18, 3) := by decide +kernel
theorem dX2_init_38 : decode cX2_init 38 = .ok (.putfield 23, 3) := by decide +kernel
theorem dX2_init_41 : decode cX2_init 41 = .ok (.aload_n 0, 1) := by decide +kernel
theorem dX2_init_42 : decode cX2_init 42 = .ok (.bipush 6, 2) := by decide +kernel
theorem dX2_init_44 : decode cX2_init 44 = .ok (.putfield 26, 3) := by decide +kernel
theorem dX2_init_47 : decode cX2_init 47 = .ok (.aload_n 0, 1) := by decide +kernel
theorem dX2_init_48 : decode cX2_init 48 = .ok (.iconst 0, 1) := by decide +kernel
theorem dX2_init_49 : decode cX2_init 49 = .ok (.putfield 30, 3) := by decide +kernel
theorem dX2_init_52 : decode cX2_init 52 = .ok (.aload_n 0, 1) := by decide +kernel
theorem dX2_init_53 : decode cX2_init 53 = .ok (.iconst 0, 1) := by decide +kernel
theorem dX2_init_54 : decode cX2_init 54 = .ok (.putfield 33, 3) := by decide +kernel
theorem dX2_init_57 : decode cX2_init 57 = .ok (.aload_n 0, 1) := by decide +kernel
theorem dX2_init_58 : decode cX2_init 58 = .ok (.getfield 9, 3) := by decide +kernel
theorem dX2_init_61 : decode cX2_init 61 = .ok (.bipush 10, 2) := by decide +kernel
theorem dX2_init_63 : decode cX2_init 63 = .ok (.invokestatic 36, 3) := by decide +kernel
theorem dX2_init_66 : decode cX2_init 66 = .ok (.return_, 1) := by decide +kernel
theorem dX2_leave_0 : decode cX2_leave 0 = .ok (.iload_n 1, 1) := by decide +kernel
theorem dX2_leave_1 : decode cX2_leave 1 = .ok (.invokestatic 58, 3) := by decide +kernel
theorem dX2_leave_4 : decode cX2_leave 4 = .ok (.ifCond .eq 20, 3) := by decide +kernel
theorem dX2_leave_7 : decode cX2_leave 7 = .ok (.iload_n 2, 1) := by decide +kernel
theorem dX2_leave_8 : decode cX2_leave 8 = .ok (.iconst 1, 1) := by decide +kernel
theorem dX2_leave_9 : decode cX2_leave 9 = .ok (.if_icmp .lt 15, 3) := by decide +kernel
theorem dX2_leave_12 : decode cX2_leave 12 = .ok (.iload_n 2, 1) := by decide +kernel
theorem dX2_leave_13 : decode cX2_leave 13 = .ok (.iconst 3, 1) := by decide +kernel
theorem dX2_leave_14 : decode cX2_leave 14 = .ok (.if_icmp .gt 10, 3) := by decide +kernel
theorem dX2_leave_17 : decode cX2_leave 17 = .ok (.iload_n 3, 1) := by decide +kernel
theorem dX2_leave_18 : decode cX2_leave 18 = .ok (.invokestatic 42, 3) := by decide +kernel
theorem dX2_leave_21 : decode cX2_leave 21 = .ok (.ifCond .ne 13, 3) := by decide +kernel
theorem dX2_leave_24 : decode cX2_leave 24 = .ok (.new 49, 3) := by decide +kernel
theorem dX2_leave_27 : decode cX2_leave 27 = .ok (.dup, 1) := by decide +kernel
theorem dX2_leave_28 : decode cX2_leave 28 = .ok (.ldc 61, 2) := by decide +kernel
theorem dX2_leave_30 : decode cX2_leave 30 = .ok (.invokespecial 53, 3) := by decide +kernel
theorem dX2_leave_33 : decode cX2_leave 33 = .ok (.athrow, 1) := by decide +kernel
theorem dX2_leave_34 : decode cX2_leave 34 = .ok (.aload_n 0, 1) := by decide +kernel
theorem dX2_leave_35 : decode cX2_leave 35 = .ok (.getfield 19, 3) := by decide +kernel
theorem dX2_leave_38 : decode cX2_leave 38 = .ok (.invokevirtual 63, 3) := by decide +kernel
theorem dX2_leave_41 : decode cX2_leave 41 = .ok (.istore 4, 2) := by decide +kernel
theorem dX2_leave_43 : decode cX2_leave 43 = .ok (.iload 4, 2) := by decide +kernel
theorem dX2_leave_45 : decode cX2_leave 45 = .ok (.bipush 24, 2) := by decide +kernel
theorem dX2_leave_47 : decode cX2_leave 47 = .ok (.if_icmp .ge 12, 3) := by decide +kernel
theorem dX2_leave_50 : decode cX2_leave 50 = .ok (.aload_n 0, 1) := by decide +kernel
theorem dX2_leave_51 : decode cX2_leave 51 = .ok (.iload_n 3, 1) := by decide +kernel
theorem dX2_leave_52 : decode cX2_leave 52 = .ok (.iload_n 2, 1) := by decide +kernel
theorem dX2_leave_53 : decode cX2_leave 53 = .ok (.invokevirtual 67, 3) := by decide +kernel
theorem dX2_leave_56 : decode cX2_leave 56 = .ok (.ifCond .ne 13, 3) := by decide +kernel
theorem dX2_leave_59 : decode cX2_leave 59 = .ok (.new 71, 3) := by decide +kernel
theorem dX2_leave_62 : decode cX2_leave 62 = .ok (.dup, 1) := by decide +kernel
theorem dX2_leave_63 : decode cX2_leave 63 = .ok (.ldc 73, 2) := by decide +kernel
theorem dX2_leave_65 : decode cX2_leave 65 = .ok (.invokespecial 75, 3) := by decide +kernel
theorem dX2_leave_68 : decode cX2_leave 68 = .ok (.athrow, 1) := by decide +kernel
theorem dX2_leave_69 : decode cX2_leave 69 = .ok (.aload_n 0, 1) := by decide +kernel
theorem dX2_leave_70 : decode cX2_leave 70 = .ok (.getfield 19, 3) := by decide +kernel
theorem dX2_leave_73 : decode cX2_leave 73 = .ok (.new 76, 3) := by decide +kernel
theorem dX2_leave_76 : decode cX2_leave 76 = .ok (.dup, 1) := by decide +kernel
theorem dX2_leave_77 : decode cX2_leave 77 = .ok (.iload 4, 2) := by decide +kernel
theorem dX2_leave_79 : decode cX2_leave 79 = .ok (.iload_n 1, 1) := by decide +kernel
theorem dX2_leave_80 : decode cX2_leave 80 = .ok (.iload_n 2, 1) := by decide +kernel
theorem dX2_leave_81 : decode cX2_leave 81 = .ok (.iload_n 3, 1) := by decide +kernel
theorem dX2_leave_82 : decode cX2_leave 82 = .ok (.aload_n 0, 1) := by decide +kernel
theorem dX2_leave_83 : decode cX2_leave 83 = .ok (.getfield 30, 3) := by decide +kernel
theorem dX2_leave_86 : decode cX2_leave 86 = .ok (.invokespecial 78, 3) := by decide +kernel
theorem dX2_leave_89 : decode cX2_leave 89 = .ok (.invokevirtual 81, 3) := by decide +kernel
theorem dX2_leave_92 : decode cX2_leave 92 = .ok (.pop, 1) := by decide +kernel
theorem dX2_leave_93 : decode cX2_leave 93 = .ok (.iload 4, 2) := by decide +kernel
theorem dX2_leave_95 : decode cX2_leave 95 = .ok (.ireturn, 1) := by decide +kernel
theorem dX2_fetch_0 : decode cX2_fetch 0 = .ok (.aload_n 0, 1) := by decide +kernel
theorem dX2_fetch_1 : decode cX2_fetch 1 = .ok (.iload_n 1, 1) := by decide +kernel
theorem dX2_fetch_2 : decode cX2_fetch 2 = .ok (.invokevirtual 85, 3) := by decide +kernel
theorem dX2_fetch_5 : decode cX2_fetch 5 = .ok (.astore_n 2, 1) := by decide +kernel
theorem dX2_fetch_6 : decode cX2_fetch 6 = .ok (.aload_n 2, 1) := by decide +kernel
theorem dX2_fetch_7 : decode cX2_fetch 7 = .ok (.invokevirtual 89, 3) := by decide +kernel
theorem dX2_fetch_10 : decode cX2_fetch 10 = .ok (.ifCond .eq 10, 3) := by decide +kernel
theorem dX2_fetch_13 : decode cX2_fetch 13 = .ok (.aload_n 2, 1) := by decide +kernel
theorem dX2_fetch_14 : decode cX2_fetch 14 = .ok (.invokevirtual 93, 3) := by decide +kernel
theorem dX2_fetch_17 : decode cX2_fetch 17 = .ok (.ifCond .eq 13, 3) := by decide +kernel
theorem dX2_fetch_20 : decode cX2_fetch 20 = .ok (.new 71, 3) := by decide +kernel
theorem dX2_fetch_23 : decode cX2_fetch 23 = .ok (.dup, 1) := by decide +kernel
theorem dX2_fetch_24 : decode cX2_fetch 24 = .ok (.ldc 96, 2) := by decide +kernel
theorem dX2_fetch_26 : decode cX2_fetch 26 = .ok (.invokespecial 75, 3) := by decide +kernel
theorem dX2_fetch_29 : decode cX2_fetch 29 = .ok (.athrow, 1) := by decide +kernel
theorem dX2_fetch_30 : decode cX2_fetch 30 = .ok (.aload_n 2, 1) := by decide +kernel
theorem dX2_fetch_31 : decode cX2_fetch 31 = .ok (.getfield 98, 3) := by decide +kernel
theorem dX2_fetch_34 : decode cX2_fetch 34 = .ok (.istore_n 3, 1) := by decide +kernel
theorem dX2_fetch_35 : decode cX2_fetch 35 = .ok (.aload_n 0, 1) := by decide +kernel
theorem dX2_fetch_36 : decode cX2_fetch 36 = .ok (.aload_n 2, 1) := by decide +kernel
theorem dX2_fetch_37 : decode cX2_fetch 37 = .ok (.iload_n 3, 1) := by decide +kernel
theorem dX2_fetch_38 : decode cX2_fetch 38 = .ok (.bipush 10, 2) := by decide +kernel
theorem dX2_fetch_40 : decode cX2_fetch 40 = .ok (.invokevirtual 101, 3) := by decide +kernel
theorem dX2_fetch_43 : decode cX2_fetch 43 = .ok (.iload_n 3, 1) := by decide +kernel
theorem dX2_fetch_44 : decode cX2_fetch 44 = .ok (.ireturn, 1) := by decide +kernel
theorem dX2_want_0 : decode cX2_want 0 = .ok (.aload_n 0, 1) := by decide +kernel
theorem dX2_want_1 : decode cX2_want 1 = .ok (.iload_n 1, 1) := by decide +kernel
theorem dX2_want_2 : decode cX2_want 2 = .ok (.invokevirtual 85, 3) := by decide +kernel
theorem dX2_want_5 : decode cX2_want 5 = .ok (.astore_n 3, 1) := by decide +kernel
theorem dX2_want_6 : decode cX2_want 6 = .ok (.iload_n 2, 1) := by decide +kernel
theorem dX2_want_7 : decode cX2_want 7 = .ok (.invokestatic 42, 3) := by decide +kernel
theorem dX2_want_10 : decode cX2_want 10 = .ok (.ifCond .ne 13, 3) := by decide +kernel
theorem dX2_want_13 : decode cX2_want 13 = .ok (.new 49, 3) := by decide +kernel
theorem dX2_want_16 : decode cX2_want 16 = .ok (.dup, 1) := by decide +kernel
theorem dX2_want_17 : decode cX2_want 17 = .ok (.ldc 105, 2) := by decide +kernel
theorem dX2_want_19 : decode cX2_want 19 = .ok (.invokespecial 53, 3) := by decide +kernel
theorem dX2_want_22 : decode cX2_want 22 = .ok (.athrow, 1) := by decide +kernel
theorem dX2_want_23 : decode cX2_want 23 = .ok (.aload_n 3, 1) := by decide +kernel
theorem dX2_want_24 : decode cX2_want 24 = .ok (.invokevirtual 89, 3) := by decide +kernel
theorem dX2_want_27 : decode cX2_want 27 = .ok (.ifCond .eq 11, 3) := by decide +kernel
theorem dX2_want_30 : decode cX2_want 30 = .ok (.aload_n 3, 1) := by decide +kernel
theorem dX2_want_31 : decode cX2_want 31 = .ok (.getfield 107, 3) := by decide +kernel
theorem dX2_want_34 : decode cX2_want 34 = .ok (.iload_n 2, 1) := by decide +kernel
theorem dX2_want_35 : decode cX2_want 35 = .ok (.if_icmp .ne 13, 3) := by decide +kernel
theorem dX2_want_38 : decode cX2_want 38 = .ok (.new 71, 3) := by decide +kernel
theorem dX2_want_41 : decode cX2_want 41 = .ok (.dup, 1) := by decide +kernel
theorem dX2_want_42 : decode cX2_want 42 = .ok (.ldc 110, 2) := by decide +kernel
theorem dX2_want_44 : decode cX2_want 44 = .ok (.invokespecial 75, 3) := by decide +kernel
theorem dX2_want_47 : decode cX2_want 47 = .ok (.athrow, 1) := by decide +kernel
theorem dX2_want_48 : decode cX2_want 48 = .ok (.aload_n 3, 1) := by decide +kernel
theorem dX2_want_49 : decode cX2_want 49 = .ok (.iconst (-1), 1) := by decide +kernel
theorem dX2_want_50 : decode cX2_want 50 = .ok (.putfield 112, 3) := by decide +kernel
theorem dX2_want_53 : decode cX2_want 53 = .ok (.aload_n 0, 1) := by decide +kernel
theorem dX2_want_54 : decode cX2_want 54 = .ok (.invokevirtual 115, 3) := by decide +kernel
theorem dX2_want_57 : decode cX2_want 57 = .ok (.aload_n 3, 1) := by decide +kernel
theorem dX2_want_58 : decode cX2_want 58 = .ok (.iload_n 2, 1) := by decide +kernel
theorem dX2_want_59 : decode cX2_want 59 = .ok (.putfield 112, 3) := by decide +kernel
theorem dX2_want_62 : decode cX2_want 62 = .ok (.aload_n 0, 1) := by decide +kernel
theorem dX2_want_63 : decode cX2_want 63 = .ok (.getfield 23, 3) := by decide +kernel
theorem dX2_want_66 : decode cX2_want 66 = .ok (.aload_n 3, 1) := by decide +kernel
theorem dX2_want_67 : decode cX2_want 67 = .ok (.invokevirtual 81, 3) := by decide +kernel
theorem dX2_want_70 : decode cX2_want 70 = .ok (.pop, 1) := by decide +kernel
theorem dX2_want_71 : decode cX2_want 71 = .ok (.aload_n 0, 1) := by decide +kernel
theorem dX2_want_72 : decode cX2_want 72 = .ok (.getfield 23, 3) := by decide +kernel
theorem dX2_want_75 : decode cX2_want 75 = .ok (.invokevirtual 63, 3) := by decide +kernel
theorem dX2_want_78 : decode cX2_want 78 = .ok (.ireturn, 1) := by decide +kernel
theorem dX2_value_0 : decode cX2_value 0 = .ok (.aload_n 0, 1) := by decide +kernel
theorem dX2_value_1 : decode cX2_value 1 = .ok (.iload_n 1, 1) := by decide +kernel
theorem dX2_value_2 : decode cX2_value 2 = .ok (.invokevirtual 85, 3) := by decide +kernel
theorem dX2_value_5 : decode cX2_value 5 = .ok (.astore_n 3, 1) := by decide +kernel
theorem dX2_value_6 : decode cX2_value 6 = .ok (.iload_n 2, 1) := by decide +kernel
theorem dX2_value_7 : decode cX2_value 7 = .ok (.ifCond .lt 10, 3) := by decide +kernel
theorem dX2_value_10 : decode cX2_value 10 = .ok (.iload_n 2, 1) := by decide +kernel
theorem dX2_value_11 : decode cX2_value 11 = .ok (.sipush 10000, 3) := by decide +kernel
theorem dX2_value_14 : decode cX2_value 14 = .ok (.if_icmp .le 13, 3) := by decide +kernel
theorem dX2_value_17 : decode cX2_value 17 = .ok (.new 49, 3) := by decide +kernel
theorem dX2_value_20 : decode cX2_value 20 = .ok (.dup, 1) := by decide +kernel
theorem dX2_value_21 : decode cX2_value 21 = .ok (.ldc 118, 2) := by decide +kernel
theorem dX2_value_23 : decode cX2_value 23 = .ok (.invokespecial 53, 3) := by decide +kernel
theorem dX2_value_26 : decode cX2_value 26 = .ok (.athrow, 1) := by decide +kernel
theorem dX2_value_27 : decode cX2_value 27 = .ok (.aload_n 3, 1) := by decide +kernel
theorem dX2_value_28 : decode cX2_value 28 = .ok (.invokevirtual 89, 3) := by decide +kernel
theorem dX2_value_31 : decode cX2_value 31 = .ok (.ifCond .ne 13, 3) := by decide +kernel
theorem dX2_value_34 : decode cX2_value 34 = .ok (.new 71, 3) := by decide +kernel
theorem dX2_value_37 : decode cX2_value 37 = .ok (.dup, 1) := by decide +kernel
theorem dX2_value_38 : decode cX2_value 38 = .ok (.ldc 120, 2) := by decide +kernel
theorem dX2_value_40 : decode cX2_value 40 = .ok (.invokespecial 75, 3) := by decide +kernel
theorem dX2_value_43 : decode cX2_value 43 = .ok (.athrow, 1) := by decide +kernel
theorem dX2_value_44 : decode cX2_value 44 = .ok (.aload_n 3, 1) := by decide +kernel
theorem dX2_value_45 : decode cX2_value 45 = .ok (.getfield 122, 3) := by decide +kernel
theorem dX2_value_48 : decode cX2_value 48 = .ok (.istore 4, 2) := by decide +kernel
theorem dX2_value_50 : decode cX2_value 50 = .ok (.aload_n 3, 1) := by decide +kernel
theorem dX2_value_51 : decode cX2_value 51 = .ok (.iload_n 2, 1) := by decide +kernel
theorem dX2_value_52 : decode cX2_value 52 = .ok (.putfield 122, 3) := by decide +kernel
theorem dX2_value_55 : decode cX2_value 55 = .ok (.iload 4, 2) := by decide +kernel
theorem dX2_value_57 : decode cX2_value 57 = .ok (.ireturn, 1) := by decide +kernel
theorem dX2_lend_0 : decode cX2_lend 0 = .ok (.aload_n 0, 1) := by decide +kernel
theorem dX2_lend_1 : decode cX2_lend 1 = .ok (.iload_n 1, 1) := by decide +kernel
theorem dX2_lend_2 : decode cX2_lend 2 = .ok (.invokevirtual 85, 3) := by decide +kernel
theorem dX2_lend_5 : decode cX2_lend 5 = .ok (.astore 4, 2) := by decide +kernel
theorem dX2_lend_7 : decode cX2_lend 7 = .ok (.iload_n 2, 1) := by decide +kernel
theorem dX2_lend_8 : decode cX2_lend 8 = .ok (.invokestatic 58, 3) := by decide +kernel
theorem dX2_lend_11 : decode cX2_lend 11 = .ok (.ifCond .eq 15, 3) := by decide +kernel
theorem dX2_lend_14 : decode cX2_lend 14 = .ok (.iload_n 3, 1) := by decide +kernel
theorem dX2_lend_15 : decode cX2_lend 15 = .ok (.iconst 1, 1) := by decide +kernel
theorem dX2_lend_16 : decode cX2_lend 16 = .ok (.if_icmp .lt 10, 3) := by decide +kernel
theorem dX2_lend_19 : decode cX2_lend 19 = .ok (.iload_n 3, 1) := by decide +kernel
theorem dX2_lend_20 : decode cX2_lend 20 = .ok (.sipush 5000, 3) := by decide +kernel
theorem dX2_lend_23 : decode cX2_lend 23 = .ok (.if_icmp .le 13, 3) := by decide +kernel
theorem dX2_lend_26 : decode cX2_lend 26 = .ok (.new 49, 3) := by decide +kernel
theorem dX2_lend_29 : decode cX2_lend 29 = .ok (.dup, 1) := by decide +kernel
theorem dX2_lend_30 : decode cX2_lend 30 = .ok (.ldc 125, 2) := by decide +kernel
theorem dX2_lend_32 : decode cX2_lend 32 = .ok (.invokespecial 53, 3) := by decide +kernel
theorem dX2_lend_35 : decode cX2_lend 35 = .ok (.athrow, 1) := by decide +kernel
theorem dX2_lend_36 : decode cX2_lend 36 = .ok (.aload 4, 2) := by decide +kernel
theorem dX2_lend_38 : decode cX2_lend 38 = .ok (.invokevirtual 89, 3) := by decide +kernel
theorem dX2_lend_41 : decode cX2_lend 41 = .ok (.ifCond .eq 11, 3) := by decide +kernel
theorem dX2_lend_44 : decode cX2_lend 44 = .ok (.aload 4, 2) := by decide +kernel
theorem dX2_lend_46 : decode cX2_lend 46 = .ok (.invokevirtual 93, 3) := by decide +kernel
theorem dX2_lend_49 : decode cX2_lend 49 = .ok (.ifCond .eq 13, 3) := by decide +kernel
theorem dX2_lend_52 : decode cX2_lend 52 = .ok (.new 71, 3) := by decide +kernel
theorem dX2_lend_55 : decode cX2_lend 55 = .ok (.dup, 1) := by decide +kernel
theorem dX2_lend_56 : decode cX2_lend 56 = .ok (.ldc 96, 2) := by decide +kernel
theorem dX2_lend_58 : decode cX2_lend 58 = .ok (.invokespecial 75, 3) := by decide +kernel
theorem dX2_lend_61 : decode cX2_lend 61 = .ok (.athrow, 1) := by decide +kernel
theorem dX2_lend_62 : decode cX2_lend 62 = .ok (.iload_n 2, 1) := by decide +kernel
theorem dX2_lend_63 : decode cX2_lend 63 = .ok (.aload 4, 2) := by decide +kernel
theorem dX2_lend_65 : decode cX2_lend 65 = .ok (.getfield 127, 3) := by decide +kernel
theorem dX2_lend_68 : decode cX2_lend 68 = .ok (.if_icmp .eq 14, 3) := by decide +kernel
theorem dX2_lend_71 : decode cX2_lend 71 = .ok (.iload_n 3, 1) := by decide +kernel
theorem dX2_lend_72 : decode cX2_lend 72 = .ok (.aload 4, 2) := by decide +kernel
theorem dX2_lend_74 : decode cX2_lend 74 = .ok (.getfield 122, 3) := by decide +kernel
theorem dX2_lend_77 : decode cX2_lend 77 = .ok (.iconst 2, 1) := by decide +kernel
theorem dX2_lend_78 : decode cX2_lend 78 = .ok (.idiv, 1) := by decide +kernel
theorem dX2_lend_79 : decode cX2_lend 79 = .ok (.if_icmp .le 13, 3) := by decide +kernel
theorem dX2_lend_82 : decode cX2_lend 82 = .ok (.new 71, 3) := by decide +kernel
theorem dX2_lend_85 : decode cX2_lend 85 = .ok (.dup, 1) := by decide +kernel
theorem dX2_lend_86 : decode cX2_lend 86 = .ok (.ldc 130, 2) := by decide +kernel
theorem dX2_lend_88 : decode cX2_lend 88 = .ok (.invokespecial 75, 3) := by decide +kernel
theorem dX2_lend_91 : decode cX2_lend 91 = .ok (.athrow, 1) := by decide +kernel
theorem dX2_lend_92 : decode cX2_lend 92 = .ok (.aload 4, 2) := by decide +kernel
theorem dX2_lend_94 : decode cX2_lend 94 = .ok (.iload_n 2, 1) := by decide +kernel
theorem dX2_lend_95 : decode cX2_lend 95 = .ok (.iload_n 3, 1) := by decide +kernel
theorem dX2_lend_96 : decode cX2_lend 96 = .ok (.invokevirtual 132, 3) := by decide +kernel
theorem dX2_lend_99 : decode cX2_lend 99 = .ok (.aload_n 0, 1) := by decide +kernel
theorem dX2_lend_100 : decode cX2_lend 100 = .ok (.aload 4, 2) := by decide +kernel
theorem dX2_lend_102 : decode cX2_lend 102 = .ok (.getfield 127, 3) := by decide +kernel
theorem dX2_lend_105 : decode cX2_lend 105 = .ok (.iload_n 3, 1) := by decide +kernel
theorem dX2_lend_106 : decode cX2_lend 106 = .ok (.invokevirtual 136, 3) := by decide +kernel
theorem dX2_lend_109 : decode cX2_lend 109 = .ok (.return_, 1) := by decide +kernel
theorem dX2_repay_0 : decode cX2_repay 0 = .ok (.aload_n 0, 1) := by decide +kernel
theorem dX2_repay_1 : decode cX2_repay 1 = .ok (.iload_n 1, 1) := by decide +kernel
theorem dX2_repay_2 : decode cX2_repay 2 = .ok (.invokevirtual 85, 3) := by decide +kernel
theorem dX2_repay_5 : decode cX2_repay 5 = .ok (.astore_n 2, 1) := by decide +kernel
theorem dX2_repay_6 : decode cX2_repay 6 = .ok (.aload_n 2, 1) := by decide +kernel
theorem dX2_repay_7 : decode cX2_repay 7 = .ok (.invokevirtual 93, 3) := by decide +kernel
theorem dX2_repay_10 : decode cX2_repay 10 = .ok (.ifCond .ne 13, 3) := by decide +kernel
theorem dX2_repay_13 : decode cX2_repay 13 = .ok (.new 71, 3) := by decide +kernel
theorem dX2_repay_16 : decode cX2_repay 16 = .ok (.dup, 1) := by decide +kernel
theorem dX2_repay_17 : decode cX2_repay 17 = .ok (.ldc 139, 2) := by decide +kernel
theorem dX2_repay_19 : decode cX2_repay 19 = .ok (.invokespecial 75, 3) := by decide +kernel
theorem dX2_repay_22 : decode cX2_repay 22 = .ok (.athrow, 1) := by decide +kernel
theorem dX2_repay_23 : decode cX2_repay 23 = .ok (.aload_n 2, 1) := by decide +kernel
theorem dX2_repay_24 : decode cX2_repay 24 = .ok (.getfield 141, 3) := by decide +kernel
theorem dX2_repay_27 : decode cX2_repay 27 = .ok (.istore_n 3, 1) := by decide +kernel
theorem dX2_repay_28 : decode cX2_repay 28 = .ok (.aload_n 0, 1) := by decide +kernel
theorem dX2_repay_29 : decode cX2_repay 29 = .ok (.aload_n 2, 1) := by decide +kernel
theorem dX2_repay_30 : decode cX2_repay 30 = .ok (.getfield 144, 3) := by decide +kernel
theorem dX2_repay_33 : decode cX2_repay 33 = .ok (.iload_n 3, 1) := by decide +kernel
theorem dX2_repay_34 : decode cX2_repay 34 = .ok (.invokevirtual 136, 3) := by decide +kernel
theorem dX2_repay_37 : decode cX2_repay 37 = .ok (.aload_n 2, 1) := by decide +kernel
theorem dX2_repay_38 : decode cX2_repay 38 = .ok (.invokevirtual 147, 3) := by decide +kernel
theorem dX2_repay_41 : decode cX2_repay 41 = .ok (.iload_n 3, 1) := by decide +kernel
theorem dX2_repay_42 : decode cX2_repay 42 = .ok (.ireturn, 1) := by decide +kernel
theorem dX2_doubt_0 : decode cX2_doubt 0 = .ok (.aload_n 0, 1) := by decide +kernel
theorem dX2_doubt_1 : decode cX2_doubt 1 = .ok (.iload_n 1, 1) := by decide +kernel
theorem dX2_doubt_2 : decode cX2_doubt 2 = .ok (.invokevirtual 85, 3) := by decide +kernel
theorem dX2_doubt_5 : decode cX2_doubt 5 = .ok (.astore_n 2, 1) := by decide +kernel
theorem dX2_doubt_6 : decode cX2_doubt 6 = .ok (.aload_n 2, 1) := by decide +kernel
theorem dX2_doubt_7 : decode cX2_doubt 7 = .ok (.invokevirtual 93, 3) := by decide +kernel
theorem dX2_doubt_10 : decode cX2_doubt 10 = .ok (.ifCond .eq 10, 3) := by decide +kernel
theorem dX2_doubt_13 : decode cX2_doubt 13 = .ok (.aload_n 2, 1) := by decide +kernel
theorem dX2_doubt_14 : decode cX2_doubt 14 = .ok (.invokevirtual 150, 3) := by decide +kernel
theorem dX2_doubt_17 : decode cX2_doubt 17 = .ok (.ifCond .eq 13, 3) := by decide +kernel
theorem dX2_doubt_20 : decode cX2_doubt 20 = .ok (.new 71, 3) := by decide +kernel
theorem dX2_doubt_23 : decode cX2_doubt 23 = .ok (.dup, 1) := by decide +kernel
theorem dX2_doubt_24 : decode cX2_doubt 24 = .ok (.ldc 153, 2) := by decide +kernel
theorem dX2_doubt_26 : decode cX2_doubt 26 = .ok (.invokespecial 75, 3) := by decide +kernel
theorem dX2_doubt_29 : decode cX2_doubt 29 = .ok (.athrow, 1) := by decide +kernel
theorem dX2_doubt_30 : decode cX2_doubt 30 = .ok (.aload_n 2, 1) := by decide +kernel
theorem dX2_doubt_31 : decode cX2_doubt 31 = .ok (.aload_n 0, 1) := by decide +kernel
theorem dX2_doubt_32 : decode cX2_doubt 32 = .ok (.getfield 30, 3) := by decide +kernel
theorem dX2_doubt_35 : decode cX2_doubt 35 = .ok (.iconst 3, 1) := by decide +kernel
theorem dX2_doubt_36 : decode cX2_doubt 36 = .ok (.iadd, 1) := by decide +kernel
theorem dX2_doubt_37 : decode cX2_doubt 37 = .ok (.putfield 155, 3) := by decide +kernel
theorem dX2_doubt_40 : decode cX2_doubt 40 = .ok (.aload_n 2, 1) := by decide +kernel
theorem dX2_doubt_41 : decode cX2_doubt 41 = .ok (.getfield 155, 3) := by decide +kernel
theorem dX2_doubt_44 : decode cX2_doubt 44 = .ok (.ireturn, 1) := by decide +kernel
theorem dX2_pass_0 : decode cX2_pass 0 = .ok (.iload_n 1, 1) := by decide +kernel
theorem dX2_pass_1 : decode cX2_pass 1 = .ok (.iconst 1, 1) := by decide +kernel
theorem dX2_pass_2 : decode cX2_pass 2 = .ok (.if_icmp .lt 9, 3) := by decide +kernel
theorem dX2_pass_5 : decode cX2_pass 5 = .ok (.iload_n 1, 1) := by decide +kernel
theorem dX2_pass_6 : decode cX2_pass 6 = .ok (.bipush 40, 2) := by decide +kernel
theorem dX2_pass_8 : decode cX2_pass 8 = .ok (.if_icmp .le 13, 3) := by decide +kernel
theorem dX2_pass_11 : decode cX2_pass 11 = .ok (.new 49, 3) := by decide +kernel
theorem dX2_pass_14 : decode cX2_pass 14 = .ok (.dup, 1) := by decide +kernel
theorem dX2_pass_15 : decode cX2_pass 15 = .ok (.ldc 158, 2) := by decide +kernel
theorem dX2_pass_17 : decode cX2_pass 17 = .ok (.invokespecial 53, 3) := by decide +kernel
theorem dX2_pass_20 : decode cX2_pass 20 = .ok (.athrow, 1) := by decide +kernel
theorem dX2_pass_21 : decode cX2_pass 21 = .ok (.aload_n 0, 1) := by decide +kernel
theorem dX2_pass_22 : decode cX2_pass 22 = .ok (.getfield 30, 3) := by decide +kernel
theorem dX2_pass_25 : decode cX2_pass 25 = .ok (.iload_n 1, 1) := by decide +kernel
theorem dX2_pass_26 : decode cX2_pass 26 = .ok (.iadd, 1) := by decide +kernel
theorem dX2_pass_27 : decode cX2_pass 27 = .ok (.sipush 1000, 3) := by decide +kernel
theorem dX2_pass_30 : decode cX2_pass 30 = .ok (.if_icmp .le 13, 3) := by decide +kernel
theorem dX2_pass_33 : decode cX2_pass 33 = .ok (.new 71, 3) := by decide +kernel
theorem dX2_pass_36 : decode cX2_pass 36 = .ok (.dup, 1) := by decide +kernel
theorem dX2_pass_37 : decode cX2_pass 37 = .ok (.ldc 160, 2) := by decide +kernel
theorem dX2_pass_39 : decode cX2_pass 39 = .ok (.invokespecial 75, 3) := by decide +kernel
theorem dX2_pass_42 : decode cX2_pass 42 = .ok (.athrow, 1) := by decide +kernel
theorem dX2_pass_43 : decode cX2_pass 43 = .ok (.iconst 0, 1) := by decide +kernel
theorem dX2_pass_44 : decode cX2_pass 44 = .ok (.istore_n 2, 1) := by decide +kernel
theorem dX2_pass_45 : decode cX2_pass 45 = .ok (.iconst 0, 1) := by decide +kernel
theorem dX2_pass_46 : decode cX2_pass 46 = .ok (.istore_n 3, 1) := by decide +kernel
theorem dX2_pass_47 : decode cX2_pass 47 = .ok (.iload_n 3, 1) := by decide +kernel
theorem dX2_pass_48 : decode cX2_pass 48 = .ok (.iload_n 1, 1) := by decide +kernel
theorem dX2_pass_49 : decode cX2_pass 49 = .ok (.if_icmp .ge 16, 3) := by decide +kernel
theorem dX2_pass_52 : decode cX2_pass 52 = .ok (.iload_n 2, 1) := by decide +kernel
theorem dX2_pass_53 : decode cX2_pass 53 = .ok (.aload_n 0, 1) := by decide +kernel
theorem dX2_pass_54 : decode cX2_pass 54 = .ok (.invokevirtual 162, 3) := by decide +kernel
theorem dX2_pass_57 : decode cX2_pass 57 = .ok (.iadd, 1) := by decide +kernel
theorem dX2_pass_58 : decode cX2_pass 58 = .ok (.istore_n 2, 1) := by decide +kernel
theorem dX2_pass_59 : decode cX2_pass 59 = .ok (.iinc 3 1, 3) := by decide +kernel
theorem dX2_pass_62 : decode cX2_pass 62 = .ok (.goto (-15), 3) := by decide +kernel
theorem dX2_pass_65 : decode cX2_pass 65 = .ok (.iload_n 2, 1) := by decide +kernel
theorem dX2_pass_66 : decode cX2_pass 66 = .ok (.ireturn, 1) := by decide +kernel
theorem dX2_day_0 : decode cX2_day 0 = .ok (.aload_n 0, 1) := by decide +kernel
theorem dX2_day_1 : decode cX2_day 1 = .ok (.getfield 30, 3) := by decide +kernel
theorem dX2_day_4 : decode cX2_day 4 = .ok (.ireturn, 1) := by decide +kernel
theorem dX2_things_0 : decode cX2_things 0 = .ok (.aload_n 0, 1) := by decide +kernel
theorem dX2_things_1 : decode cX2_things 1 = .ok (.getfield 19, 3) := by decide +kernel
theorem dX2_things_4 : decode cX2_things 4 = .ok (.invokevirtual 63, 3) := by decide +kernel
theorem dX2_things_7 : decode cX2_things 7 = .ok (.ireturn, 1) := by decide +kernel
theorem dX2_where_0 : decode cX2_where 0 = .ok (.aload_n 0, 1) := by decide +kernel
theorem dX2_where_1 : decode cX2_where 1 = .ok (.iload_n 1, 1) := by decide +kernel
theorem dX2_where_2 : decode cX2_where 2 = .ok (.invokevirtual 85, 3) := by decide +kernel
theorem dX2_where_5 : decode cX2_where 5 = .ok (.getfield 107, 3) := by decide +kernel
theorem dX2_where_8 : decode cX2_where 8 = .ok (.ireturn, 1) := by decide +kernel
theorem dX2_whereOn_0 : decode cX2_whereOn 0 = .ok (.aload_n 0, 1) := by decide +kernel
theorem dX2_whereOn_1 : decode cX2_whereOn 1 = .ok (.iload_n 1, 1) := by decide +kernel
theorem dX2_whereOn_2 : decode cX2_whereOn 2 = .ok (.invokevirtual 85, 3) := by decide +kernel
theorem dX2_whereOn_5 : decode cX2_whereOn 5 = .ok (.astore_n 3, 1) := by decide +kernel
theorem dX2_whereOn_6 : decode cX2_whereOn 6 = .ok (.iload_n 2, 1) := by decide +kernel
theorem dX2_whereOn_7 : decode cX2_whereOn 7 = .ok (.ifCond .lt 11, 3) := by decide +kernel
theorem dX2_whereOn_10 : decode cX2_whereOn 10 = .ok (.iload_n 2, 1) := by decide +kernel
theorem dX2_whereOn_11 : decode cX2_whereOn 11 = .ok (.aload_n 0, 1) := by decide +kernel
theorem dX2_whereOn_12 : decode cX2_whereOn 12 = .ok (.getfield 30, 3) := by decide +kernel
theorem dX2_whereOn_15 : decode cX2_whereOn 15 = .ok (.if_icmp .le 13, 3) := by decide +kernel
theorem dX2_whereOn_18 : decode cX2_whereOn 18 = .ok (.new 49, 3) := by decide +kernel
theorem dX2_whereOn_21 : decode cX2_whereOn 21 = .ok (.dup, 1) := by decide +kernel
theorem dX2_whereOn_22 : decode cX2_whereOn 22 = .ok (.ldc 165, 2) := by decide +kernel
theorem dX2_whereOn_24 : decode cX2_whereOn 24 = .ok (.invokespecial 53, 3) := by decide +kernel
theorem dX2_whereOn_27 : decode cX2_whereOn 27 = .ok (.athrow, 1) := by decide +kernel
theorem dX2_whereOn_28 : decode cX2_whereOn 28 = .ok (.iload_n 2, 1) := by decide +kernel
theorem dX2_whereOn_29 : decode cX2_whereOn 29 = .ok (.aload_n 0, 1) := by decide +kernel
theorem dX2_whereOn_30 : decode cX2_whereOn 30 = .ok (.getfield 30, 3) := by decide +kernel
theorem dX2_whereOn_33 : decode cX2_whereOn 33 = .ok (.if_icmp .ne 10, 3) := by decide +kernel
theorem dX2_whereOn_36 : decode cX2_whereOn 36 = .ok (.aload_n 3, 1) := by decide +kernel
theorem dX2_whereOn_37 : decode cX2_whereOn 37 = .ok (.getfield 107, 3) := by decide +kernel
theorem dX2_whereOn_40 : decode cX2_whereOn 40 = .ok (.goto 8, 3) := by decide +kernel
theorem dX2_whereOn_43 : decode cX2_whereOn 43 = .ok (.aload_n 3, 1) := by decide +kernel
theorem dX2_whereOn_44 : decode cX2_whereOn 44 = .ok (.iload_n 2, 1) := by decide +kernel
theorem dX2_whereOn_45 : decode cX2_whereOn 45 = .ok (.invokevirtual 167, 3) := by decide +kernel
theorem dX2_whereOn_48 : decode cX2_whereOn 48 = .ok (.ireturn, 1) := by decide +kernel
theorem dX2_load_0 : decode cX2_load 0 = .ok (.iload_n 1, 1) := by decide +kernel
theorem dX2_load_1 : decode cX2_load 1 = .ok (.invokestatic 42, 3) := by decide +kernel
theorem dX2_load_4 : decode cX2_load 4 = .ok (.ifCond .ne 13, 3) := by decide +kernel
theorem dX2_load_7 : decode cX2_load 7 = .ok (.new 49, 3) := by decide +kernel
theorem dX2_load_10 : decode cX2_load 10 = .ok (.dup, 1) := by decide +kernel
theorem dX2_load_11 : decode cX2_load 11 = .ok (.ldc 105, 2) := by decide +kernel
theorem dX2_load_13 : decode cX2_load 13 = .ok (.invokespecial 53, 3) := by decide +kernel
theorem dX2_load_16 : decode cX2_load 16 = .ok (.athrow, 1) := by decide +kernel
theorem dX2_load_17 : decode cX2_load 17 = .ok (.aload_n 0, 1) := by decide +kernel
theorem dX2_load_18 : decode cX2_load 18 = .ok (.iload_n 1, 1) := by decide +kernel
theorem dX2_load_19 : decode cX2_load 19 = .ok (.invokevirtual 171, 3) := by decide +kernel
theorem dX2_load_22 : decode cX2_load 22 = .ok (.ireturn, 1) := by decide +kernel
theorem dX2_fees_0 : decode cX2_fees 0 = .ok (.aload_n 0, 1) := by decide +kernel
theorem dX2_fees_1 : decode cX2_fees 1 = .ok (.iload_n 1, 1) := by decide +kernel
theorem dX2_fees_2 : decode cX2_fees 2 = .ok (.invokevirtual 85, 3) := by decide +kernel
theorem dX2_fees_5 : decode cX2_fees 5 = .ok (.getfield 98, 3) := by decide +kernel
theorem dX2_fees_8 : decode cX2_fees 8 = .ok (.ireturn, 1) := by decide +kernel
theorem dX2_loan_0 : decode cX2_loan 0 = .ok (.aload_n 0, 1) := by decide +kernel
theorem dX2_loan_1 : decode cX2_loan 1 = .ok (.iload_n 1, 1) := by decide +kernel
theorem dX2_loan_2 : decode cX2_loan 2 = .ok (.invokevirtual 85, 3) := by decide +kernel
theorem dX2_loan_5 : decode cX2_loan 5 = .ok (.getfield 141, 3) := by decide +kernel
theorem dX2_loan_8 : decode cX2_loan 8 = .ok (.ireturn, 1) := by decide +kernel
theorem dX2_purse_0 : decode cX2_purse 0 = .ok (.iload_n 1, 1) := by decide +kernel
theorem dX2_purse_1 : decode cX2_purse 1 = .ok (.invokestatic 58, 3) := by decide +kernel
theorem dX2_purse_4 : decode cX2_purse 4 = .ok (.ifCond .ne 13, 3) := by decide +kernel
theorem dX2_purse_7 : decode cX2_purse 7 = .ok (.new 49, 3) := by decide +kernel
theorem dX2_purse_10 : decode cX2_purse 10 = .ok (.dup, 1) := by decide +kernel
theorem dX2_purse_11 : decode cX2_purse 11 = .ok (.ldc 174, 2) := by decide +kernel
theorem dX2_purse_13 : decode cX2_purse 13 = .ok (.invokespecial 53, 3) := by decide +kernel
theorem dX2_purse_16 : decode cX2_purse 16 = .ok (.athrow, 1) := by decide +kernel
theorem dX2_purse_17 : decode cX2_purse 17 = .ok (.aload_n 0, 1) := by decide +kernel
theorem dX2_purse_18 : decode cX2_purse 18 = .ok (.getfield 13, 3) := by decide +kernel
theorem dX2_purse_21 : decode cX2_purse 21 = .ok (.iload_n 1, 1) := by decide +kernel
theorem dX2_purse_22 : decode cX2_purse 22 = .ok (.iaload, 1) := by decide +kernel
theorem dX2_purse_23 : decode cX2_purse 23 = .ok (.ireturn, 1) := by decide +kernel
theorem dX2_taken_0 : decode cX2_taken 0 = .ok (.aload_n 0, 1) := by decide +kernel
theorem dX2_taken_1 : decode cX2_taken 1 = .ok (.getfield 33, 3) := by decide +kernel
theorem dX2_taken_4 : decode cX2_taken 4 = .ok (.ireturn, 1) := by decide +kernel
theorem dX2_isCounter_0 : decode cX2_isCounter 0 = .ok (.iload_n 0, 1) := by decide +kernel
theorem dX2_isCounter_1 : decode cX2_isCounter 1 = .ok (.ifCond .lt 12, 3) := by decide +kernel
theorem dX2_isCounter_4 : decode cX2_isCounter 4 = .ok (.iload_n 0, 1) := by decide +kernel
theorem dX2_isCounter_5 : decode cX2_isCounter 5 = .ok (.iconst 5, 1) := by decide +kernel
theorem dX2_isCounter_6 : decode cX2_isCounter 6 = .ok (.if_icmp .ge 7, 3) := by decide +kernel
theorem dX2_isCounter_9 : decode cX2_isCounter 9 = .ok (.iconst 1, 1) := by decide +kernel
theorem dX2_isCounter_10 : decode cX2_isCounter 10 = .ok (.goto 4, 3) := by decide +kernel
theorem dX2_isCounter_13 : decode cX2_isCounter 13 = .ok (.iconst 0, 1) := by decide +kernel
theorem dX2_isCounter_14 : decode cX2_isCounter 14 = .ok (.ireturn, 1) := by decide +kernel
theorem dX2_isPerson_0 : decode cX2_isPerson 0 = .ok (.iload_n 0, 1) := by decide +kernel
theorem dX2_isPerson_1 : decode cX2_isPerson 1 = .ok (.ifCond .lt 13, 3) := by decide +kernel
theorem dX2_isPerson_4 : decode cX2_isPerson 4 = .ok (.iload_n 0, 1) := by decide +kernel
theorem dX2_isPerson_5 : decode cX2_isPerson 5 = .ok (.bipush 8, 2) := by decide +kernel
theorem dX2_isPerson_7 : decode cX2_isPerson 7 = .ok (.if_icmp .ge 7, 3) := by decide +kernel
theorem dX2_isPerson_10 : decode cX2_isPerson 10 = .ok (.iconst 1, 1) := by decide +kernel
theorem dX2_isPerson_11 : decode cX2_isPerson 11 = .ok (.goto 4, 3) := by decide +kernel
theorem dX2_isPerson_14 : decode cX2_isPerson 14 = .ok (.iconst 0, 1) := by decide +kernel
theorem dX2_isPerson_15 : decode cX2_isPerson 15 = .ok (.ireturn, 1) := by decide +kernel
theorem dX2_thingNumbered_0 : decode cX2_thingNumbered 0 = .ok (.iload_n 1, 1) := by decide +kernel
theorem dX2_thingNumbered_1 : decode cX2_thingNumbered 1 = .ok (.ifCond .lt 14, 3) := by decide +kernel
theorem dX2_thingNumbered_4 : decode cX2_thingNumbered 4 = .ok (.iload_n 1, 1) := by decide +kernel
theorem dX2_thingNumbered_5 : decode cX2_thingNumbered 5 = .ok (.aload_n 0, 1) := by decide +kernel
theorem dX2_thingNumbered_6 : decode cX2_thingNumbered 6 = .ok (.getfield 19, 3) := by decide +kernel
theorem dX2_thingNumbered_9 : decode cX2_thingNumbered 9 = .ok (.invokevirtual 63, 3) := by decide +kernel
theorem dX2_thingNumbered_12 : decode cX2_thingNumbered 12 = .ok (.if_icmp .lt 13, 3) := by decide +kernel
theorem dX2_thingNumbered_15 : decode cX2_thingNumbered 15 = .ok (.new 176, 3) := by decide +kernel
theorem dX2_thingNumbered_18 : decode cX2_thingNumbered 18 = .ok (.dup, 1) := by decide +kernel
theorem dX2_thingNumbered_19 : decode cX2_thingNumbered 19 = .ok (.ldc 188, 2) := by decide +kernel
theorem dX2_thingNumbered_21 : decode cX2_thingNumbered 21 = .ok (.invokespecial 180, 3) := by decide +kernel
theorem dX2_thingNumbered_24 : decode cX2_thingNumbered 24 = .ok (.athrow, 1) := by decide +kernel
theorem dX2_thingNumbered_25 : decode cX2_thingNumbered 25 = .ok (.aload_n 0, 1) := by decide +kernel
theorem dX2_thingNumbered_26 : decode cX2_thingNumbered 26 = .ok (.getfield 19, 3) := by decide +kernel
theorem dX2_thingNumbered_29 : decode cX2_thingNumbered 29 = .ok (.iload_n 1, 1) := by decide +kernel
theorem dX2_thingNumbered_30 : decode cX2_thingNumbered 30 = .ok (.invokevirtual 181, 3) := by decide +kernel
theorem dX2_thingNumbered_33 : decode cX2_thingNumbered 33 = .ok (.checkcast 76, 3) := by decide +kernel
theorem dX2_thingNumbered_36 : decode cX2_thingNumbered 36 = .ok (.areturn, 1) := by decide +kernel
theorem dX2_sizesAt_0 : decode cX2_sizesAt 0 = .ok (.iconst 0, 1) := by decide +kernel
theorem dX2_sizesAt_1 : decode cX2_sizesAt 1 = .ok (.istore_n 2, 1) := by decide +kernel
theorem dX2_sizesAt_2 : decode cX2_sizesAt 2 = .ok (.iconst 0, 1) := by decide +kernel
theorem dX2_sizesAt_3 : decode cX2_sizesAt 3 = .ok (.istore_n 3, 1) := by decide +kernel
theorem dX2_sizesAt_4 : decode cX2_sizesAt 4 = .ok (.iload_n 3, 1) := by decide +kernel
theorem dX2_sizesAt_5 : decode cX2_sizesAt 5 = .ok (.aload_n 0, 1) := by decide +kernel
theorem dX2_sizesAt_6 : decode cX2_sizesAt 6 = .ok (.getfield 19, 3) := by decide +kernel
theorem dX2_sizesAt_9 : decode cX2_sizesAt 9 = .ok (.invokevirtual 63, 3) := by decide +kernel
theorem dX2_sizesAt_12 : decode cX2_sizesAt 12 = .ok (.if_icmp .ge 39, 3) := by decide +kernel
theorem dX2_sizesAt_15 : decode cX2_sizesAt 15 = .ok (.aload_n 0, 1) := by decide +kernel
theorem dX2_sizesAt_16 : decode cX2_sizesAt 16 = .ok (.getfield 19, 3) := by decide +kernel
theorem dX2_sizesAt_19 : decode cX2_sizesAt 19 = .ok (.iload_n 3, 1) := by decide +kernel
theorem dX2_sizesAt_20 : decode cX2_sizesAt 20 = .ok (.invokevirtual 181, 3) := by decide +kernel
theorem dX2_sizesAt_23 : decode cX2_sizesAt 23 = .ok (.checkcast 76, 3) := by decide +kernel
theorem dX2_sizesAt_26 : decode cX2_sizesAt 26 = .ok (.astore 4, 2) := by decide +kernel
theorem dX2_sizesAt_28 : decode cX2_sizesAt 28 = .ok (.aload 4, 2) := by decide +kernel
theorem dX2_sizesAt_30 : decode cX2_sizesAt 30 = .ok (.getfield 107, 3) := by decide +kernel
theorem dX2_sizesAt_33 : decode cX2_sizesAt 33 = .ok (.iload_n 1, 1) := by decide +kernel
theorem dX2_sizesAt_34 : decode cX2_sizesAt 34 = .ok (.if_icmp .ne 11, 3) := by decide +kernel
theorem dX2_sizesAt_37 : decode cX2_sizesAt 37 = .ok (.iload_n 2, 1) := by decide +kernel
theorem dX2_sizesAt_38 : decode cX2_sizesAt 38 = .ok (.aload 4, 2) := by decide +kernel
theorem dX2_sizesAt_40 : decode cX2_sizesAt 40 = .ok (.getfield 190, 3) := by decide +kernel
theorem dX2_sizesAt_43 : decode cX2_sizesAt 43 = .ok (.iadd, 1) := by decide +kernel
theorem dX2_sizesAt_44 : decode cX2_sizesAt 44 = .ok (.istore_n 2, 1) := by decide +kernel
theorem dX2_sizesAt_45 : decode cX2_sizesAt 45 = .ok (.iinc 3 1, 3) := by decide +kernel
theorem dX2_sizesAt_48 : decode cX2_sizesAt 48 = .ok (.goto (-44), 3) := by decide +kernel
theorem dX2_sizesAt_51 : decode cX2_sizesAt 51 = .ok (.iload_n 2, 1) := by decide +kernel
theorem dX2_sizesAt_52 : decode cX2_sizesAt 52 = .ok (.ireturn, 1) := by decide +kernel
theorem dX2_hasRoomFor_0 : decode cX2_hasRoomFor 0 = .ok (.iload_n 1, 1) := by decide +kernel
theorem dX2_hasRoomFor_1 : decode cX2_hasRoomFor 1 = .ok (.invokestatic 42, 3) := by decide +kernel
theorem dX2_hasRoomFor_4 : decode cX2_hasRoomFor 4 = .ok (.ifCond .eq 23, 3) := by decide +kernel
theorem dX2_hasRoomFor_7 : decode cX2_hasRoomFor 7 = .ok (.aload_n 0, 1) := by decide +kernel
theorem dX2_hasRoomFor_8 : decode cX2_hasRoomFor 8 = .ok (.iload_n 1, 1) := by decide +kernel
theorem dX2_hasRoomFor_9 : decode cX2_hasRoomFor 9 = .ok (.invokevirtual 171, 3) := by decide +kernel
theorem dX2_hasRoomFor_12 : decode cX2_hasRoomFor 12 = .ok (.iload_n 2, 1) := by decide +kernel
theorem dX2_hasRoomFor_13 : decode cX2_hasRoomFor 13 = .ok (.iadd, 1) := by decide +kernel
theorem dX2_hasRoomFor_14 : decode cX2_hasRoomFor 14 = .ok (.aload_n 0, 1) := by decide +kernel
theorem dX2_hasRoomFor_15 : decode cX2_hasRoomFor 15 = .ok (.getfield 9, 3) := by decide +kernel
theorem dX2_hasRoomFor_18 : decode cX2_hasRoomFor 18 = .ok (.iload_n 1, 1) := by decide +kernel
theorem dX2_hasRoomFor_19 : decode cX2_hasRoomFor 19 = .ok (.iaload, 1) := by decide +kernel
theorem dX2_hasRoomFor_20 : decode cX2_hasRoomFor 20 = .ok (.if_icmp .gt 7, 3) := by decide +kernel
theorem dX2_hasRoomFor_23 : decode cX2_hasRoomFor 23 = .ok (.iconst 1, 1) := by decide +kernel
theorem dX2_hasRoomFor_24 : decode cX2_hasRoomFor 24 = .ok (.goto 4, 3) := by decide +kernel
theorem dX2_hasRoomFor_27 : decode cX2_hasRoomFor 27 = .ok (.iconst 0, 1) := by decide +kernel
theorem dX2_hasRoomFor_28 : decode cX2_hasRoomFor 28 = .ok (.ireturn, 1) := by decide +kernel
theorem dX2_putIntoPurse_0 : decode cX2_putIntoPurse 0 = .ok (.iload_n 1, 1) := by decide +kernel
theorem dX2_putIntoPurse_1 : decode cX2_putIntoPurse 1 = .ok (.invokestatic 58, 3) := by decide +kernel
theorem dX2_putIntoPurse_4 : decode cX2_putIntoPurse 4 = .ok (.ifCond .eq 13, 3) := by decide +kernel
theorem dX2_putIntoPurse_7 : decode cX2_putIntoPurse 7 = .ok (.aload_n 0, 1) := by decide +kernel
theorem dX2_putIntoPurse_8 : decode cX2_putIntoPurse 8 = .ok (.getfield 13, 3) := by decide +kernel
theorem dX2_putIntoPurse_11 : decode cX2_putIntoPurse 11 = .ok (.iload_n 1, 1) := by decide +kernel
theorem dX2_putIntoPurse_12 : decode cX2_putIntoPurse 12 = .ok (.dup2, 1) := by decide +kernel
theorem dX2_putIntoPurse_13 : decode cX2_putIntoPurse 13 = .ok (.iaload, 1) := by decide +kernel
theorem dX2_putIntoPurse_14 : decode cX2_putIntoPurse 14 = .ok (.iload_n 2, 1) := by decide +kernel
theorem dX2_putIntoPurse_15 : decode cX2_putIntoPurse 15 = .ok (.iadd, 1) := by decide +kernel
theorem dX2_putIntoPurse_16 : decode cX2_putIntoPurse 16 = .ok (.iastore, 1) := by decide +kernel
theorem dX2_putIntoPurse_17 : decode cX2_putIntoPurse 17 = .ok (.return_, 1) := by decide +kernel
theorem dX2_dropEndedWishes_0 : decode cX2_dropEndedWishes 0 = .ok (.aload_n 0, 1) := by decide +kernel
theorem dX2_dropEndedWishes_1 : decode cX2_dropEndedWishes 1 = .ok (.getfield 23, 3) := by decide +kernel
theorem dX2_dropEndedWishes_4 : decode cX2_dropEndedWishes 4 = .ok (.invokevirtual 63, 3) := by decide +kernel
theorem dX2_dropEndedWishes_7 : decode cX2_dropEndedWishes 7 = .ok (.iconst 1, 1) := by decide +kernel
theorem dX2_dropEndedWishes_8 : decode cX2_dropEndedWishes 8 = .ok (.isub, 1) := by decide +kernel
theorem dX2_dropEndedWishes_9 : decode cX2_dropEndedWishes 9 = .ok (.istore_n 1, 1) := by decide +kernel
theorem dX2_dropEndedWishes_10 : decode cX2_dropEndedWishes 10 = .ok (.iload_n 1, 1) := by decide +kernel
theorem dX2_dropEndedWishes_11 : decode cX2_dropEndedWishes 11 = .ok (.ifCond .lt 36, 3) := by decide +kernel
theorem dX2_dropEndedWishes_14 : decode cX2_dropEndedWishes 14 = .ok (.aload_n 0, 1) := by decide +kernel
theorem dX2_dropEndedWishes_15 : decode cX2_dropEndedWishes 15 = .ok (.getfield 23, 3) := by decide +kernel
theorem dX2_dropEndedWishes_18 : decode cX2_dropEndedWishes 18 = .ok (.iload_n 1, 1) := by decide +kernel
theorem dX2_dropEndedWishes_19 : decode cX2_dropEndedWishes 19 = .ok (.invokevirtual 181, 3) := by decide +kernel
theorem dX2_dropEndedWishes_22 : decode cX2_dropEndedWishes 22 = .ok (.checkcast 76, 3) := by decide +kernel
theorem dX2_dropEndedWishes_25 : decode cX2_dropEndedWishes 25 = .ok (.getfield 112, 3) := by decide +kernel
theorem dX2_dropEndedWishes_28 : decode cX2_dropEndedWishes 28 = .ok (.iconst (-1), 1) := by decide +kernel
theorem dX2_dropEndedWishes_29 : decode cX2_dropEndedWishes 29 = .ok (.if_icmp .ne 12, 3) := by decide +kernel
theorem dX2_dropEndedWishes_32 : decode cX2_dropEndedWishes 32 = .ok (.aload_n 0, 1) := by decide +kernel
theorem dX2_dropEndedWishes_33 : decode cX2_dropEndedWishes 33 = .ok (.getfield 23, 3) := by decide +kernel
theorem dX2_dropEndedWishes_36 : decode cX2_dropEndedWishes 36 = .ok (.iload_n 1, 1) := by decide +kernel
theorem dX2_dropEndedWishes_37 : decode cX2_dropEndedWishes 37 = .ok (.invokevirtual 192, 3) := by decide +kernel
theorem dX2_dropEndedWishes_40 : decode cX2_dropEndedWishes 40 = .ok (.pop, 1) := by decide +kernel
theorem dX2_dropEndedWishes_41 : decode cX2_dropEndedWishes 41 = .ok (.iinc 1 (-1), 3) := by decide +kernel
theorem dX2_dropEndedWishes_44 : decode cX2_dropEndedWishes 44 = .ok (.goto (-34), 3) := by decide +kernel
theorem dX2_dropEndedWishes_47 : decode cX2_dropEndedWishes 47 = .ok (.return_, 1) := by decide +kernel
theorem dX2_giveAway_0 : decode cX2_giveAway 0 = .ok (.aload_n 0, 1) := by decide +kernel
theorem dX2_giveAway_1 : decode cX2_giveAway 1 = .ok (.dup, 1) := by decide +kernel
theorem dX2_giveAway_2 : decode cX2_giveAway 2 = .ok (.getfield 33, 3) := by decide +kernel
theorem dX2_giveAway_5 : decode cX2_giveAway 5 = .ok (.iload_n 2, 1) := by decide +kernel
theorem dX2_giveAway_6 : decode cX2_giveAway 6 = .ok (.iadd, 1) := by decide +kernel
theorem dX2_giveAway_7 : decode cX2_giveAway 7 = .ok (.putfield 33, 3) := by decide +kernel
theorem dX2_giveAway_10 : decode cX2_giveAway 10 = .ok (.aload_n 1, 1) := by decide +kernel
theorem dX2_giveAway_11 : decode cX2_giveAway 11 = .ok (.iload_n 2, 1) := by decide +kernel
theorem dX2_giveAway_12 : decode cX2_giveAway 12 = .ok (.putfield 98, 3) := by decide +kernel
theorem dX2_giveAway_15 : decode cX2_giveAway 15 = .ok (.aload_n 1, 1) := by decide +kernel
theorem dX2_giveAway_16 : decode cX2_giveAway 16 = .ok (.iconst (-1), 1) := by decide +kernel
theorem dX2_giveAway_17 : decode cX2_giveAway 17 = .ok (.putfield 112, 3) := by decide +kernel
theorem dX2_giveAway_20 : decode cX2_giveAway 20 = .ok (.aload_n 0, 1) := by decide +kernel
theorem dX2_giveAway_21 : decode cX2_giveAway 21 = .ok (.invokevirtual 115, 3) := by decide +kernel
theorem dX2_giveAway_24 : decode cX2_giveAway 24 = .ok (.aload_n 1, 1) := by decide +kernel
theorem dX2_giveAway_25 : decode cX2_giveAway 25 = .ok (.iload_n 3, 1) := by decide +kernel
theorem dX2_giveAway_26 : decode cX2_giveAway 26 = .ok (.aload_n 0, 1) := by decide +kernel
theorem dX2_giveAway_27 : decode cX2_giveAway 27 = .ok (.getfield 30, 3) := by decide +kernel
theorem dX2_giveAway_30 : decode cX2_giveAway 30 = .ok (.invokevirtual 195, 3) := by decide +kernel
theorem dX2_giveAway_33 : decode cX2_giveAway 33 = .ok (.return_, 1) := by decide +kernel
theorem dX2_sell_0 : decode cX2_sell 0 = .ok (.aload_n 1, 1) := by decide +kernel
theorem dX2_sell_1 : decode cX2_sell 1 = .ok (.getfield 141, 3) := by decide +kernel
theorem dX2_sell_4 : decode cX2_sell 4 = .ok (.aload_n 1, 1) := by decide +kernel
theorem dX2_sell_5 : decode cX2_sell 5 = .ok (.getfield 122, 3) := by decide +kernel
theorem dX2_sell_8 : decode cX2_sell 8 = .ok (.invokestatic 198, 3) := by decide +kernel
theorem dX2_sell_11 : decode cX2_sell 11 = .ok (.istore_n 2, 1) := by decide +kernel
theorem dX2_sell_12 : decode cX2_sell 12 = .ok (.aload_n 0, 1) := by decide +kernel
theorem dX2_sell_13 : decode cX2_sell 13 = .ok (.aload_n 1, 1) := by decide +kernel
theorem dX2_sell_14 : decode cX2_sell 14 = .ok (.getfield 144, 3) := by decide +kernel
theorem dX2_sell_17 : decode cX2_sell 17 = .ok (.iload_n 2, 1) := by decide +kernel
theorem dX2_sell_18 : decode cX2_sell 18 = .ok (.invokevirtual 136, 3) := by decide +kernel
theorem dX2_sell_21 : decode cX2_sell 21 = .ok (.aload_n 1, 1) := by decide +kernel
theorem dX2_sell_22 : decode cX2_sell 22 = .ok (.invokevirtual 147, 3) := by decide +kernel
theorem dX2_sell_25 : decode cX2_sell 25 = .ok (.aload_n 1, 1) := by decide +kernel
theorem dX2_sell_26 : decode cX2_sell 26 = .ok (.getfield 122, 3) := by decide +kernel
theorem dX2_sell_29 : decode cX2_sell 29 = .ok (.iload_n 2, 1) := by decide +kernel
theorem dX2_sell_30 : decode cX2_sell 30 = .ok (.isub, 1) := by decide +kernel
theorem dX2_sell_31 : decode cX2_sell 31 = .ok (.istore_n 3, 1) := by decide +kernel
theorem dX2_sell_32 : decode cX2_sell 32 = .ok (.aload_n 1, 1) := by decide +kernel
theorem dX2_sell_33 : decode cX2_sell 33 = .ok (.getfield 98, 3) := by decide +kernel
theorem dX2_sell_36 : decode cX2_sell 36 = .ok (.iload_n 3, 1) := by decide +kernel
theorem dX2_sell_37 : decode cX2_sell 37 = .ok (.invokestatic 198, 3) := by decide +kernel
theorem dX2_sell_40 : decode cX2_sell 40 = .ok (.istore 4, 2) := by decide +kernel
theorem dX2_sell_42 : decode cX2_sell 42 = .ok (.aload_n 0, 1) := by decide +kernel
theorem dX2_sell_43 : decode cX2_sell 43 = .ok (.aload_n 1, 1) := by decide +kernel
theorem dX2_sell_44 : decode cX2_sell 44 = .ok (.getfield 127, 3) := by decide +kernel
theorem dX2_sell_47 : decode cX2_sell 47 = .ok (.iload_n 3, 1) := by decide +kernel
theorem dX2_sell_48 : decode cX2_sell 48 = .ok (.iload 4, 2) := by decide +kernel
theorem dX2_sell_50 : decode cX2_sell 50 = .ok (.isub, 1) := by decide +kernel
theorem dX2_sell_51 : decode cX2_sell 51 = .ok (.invokevirtual 136, 3) := by decide +kernel
theorem dX2_sell_54 : decode cX2_sell 54 = .ok (.aload_n 0, 1) := by decide +kernel
theorem dX2_sell_55 : decode cX2_sell 55 = .ok (.aload_n 1, 1) := by decide +kernel
theorem dX2_sell_56 : decode cX2_sell 56 = .ok (.iload 4, 2) := by decide +kernel
theorem dX2_sell_58 : decode cX2_sell 58 = .ok (.bipush 11, 2) := by decide +kernel
theorem dX2_sell_60 : decode cX2_sell 60 = .ok (.invokevirtual 101, 3) := by decide +kernel
theorem dX2_sell_63 : decode cX2_sell 63 = .ok (.return_, 1) := by decide +kernel
theorem dX2_endDay_0 : decode cX2_endDay 0 = .ok (.aload_n 0, 1) := by decide +kernel
theorem dX2_endDay_1 : decode cX2_endDay 1 = .ok (.invokevirtual 204, 3) := by decide +kernel
theorem dX2_endDay_4 : decode cX2_endDay 4 = .ok (.aload_n 0, 1) := by decide +kernel
theorem dX2_endDay_5 : decode cX2_endDay 5 = .ok (.invokevirtual 207, 3) := by decide +kernel
theorem dX2_endDay_8 : decode cX2_endDay 8 = .ok (.aload_n 0, 1) := by decide +kernel
theorem dX2_endDay_9 : decode cX2_endDay 9 = .ok (.invokevirtual 210, 3) := by decide +kernel
theorem dX2_endDay_12 : decode cX2_endDay 12 = .ok (.iadd, 1) := by decide +kernel
theorem dX2_endDay_13 : decode cX2_endDay 13 = .ok (.istore_n 1, 1) := by decide +kernel
theorem dX2_endDay_14 : decode cX2_endDay 14 = .ok (.aload_n 0, 1) := by decide +kernel
theorem dX2_endDay_15 : decode cX2_endDay 15 = .ok (.invokevirtual 213, 3) := by decide +kernel
theorem dX2_endDay_18 : decode cX2_endDay 18 = .ok (.aload_n 0, 1) := by decide +kernel
theorem dX2_endDay_19 : decode cX2_endDay 19 = .ok (.dup, 1) := by decide +kernel
theorem dX2_endDay_20 : decode cX2_endDay 20 = .ok (.getfield 30, 3) := by decide +kernel
theorem dX2_endDay_23 : decode cX2_endDay 23 = .ok (.iconst 1, 1) := by decide +kernel
theorem dX2_endDay_24 : decode cX2_endDay 24 = .ok (.iadd, 1) := by decide +kernel
theorem dX2_endDay_25 : decode cX2_endDay 25 = .ok (.putfield 30, 3) := by decide +kernel
theorem dX2_endDay_28 : decode cX2_endDay 28 = .ok (.iload_n 1, 1) := by decide +kernel
theorem dX2_endDay_29 : decode cX2_endDay 29 = .ok (.ireturn, 1) := by decide +kernel
theorem dX2_oweFees_0 : decode cX2_oweFees 0 = .ok (.iconst 0, 1) := by decide +kernel
theorem dX2_oweFees_1 : decode cX2_oweFees 1 = .ok (.istore_n 1, 1) := by decide +kernel
theorem dX2_oweFees_2 : decode cX2_oweFees 2 = .ok (.iload_n 1, 1) := by decide +kernel
theorem dX2_oweFees_3 : decode cX2_oweFees 3 = .ok (.aload_n 0, 1) := by decide +kernel
theorem dX2_oweFees_4 : decode cX2_oweFees 4 = .ok (.getfield 19, 3) := by decide +kernel
theorem dX2_oweFees_7 : decode cX2_oweFees 7 = .ok (.invokevirtual 63, 3) := by decide +kernel
theorem dX2_oweFees_10 : decode cX2_oweFees 10 = .ok (.if_icmp .ge 54, 3) := by decide +kernel
theorem dX2_oweFees_13 : decode cX2_oweFees 13 = .ok (.aload_n 0, 1) := by decide +kernel
theorem dX2_oweFees_14 : decode cX2_oweFees 14 = .ok (.getfield 19, 3) := by decide +kernel
theorem dX2_oweFees_17 : decode cX2_oweFees 17 = .ok (.iload_n 1, 1) := by decide +kernel
theorem dX2_oweFees_18 : decode cX2_oweFees 18 = .ok (.invokevirtual 181, 3) := by decide +kernel
theorem dX2_oweFees_21 : decode cX2_oweFees 21 = .ok (.checkcast 76, 3) := by decide +kernel
theorem dX2_oweFees_24 : decode cX2_oweFees 24 = .ok (.astore_n 2, 1) := by decide +kernel
theorem dX2_oweFees_25 : decode cX2_oweFees 25 = .ok (.aload_n 2, 1) := by decide +kernel
theorem dX2_oweFees_26 : decode cX2_oweFees 26 = .ok (.invokevirtual 89, 3) := by decide +kernel
theorem dX2_oweFees_29 : decode cX2_oweFees 29 = .ok (.ifCond .eq 29, 3) := by decide +kernel
theorem dX2_oweFees_32 : decode cX2_oweFees 32 = .ok (.aload_n 2, 1) := by decide +kernel
theorem dX2_oweFees_33 : decode cX2_oweFees 33 = .ok (.dup, 1) := by decide +kernel
theorem dX2_oweFees_34 : decode cX2_oweFees 34 = .ok (.getfield 98, 3) := by decide +kernel
theorem dX2_oweFees_37 : decode cX2_oweFees 37 = .ok (.aload_n 2, 1) := by decide +kernel
theorem dX2_oweFees_38 : decode cX2_oweFees 38 = .ok (.getfield 190, 3) := by decide +kernel
theorem dX2_oweFees_41 : decode cX2_oweFees 41 = .ok (.aload_n 2, 1) := by decide +kernel
theorem dX2_oweFees_42 : decode cX2_oweFees 42 = .ok (.invokevirtual 93, 3) := by decide +kernel
theorem dX2_oweFees_45 : decode cX2_oweFees 45 = .ok (.ifCond .eq 7, 3) := by decide +kernel
theorem dX2_oweFees_48 : decode cX2_oweFees 48 = .ok (.iconst 1, 1) := by decide +kernel
theorem dX2_oweFees_49 : decode cX2_oweFees 49 = .ok (.goto 4, 3) := by decide +kernel
theorem dX2_oweFees_52 : decode cX2_oweFees 52 = .ok (.iconst 2, 1) := by decide +kernel
theorem dX2_oweFees_53 : decode cX2_oweFees 53 = .ok (.imul, 1) := by decide +kernel
theorem dX2_oweFees_54 : decode cX2_oweFees 54 = .ok (.iadd, 1) := by decide +kernel
theorem dX2_oweFees_55 : decode cX2_oweFees 55 = .ok (.putfield 98, 3) := by decide +kernel
theorem dX2_oweFees_58 : decode cX2_oweFees 58 = .ok (.iinc 1 1, 3) := by decide +kernel
theorem dX2_oweFees_61 : decode cX2_oweFees 61 = .ok (.goto (-59), 3) := by decide +kernel
theorem dX2_oweFees_64 : decode cX2_oweFees 64 = .ok (.return_, 1) := by decide +kernel
theorem dX2_sellCalled_0 : decode cX2_sellCalled 0 = .ok (.iconst 0, 1) := by decide +kernel
theorem dX2_sellCalled_1 : decode cX2_sellCalled 1 = .ok (.istore_n 1, 1) := by decide +kernel
theorem dX2_sellCalled_2 : decode cX2_sellCalled 2 = .ok (.iconst 0, 1) := by decide +kernel
theorem dX2_sellCalled_3 : decode cX2_sellCalled 3 = .ok (.istore_n 2, 1) := by decide +kernel
theorem dX2_sellCalled_4 : decode cX2_sellCalled 4 = .ok (.iload_n 2, 1) := by decide +kernel
theorem dX2_sellCalled_5 : decode cX2_sellCalled 5 = .ok (.aload_n 0, 1) := by decide +kernel
theorem dX2_sellCalled_6 : decode cX2_sellCalled 6 = .ok (.getfield 19, 3) := by decide +kernel
theorem dX2_sellCalled_9 : decode cX2_sellCalled 9 = .ok (.invokevirtual 63, 3) := by decide +kernel
theorem dX2_sellCalled_12 : decode cX2_sellCalled 12 = .ok (.if_icmp .ge 47, 3) := by decide +kernel
theorem dX2_sellCalled_15 : decode cX2_sellCalled 15 = .ok (.aload_n 0, 1) := by decide +kernel
theorem dX2_sellCalled_16 : decode cX2_sellCalled 16 = .ok (.getfield 19, 3) := by decide +kernel
theorem dX2_sellCalled_19 : decode cX2_sellCalled 19 = .ok (.iload_n 2, 1) := by decide +kernel
theorem dX2_sellCalled_20 : decode cX2_sellCalled 20 = .ok (.invokevirtual 181, 3) := by decide +kernel
theorem dX2_sellCalled_23 : decode cX2_sellCalled 23 = .ok (.checkcast 76, 3) := by decide +kernel
theorem dX2_sellCalled_26 : decode cX2_sellCalled 26 = .ok (.astore_n 3, 1) := by decide +kernel
theorem dX2_sellCalled_27 : decode cX2_sellCalled 27 = .ok (.aload_n 3, 1) := by decide +kernel
theorem dX2_sellCalled_28 : decode cX2_sellCalled 28 = .ok (.invokevirtual 150, 3) := by decide +kernel
theorem dX2_sellCalled_31 : decode cX2_sellCalled 31 = .ok (.ifCond .eq 22, 3) := by decide +kernel
theorem dX2_sellCalled_34 : decode cX2_sellCalled 34 = .ok (.aload_n 3, 1) := by decide +kernel
theorem dX2_sellCalled_35 : decode cX2_sellCalled 35 = .ok (.getfield 155, 3) := by decide +kernel
theorem dX2_sellCalled_38 : decode cX2_sellCalled 38 = .ok (.aload_n 0, 1) := by decide +kernel
theorem dX2_sellCalled_39 : decode cX2_sellCalled 39 = .ok (.getfield 30, 3) := by decide +kernel
theorem dX2_sellCalled_42 : decode cX2_sellCalled 42 = .ok (.if_icmp .gt 11, 3) := by decide +kernel
theorem dX2_sellCalled_45 : decode cX2_sellCalled 45 = .ok (.aload_n 0, 1) := by decide +kernel
theorem dX2_sellCalled_46 : decode cX2_sellCalled 46 = .ok (.aload_n 3, 1) := by decide +kernel
theorem dX2_sellCalled_47 : decode cX2_sellCalled 47 = .ok (.invokevirtual 216, 3) := by decide +kernel
theorem dX2_sellCalled_50 : decode cX2_sellCalled 50 = .ok (.iinc 1 1, 3) := by decide +kernel
theorem dX2_sellCalled_53 : decode cX2_sellCalled 53 = .ok (.iinc 2 1, 3) := by decide +kernel
theorem dX2_sellCalled_56 : decode cX2_sellCalled 56 = .ok (.goto (-52), 3) := by decide +kernel
theorem dX2_sellCalled_59 : decode cX2_sellCalled 59 = .ok (.iload_n 1, 1) := by decide +kernel
theorem dX2_sellCalled_60 : decode cX2_sellCalled 60 = .ok (.ireturn, 1) := by decide +kernel
theorem dX2_sellUnfetched_0 : decode cX2_sellUnfetched 0 = .ok (.iconst 0, 1) := by decide +kernel
theorem dX2_sellUnfetched_1 : decode cX2_sellUnfetched 1 = .ok (.istore_n 1, 1) := by decide +kernel
theorem dX2_sellUnfetched_2 : decode cX2_sellUnfetched 2 = .ok (.iconst 0, 1) := by decide +kernel
theorem dX2_sellUnfetched_3 : decode cX2_sellUnfetched 3 = .ok (.istore_n 2, 1) := by decide +kernel
theorem dX2_sellUnfetched_4 : decode cX2_sellUnfetched 4 = .ok (.iload_n 2, 1) := by decide +kernel
theorem dX2_sellUnfetched_5 : decode cX2_sellUnfetched 5 = .ok (.aload_n 0, 1) := by decide +kernel
theorem dX2_sellUnfetched_6 : decode cX2_sellUnfetched 6 = .ok (.getfield 19, 3) := by decide +kernel
theorem dX2_sellUnfetched_9 : decode cX2_sellUnfetched 9 = .ok (.invokevirtual 63, 3) := by decide +kernel
theorem dX2_sellUnfetched_12 : decode cX2_sellUnfetched 12 = .ok (.if_icmp .ge 63, 3) := by decide +kernel
theorem dX2_sellUnfetched_15 : decode cX2_sellUnfetched 15 = .ok (.aload_n 0, 1) := by decide +kernel
theorem dX2_sellUnfetched_16 : decode cX2_sellUnfetched 16 = .ok (.getfield 19, 3) := by decide +kernel
theorem dX2_sellUnfetched_19 : decode cX2_sellUnfetched 19 = .ok (.iload_n 2, 1) := by decide +kernel
theorem dX2_sellUnfetched_20 : decode cX2_sellUnfetched 20 = .ok (.invokevirtual 181, 3) := by decide +kernel
theorem dX2_sellUnfetched_23 : decode cX2_sellUnfetched 23 = .ok (.checkcast 76, 3) := by decide +kernel
theorem dX2_sellUnfetched_26 : decode cX2_sellUnfetched 26 = .ok (.astore_n 3, 1) := by decide +kernel
theorem dX2_sellUnfetched_27 : decode cX2_sellUnfetched 27 = .ok (.aload_n 0, 1) := by decide +kernel
theorem dX2_sellUnfetched_28 : decode cX2_sellUnfetched 28 = .ok (.getfield 30, 3) := by decide +kernel
theorem dX2_sellUnfetched_31 : decode cX2_sellUnfetched 31 = .ok (.iconst 1, 1) := by decide +kernel
theorem dX2_sellUnfetched_32 : decode cX2_sellUnfetched 32 = .ok (.iadd, 1) := by decide +kernel
theorem dX2_sellUnfetched_33 : decode cX2_sellUnfetched 33 = .ok (.aload_n 3, 1) := by decide +kernel
theorem dX2_sellUnfetched_34 : decode cX2_sellUnfetched 34 = .ok (.getfield 220, 3) := by decide +kernel
theorem dX2_sellUnfetched_37 : decode cX2_sellUnfetched 37 = .ok (.isub, 1) := by decide +kernel
theorem dX2_sellUnfetched_38 : decode cX2_sellUnfetched 38 = .ok (.istore 4, 2) := by decide +kernel
theorem dX2_sellUnfetched_40 : decode cX2_sellUnfetched 40 = .ok (.aload_n 3, 1) := by decide +kernel
theorem dX2_sellUnfetched_41 : decode cX2_sellUnfetched 41 = .ok (.invokevirtual 89, 3) := by decide +kernel
theorem dX2_sellUnfetched_44 : decode cX2_sellUnfetched 44 = .ok (.ifCond .eq 25, 3) := by decide +kernel
theorem dX2_sellUnfetched_47 : decode cX2_sellUnfetched 47 = .ok (.aload_n 3, 1) := by decide +kernel
theorem dX2_sellUnfetched_48 : decode cX2_sellUnfetched 48 = .ok (.invokevirtual 93, 3) := by decide +kernel
theorem dX2_sellUnfetched_51 : decode cX2_sellUnfetched 51 = .ok (.ifCond .ne 18, 3) := by decide +kernel
theorem dX2_sellUnfetched_54 : decode cX2_sellUnfetched 54 = .ok (.iload 4, 2) := by decide +kernel
theorem dX2_sellUnfetched_56 : decode cX2_sellUnfetched 56 = .ok (.bipush 30, 2) := by decide +kernel
theorem dX2_sellUnfetched_58 : decode cX2_sellUnfetched 58 = .ok (.if_icmp .lt 11, 3) := by decide +kernel
theorem dX2_sellUnfetched_61 : decode cX2_sellUnfetched 61 = .ok (.aload_n 0, 1) := by decide +kernel
theorem dX2_sellUnfetched_62 : decode cX2_sellUnfetched 62 = .ok (.aload_n 3, 1) := by decide +kernel
theorem dX2_sellUnfetched_63 : decode cX2_sellUnfetched 63 = .ok (.invokevirtual 216, 3) := by decide +kernel
theorem dX2_sellUnfetched_66 : decode cX2_sellUnfetched 66 = .ok (.iinc 1 1, 3) := by decide +kernel
theorem dX2_sellUnfetched_69 : decode cX2_sellUnfetched 69 = .ok (.iinc 2 1, 3) := by decide +kernel
theorem dX2_sellUnfetched_72 : decode cX2_sellUnfetched 72 = .ok (.goto (-68), 3) := by decide +kernel
theorem dX2_sellUnfetched_75 : decode cX2_sellUnfetched 75 = .ok (.iload_n 1, 1) := by decide +kernel
theorem dX2_sellUnfetched_76 : decode cX2_sellUnfetched 76 = .ok (.ireturn, 1) := by decide +kernel
theorem dX2_driveVan_0 : decode cX2_driveVan 0 = .ok (.aload_n 0, 1) := by decide +kernel
theorem dX2_driveVan_1 : decode cX2_driveVan 1 = .ok (.getfield 26, 3) := by decide +kernel
theorem dX2_driveVan_4 : decode cX2_driveVan 4 = .ok (.istore_n 1, 1) := by decide +kernel
theorem dX2_driveVan_5 : decode cX2_driveVan 5 = .ok (.iconst 0, 1) := by decide +kernel
theorem dX2_driveVan_6 : decode cX2_driveVan 6 = .ok (.istore_n 2, 1) := by decide +kernel
theorem dX2_driveVan_7 : decode cX2_driveVan 7 = .ok (.iload_n 2, 1) := by decide +kernel
theorem dX2_driveVan_8 : decode cX2_driveVan 8 = .ok (.aload_n 0, 1) := by decide +kernel
theorem dX2_driveVan_9 : decode cX2_driveVan 9 = .ok (.getfield 23, 3) := by decide +kernel
theorem dX2_driveVan_12 : decode cX2_driveVan 12 = .ok (.invokevirtual 63, 3) := by decide +kernel
theorem dX2_driveVan_15 : decode cX2_driveVan 15 = .ok (.if_icmp .ge 87, 3) := by decide +kernel
theorem dX2_driveVan_18 : decode cX2_driveVan 18 = .ok (.aload_n 0, 1) := by decide +kernel
theorem dX2_driveVan_19 : decode cX2_driveVan 19 = .ok (.getfield 23, 3) := by decide +kernel
theorem dX2_driveVan_22 : decode cX2_driveVan 22 = .ok (.iload_n 2, 1) := by decide +kernel
theorem dX2_driveVan_23 : decode cX2_driveVan 23 = .ok (.invokevirtual 181, 3) := by decide +kernel
theorem dX2_driveVan_26 : decode cX2_driveVan 26 = .ok (.checkcast 76, 3) := by decide +kernel
theorem dX2_driveVan_29 : decode cX2_driveVan 29 = .ok (.astore_n 3, 1) := by decide +kernel
theorem dX2_driveVan_30 : decode cX2_driveVan 30 = .ok (.aload_n 3, 1) := by decide +kernel
theorem dX2_driveVan_31 : decode cX2_driveVan 31 = .ok (.getfield 190, 3) := by decide +kernel
theorem dX2_driveVan_34 : decode cX2_driveVan 34 = .ok (.iload_n 1, 1) := by decide +kernel
theorem dX2_driveVan_35 : decode cX2_driveVan 35 = .ok (.if_icmp .gt 22, 3) := by decide +kernel
theorem dX2_driveVan_38 : decode cX2_driveVan 38 = .ok (.aload_n 0, 1) := by decide +kernel
theorem dX2_driveVan_39 : decode cX2_driveVan 39 = .ok (.aload_n 3, 1) := by decide +kernel
theorem dX2_driveVan_40 : decode cX2_driveVan 40 = .ok (.getfield 112, 3) := by decide +kernel
theorem dX2_driveVan_43 : decode cX2_driveVan 43 = .ok (.aload_n 3, 1) := by decide +kernel
theorem dX2_driveVan_44 : decode cX2_driveVan 44 = .ok (.getfield 190, 3) := by decide +kernel
theorem dX2_driveVan_47 : decode cX2_driveVan 47 = .ok (.invokevirtual 67, 3) := by decide +kernel
theorem dX2_driveVan_50 : decode cX2_driveVan 50 = .ok (.ifCond .eq 7, 3) := by decide +kernel
theorem dX2_driveVan_53 : decode cX2_driveVan 53 = .ok (.iconst 1, 1) := by decide +kernel
theorem dX2_driveVan_54 : decode cX2_driveVan 54 = .ok (.goto 4, 3) := by decide +kernel
theorem dX2_driveVan_57 : decode cX2_driveVan 57 = .ok (.iconst 0, 1) := by decide +kernel
theorem dX2_driveVan_58 : decode cX2_driveVan 58 = .ok (.istore 4, 2) := by decide +kernel
theorem dX2_driveVan_60 : decode cX2_driveVan 60 = .ok (.iload 4, 2) := by decide +kernel
theorem dX2_driveVan_62 : decode cX2_driveVan 62 = .ok (.ifCond .eq 34, 3) := by decide +kernel
theorem dX2_driveVan_65 : decode cX2_driveVan 65 = .ok (.aload_n 3, 1) := by decide +kernel
theorem dX2_driveVan_66 : decode cX2_driveVan 66 = .ok (.invokevirtual 93, 3) := by decide +kernel
theorem dX2_driveVan_69 : decode cX2_driveVan 69 = .ok (.ifCond .ne 27, 3) := by decide +kernel
theorem dX2_driveVan_72 : decode cX2_driveVan 72 = .ok (.iload_n 1, 1) := by decide +kernel
theorem dX2_driveVan_73 : decode cX2_driveVan 73 = .ok (.aload_n 3, 1) := by decide +kernel
theorem dX2_driveVan_74 : decode cX2_driveVan 74 = .ok (.getfield 190, 3) := by decide +kernel
theorem dX2_driveVan_77 : decode cX2_driveVan 77 = .ok (.isub, 1) := by decide +kernel
theorem dX2_driveVan_78 : decode cX2_driveVan 78 = .ok (.istore_n 1, 1) := by decide +kernel
theorem dX2_driveVan_79 : decode cX2_driveVan 79 = .ok (.aload_n 3, 1) := by decide +kernel
theorem dX2_driveVan_80 : decode cX2_driveVan 80 = .ok (.aload_n 3, 1) := by decide +kernel
theorem dX2_driveVan_81 : decode cX2_driveVan 81 = .ok (.getfield 112, 3) := by decide +kernel
theorem dX2_driveVan_84 : decode cX2_driveVan 84 = .ok (.aload_n 0, 1) := by decide +kernel
theorem dX2_driveVan_85 : decode cX2_driveVan 85 = .ok (.getfield 30, 3) := by decide +kernel
theorem dX2_driveVan_88 : decode cX2_driveVan 88 = .ok (.invokevirtual 195, 3) := by decide +kernel
theorem dX2_driveVan_91 : decode cX2_driveVan 91 = .ok (.aload_n 3, 1) := by decide +kernel
theorem dX2_driveVan_92 : decode cX2_driveVan 92 = .ok (.iconst (-1), 1) := by decide +kernel
theorem dX2_driveVan_93 : decode cX2_driveVan 93 = .ok (.putfield 112, 3) := by decide +kernel
theorem dX2_driveVan_96 : decode cX2_driveVan 96 = .ok (.iinc 2 1, 3) := by decide +kernel
theorem dX2_driveVan_99 : decode cX2_driveVan 99 = .ok (.goto (-92), 3) := by decide +kernel
theorem dX2_driveVan_102 : decode cX2_driveVan 102 = .ok (.aload_n 0, 1) := by decide +kernel
theorem dX2_driveVan_103 : decode cX2_driveVan 103 = .ok (.invokevirtual 115, 3) := by decide +kernel
theorem dX2_driveVan_106 : decode cX2_driveVan 106 = .ok (.return_, 1) := by decide +kernel
end
section
theorem dJ9_max_7cf53_0 : decode cJ9_max_7cf53 0 = .ok (.iload_n 0, 1) := by decide +kernel
theorem dJ9_max_7cf53_1 : decode cJ9_max_7cf53 1 = .ok (.iload_n 1, 1) := by decide +kernel
theorem dJ9_max_7cf53_2 : decode cJ9_max_7cf53 2 = .ok (.if_icmp .lt 7, 3) := by decide +kernel
theorem dJ9_max_7cf53_5 : decode cJ9_max_7cf53 5 = .ok (.iload_n 0, 1) := by decide +kernel
theorem dJ9_max_7cf53_6 : decode cJ9_max_7cf53 6 = .ok (.goto 4, 3) := by decide +kernel
theorem dJ9_max_7cf53_9 : decode cJ9_max_7cf53 9 = .ok (.iload_n 1, 1) := by decide +kernel
theorem dJ9_max_7cf53_10 : decode cJ9_max_7cf53 10 = .ok (.ireturn, 1) := by decide +kernel
theorem dJ9_min_7cf53_0 : decode cJ9_min_7cf53 0 = .ok (.iload_n 0, 1) := by decide +kernel
theorem dJ9_min_7cf53_1 : decode cJ9_min_7cf53 1 = .ok (.iload_n 1, 1) := by decide +kernel
theorem dJ9_min_7cf53_2 : decode cJ9_min_7cf53 2 = .ok (.if_icmp .gt 7, 3) := by decide +kernel
theorem dJ9_min_7cf53_5 : decode cJ9_min_7cf53 5 = .ok (.iload_n 0, 1) := by decide +kernel
theorem dJ9_min_7cf53_6 : decode cJ9_min_7cf53 6 = .ok (.goto 4, 3) := by decide +kernel
theorem dJ9_min_7cf53_9 : decode cJ9_min_7cf53 9 = .ok (.iload_n 1, 1) := by decide +kernel
theorem dJ9_min_7cf53_10 : decode cJ9_min_7cf53 10 = .ok (.ireturn, 1) := by decide +kernel
theorem dJxa1e45_init_da8c8_0 : decode cJxa1e45_init_da8c8 0 = .ok (.aload_n 0, 1) := by decide +kernel
theorem dJxa1e45_init_da8c8_1 : decode cJxa1e45_init_da8c8 1 = .ok (.invokespecial 1, 3) := by decide +kernel
theorem dJxa1e45_init_da8c8_4 : decode cJxa1e45_init_da8c8 4 = .ok (.return_, 1) := by decide +kernel
theorem dJxc12de_init_da8c8_0 : decode cJxc12de_init_da8c8 0 = .ok (.aload_n 0, 1) := by decide +kernel
theorem dJxc12de_init_da8c8_1 : decode cJxc12de_init_da8c8 1 = .ok (.invokespecial 1, 3) := by decide +kernel
theorem dJxc12de_init_da8c8_4 : decode cJxc12de_init_da8c8 4 = .ok (.aload_n 0, 1) := by decide +kernel
theorem dJxc12de_init_da8c8_5 : decode cJxc12de_init_da8c8 5 = .ok (.iconst 0, 1) := by decide +kernel
theorem dJxc12de_init_da8c8_6 : decode cJxc12de_init_da8c8 6 = .ok (.putfield 7, 3) := by decide +kernel
theorem dJxc12de_init_da8c8_9 : decode cJxc12de_init_da8c8 9 = .ok (.return_, 1) := by decide +kernel
theorem dJx4a65c_init_da8c8_0 : decode cJx4a65c_init_da8c8 0 = .ok (.aload_n 0, 1) := by decide +kernel
theorem dJx4a65c_init_da8c8_1 : decode cJx4a65c_init_da8c8 1 = .ok (.invokespecial 1, 3) := by decide +kernel
theorem dJx4a65c_init_da8c8_4 : decode cJx4a65c_init_da8c8 4 = .ok (.aload_n 0, 1) := by decide +kernel
theorem dJx4a65c_init_da8c8_5 : decode cJx4a65c_init_da8c8 5 = .ok (.getstatic 39, 3) := by decide +kernel
theorem dJx4a65c_init_da8c8_8 : decode cJx4a65c_init_da8c8 8 = .ok (.putfield 9, 3) := by decide +kernel
theorem dJx4a65c_init_da8c8_11 : decode cJx4a65c_init_da8c8 11 = .ok (.return_, 1) := by decide +kernel
theorem dJx4a65c_grow_92f84_0 : decode cJx4a65c_grow_92f84 0 = .ok (.aload_n 0, 1) := by decide +kernel
theorem dJx4a65c_grow_92f84_1 : decode cJx4a65c_grow_92f84 1 = .ok (.getfield 9, 3) := by decide +kernel
theorem dJx4a65c_grow_92f84_4 : decode cJx4a65c_grow_92f84 4 = .ok (.arraylength, 1) := by decide +kernel
theorem dJx4a65c_grow_92f84_5 : decode cJx4a65c_grow_92f84 5 = .ok (.istore_n 2, 1) := by decide +kernel
theorem dJx4a65c_grow_92f84_6 : decode cJx4a65c_grow_92f84 6 = .ok (.iload_n 2, 1) := by decide +kernel
theorem dJx4a65c_grow_92f84_7 : decode cJx4a65c_grow_92f84 7 = .ok (.ifCond .gt 13, 3) := by decide +kernel
theorem dJx4a65c_grow_92f84_10 : decode cJx4a65c_grow_92f84 10 = .ok (.aload_n 0, 1) := by decide +kernel
theorem dJx4a65c_grow_92f84_11 : decode cJx4a65c_grow_92f84 11 = .ok (.getfield 9, 3) := by decide +kernel
theorem dJx4a65c_grow_92f84_14 : decode cJx4a65c_grow_92f84 14 = .ok (.getstatic 39, 3) := by decide +kernel
theorem dJx4a65c_grow_92f84_17 : decode cJx4a65c_grow_92f84 17 = .ok (.if_acmp .eq 28, 3) := by decide +kernel
theorem dJx4a65c_grow_92f84_20 : decode cJx4a65c_grow_92f84 20 = .ok (.iload_n 2, 1) := by decide +kernel
theorem dJx4a65c_grow_92f84_21 : decode cJx4a65c_grow_92f84 21 = .ok (.iload_n 1, 1) := by decide +kernel
theorem dJx4a65c_grow_92f84_22 : decode cJx4a65c_grow_92f84 22 = .ok (.iload_n 2, 1) := by decide +kernel
theorem dJx4a65c_grow_92f84_23 : decode cJx4a65c_grow_92f84 23 = .ok (.isub, 1) := by decide +kernel
theorem dJx4a65c_grow_92f84_24 : decode cJx4a65c_grow_92f84 24 = .ok (.iload_n 2, 1) := by decide +kernel
theorem dJx4a65c_grow_92f84_25 : decode cJx4a65c_grow_92f84 25 = .ok (.iconst 1, 1) := by decide +kernel
theorem dJx4a65c_grow_92f84_26 : decode cJx4a65c_grow_92f84 26 = .ok (.ishr, 1) := by decide +kernel
theorem dJx4a65c_grow_92f84_27 : decode cJx4a65c_grow_92f84 27 = .ok (.invokestatic 73, 3) := by decide +kernel
theorem dJx4a65c_grow_92f84_30 : decode cJx4a65c_grow_92f84 30 = .ok (.istore_n 3, 1) := by decide +kernel
theorem dJx4a65c_grow_92f84_31 : decode cJx4a65c_grow_92f84 31 = .ok (.aload_n 0, 1) := by decide +kernel
theorem dJx4a65c_grow_92f84_32 : decode cJx4a65c_grow_92f84 32 = .ok (.aload_n 0, 1) := by decide +kernel
theorem dJx4a65c_grow_92f84_33 : decode cJx4a65c_grow_92f84 33 = .ok (.getfield 9, 3) := by decide +kernel
theorem dJx4a65c_grow_92f84_36 : decode cJx4a65c_grow_92f84 36 = .ok (.iload_n 3, 1) := by decide +kernel
theorem dJx4a65c_grow_92f84_37 : decode cJx4a65c_grow_92f84 37 = .ok (.invokestatic 66, 3) := by decide +kernel
theorem dJx4a65c_grow_92f84_40 : decode cJx4a65c_grow_92f84 40 = .ok (.dup_x1, 1) := by decide +kernel
theorem dJx4a65c_grow_92f84_41 : decode cJx4a65c_grow_92f84 41 = .ok (.putfield 9, 3) := by decide +kernel
theorem dJx4a65c_grow_92f84_44 : decode cJx4a65c_grow_92f84 44 = .ok (.areturn, 1) := by decide +kernel
theorem dJx4a65c_grow_92f84_45 : decode cJx4a65c_grow_92f84 45 = .ok (.aload_n 0, 1) := by decide +kernel
theorem dJx4a65c_grow_92f84_46 : decode cJx4a65c_grow_92f84 46 = .ok (.bipush 10, 2) := by decide +kernel
theorem dJx4a65c_grow_92f84_48 : decode cJx4a65c_grow_92f84 48 = .ok (.iload_n 1, 1) := by decide +kernel
theorem dJx4a65c_grow_92f84_49 : decode cJx4a65c_grow_92f84 49 = .ok (.invokestatic 79, 3) := by decide +kernel
theorem dJx4a65c_grow_92f84_52 : decode cJx4a65c_grow_92f84 52 = .ok (.anewarray 7, 3) := by decide +kernel
theorem dJx4a65c_grow_92f84_55 : decode cJx4a65c_grow_92f84 55 = .ok (.dup_x1, 1) := by decide +kernel
theorem dJx4a65c_grow_92f84_56 : decode cJx4a65c_grow_92f84 56 = .ok (.putfield 9, 3) := by decide +kernel
theorem dJx4a65c_grow_92f84_59 : decode cJx4a65c_grow_92f84 59 = .ok (.areturn, 1) := by decide +kernel
theorem dJx4a65c_grow_d5877_0 : decode cJx4a65c_grow_d5877 0 = .ok (.aload_n 0, 1) := by decide +kernel
theorem dJx4a65c_grow_d5877_1 : decode cJx4a65c_grow_d5877 1 = .ok (.aload_n 0, 1) := by decide +kernel
theorem dJx4a65c_grow_d5877_2 : decode cJx4a65c_grow_d5877 2 = .ok (.getfield 48, 3) := by decide +kernel
theorem dJx4a65c_grow_d5877_5 : decode cJx4a65c_grow_d5877 5 = .ok (.iconst 1, 1) := by decide +kernel
theorem dJx4a65c_grow_d5877_6 : decode cJx4a65c_grow_d5877 6 = .ok (.iadd, 1) := by decide +kernel
theorem dJx4a65c_grow_d5877_7 : decode cJx4a65c_grow_d5877 7 = .ok (.invokevirtual 69, 3) := by decide +kernel
theorem dJx4a65c_grow_d5877_10 : decode cJx4a65c_grow_d5877 10 = .ok (.areturn, 1) := by decide +kernel
theorem dJx4a65c_size_8abf5_0 : decode cJx4a65c_size_8abf5 0 = .ok (.aload_n 0, 1) := by decide +kernel
theorem dJx4a65c_size_8abf5_1 : decode cJx4a65c_size_8abf5 1 = .ok (.getfield 48, 3) := by decide +kernel
theorem dJx4a65c_size_8abf5_4 : decode cJx4a65c_size_8abf5 4 = .ok (.ireturn, 1) := by decide +kernel
theorem dJx4a65c_elementData_915e3_0 : decode cJx4a65c_elementData_915e3 0 = .ok (.aload_n 0, 1) := by decide +kernel
theorem dJx4a65c_elementData_915e3_1 : decode cJx4a65c_elementData_915e3 1 = .ok (.getfield 9, 3) := by decide +kernel
theorem dJx4a65c_elementData_915e3_4 : decode cJx4a65c_elementData_915e3 4 = .ok (.iload_n 1, 1) := by decide +kernel
theorem dJx4a65c_elementData_915e3_5 : decode cJx4a65c_elementData_915e3 5 = .ok (.aaload, 1) := by decide +kernel
theorem dJx4a65c_elementData_915e3_6 : decode cJx4a65c_elementData_915e3 6 = .ok (.areturn, 1) := by decide +kernel
theorem dJx4a65c_get_915e3_0 : decode cJx4a65c_get_915e3 0 = .ok (.iload_n 1, 1) := by decide +kernel
theorem dJx4a65c_get_915e3_1 : decode cJx4a65c_get_915e3 1 = .ok (.aload_n 0, 1) := by decide +kernel
theorem dJx4a65c_get_915e3_2 : decode cJx4a65c_get_915e3 2 = .ok (.getfield 48, 3) := by decide +kernel
theorem dJx4a65c_get_915e3_5 : decode cJx4a65c_get_915e3 5 = .ok (.invokestatic 118, 3) := by decide +kernel
theorem dJx4a65c_get_915e3_8 : decode cJx4a65c_get_915e3 8 = .ok (.pop, 1) := by decide +kernel
theorem dJx4a65c_get_915e3_9 : decode cJx4a65c_get_915e3 9 = .ok (.aload_n 0, 1) := by decide +kernel
theorem dJx4a65c_get_915e3_10 : decode cJx4a65c_get_915e3 10 = .ok (.iload_n 1, 1) := by decide +kernel
theorem dJx4a65c_get_915e3_11 : decode cJx4a65c_get_915e3 11 = .ok (.invokevirtual 123, 3) := by decide +kernel
theorem dJx4a65c_get_915e3_14 : decode cJx4a65c_get_915e3 14 = .ok (.areturn, 1) := by decide +kernel
theorem dJx4a65c_add_72be8_0 : decode cJx4a65c_add_72be8 0 = .ok (.iload_n 3, 1) := by decide +kernel
theorem dJx4a65c_add_72be8_1 : decode cJx4a65c_add_72be8 1 = .ok (.aload_n 2, 1) := by decide +kernel
theorem dJx4a65c_add_72be8_2 : decode cJx4a65c_add_72be8 2 = .ok (.arraylength, 1) := by decide +kernel
theorem dJx4a65c_add_72be8_3 : decode cJx4a65c_add_72be8 3 = .ok (.if_icmp .ne 8, 3) := by decide +kernel
theorem dJx4a65c_add_72be8_6 : decode cJx4a65c_add_72be8 6 = .ok (.aload_n 0, 1) := by decide +kernel
theorem dJx4a65c_add_72be8_7 : decode cJx4a65c_add_72be8 7 = .ok (.invokevirtual 129, 3) := by decide +kernel
theorem dJx4a65c_add_72be8_10 : decode cJx4a65c_add_72be8 10 = .ok (.astore_n 2, 1) := by decide +kernel
theorem dJx4a65c_add_72be8_11 : decode cJx4a65c_add_72be8 11 = .ok (.aload_n 2, 1) := by decide +kernel
theorem dJx4a65c_add_72be8_12 : decode cJx4a65c_add_72be8 12 = .ok (.iload_n 3, 1) := by decide +kernel
theorem dJx4a65c_add_72be8_13 : decode cJx4a65c_add_72be8 13 = .ok (.aload_n 1, 1) := by decide +kernel
theorem dJx4a65c_add_72be8_14 : decode cJx4a65c_add_72be8 14 = .ok (.aastore, 1) := by decide +kernel
theorem dJx4a65c_add_72be8_15 : decode cJx4a65c_add_72be8 15 = .ok (.aload_n 0, 1) := by decide +kernel
theorem dJx4a65c_add_72be8_16 : decode cJx4a65c_add_72be8 16 = .ok (.iload_n 3, 1) := by decide +kernel
theorem dJx4a65c_add_72be8_17 : decode cJx4a65c_add_72be8 17 = .ok (.iconst 1, 1) := by decide +kernel
theorem dJx4a65c_add_72be8_18 : decode cJx4a65c_add_72be8 18 = .ok (.iadd, 1) := by decide +kernel
theorem dJx4a65c_add_72be8_19 : decode cJx4a65c_add_72be8 19 = .ok (.putfield 48, 3) := by decide +kernel
theorem dJx4a65c_add_72be8_22 : decode cJx4a65c_add_72be8 22 = .ok (.return_, 1) := by decide +kernel
theorem dJx4a65c_add_9ea2d_0 : decode cJx4a65c_add_9ea2d 0 = .ok (.aload_n 0, 1) := by decide +kernel
theorem dJx4a65c_add_9ea2d_1 : decode cJx4a65c_add_9ea2d 1 = .ok (.dup, 1) := by decide +kernel
theorem dJx4a65c_add_9ea2d_2 : decode cJx4a65c_add_9ea2d 2 = .ok (.getfield 63, 3) := by decide +kernel
theorem dJx4a65c_add_9ea2d_5 : decode cJx4a65c_add_9ea2d 5 = .ok (.iconst 1, 1) := by decide +kernel
theorem dJx4a65c_add_9ea2d_6 : decode cJx4a65c_add_9ea2d 6 = .ok (.iadd, 1) := by decide +kernel
theorem dJx4a65c_add_9ea2d_7 : decode cJx4a65c_add_9ea2d 7 = .ok (.putfield 63, 3) := by decide +kernel
theorem dJx4a65c_add_9ea2d_10 : decode cJx4a65c_add_9ea2d 10 = .ok (.aload_n 0, 1) := by decide +kernel
theorem dJx4a65c_add_9ea2d_11 : decode cJx4a65c_add_9ea2d 11 = .ok (.aload_n 1, 1) := by decide +kernel
theorem dJx4a65c_add_9ea2d_12 : decode cJx4a65c_add_9ea2d 12 = .ok (.aload_n 0, 1) := by decide +kernel
theorem dJx4a65c_add_9ea2d_13 : decode cJx4a65c_add_9ea2d 13 = .ok (.getfield 9, 3) := by decide +kernel
theorem dJx4a65c_add_9ea2d_16 : decode cJx4a65c_add_9ea2d 16 = .ok (.aload_n 0, 1) := by decide +kernel
theorem dJx4a65c_add_9ea2d_17 : decode cJx4a65c_add_9ea2d 17 = .ok (.getfield 48, 3) := by decide +kernel
theorem dJx4a65c_add_9ea2d_20 : decode cJx4a65c_add_9ea2d 20 = .ok (.invokevirtual 131, 3) := by decide +kernel
theorem dJx4a65c_add_9ea2d_23 : decode cJx4a65c_add_9ea2d 23 = .ok (.iconst 1, 1) := by decide +kernel
theorem dJx4a65c_add_9ea2d_24 : decode cJx4a65c_add_9ea2d 24 = .ok (.ireturn, 1) := by decide +kernel
theorem dJx4a65c_remove_915e3_0 : decode cJx4a65c_remove_915e3 0 = .ok (.iload_n 1, 1) := by decide +kernel
theorem dJx4a65c_remove_915e3_1 : decode cJx4a65c_remove_915e3 1 = .ok (.aload_n 0, 1) := by decide +kernel
theorem dJx4a65c_remove_915e3_2 : decode cJx4a65c_remove_915e3 2 = .ok (.getfield 48, 3) := by decide +kernel
theorem dJx4a65c_remove_915e3_5 : decode cJx4a65c_remove_915e3 5 = .ok (.invokestatic 118, 3) := by decide +kernel
theorem dJx4a65c_remove_915e3_8 : decode cJx4a65c_remove_915e3 8 = .ok (.pop, 1) := by decide +kernel
theorem dJx4a65c_remove_915e3_9 : decode cJx4a65c_remove_915e3 9 = .ok (.aload_n 0, 1) := by decide +kernel
theorem dJx4a65c_remove_915e3_10 : decode cJx4a65c_remove_915e3 10 = .ok (.getfield 9, 3) := by decide +kernel
theorem dJx4a65c_remove_915e3_13 : decode cJx4a65c_remove_915e3 13 = .ok (.astore_n 2, 1) := by decide +kernel
theorem dJx4a65c_remove_915e3_14 : decode cJx4a65c_remove_915e3 14 = .ok (.aload_n 2, 1) := by decide +kernel
theorem dJx4a65c_remove_915e3_15 : decode cJx4a65c_remove_915e3 15 = .ok (.iload_n 1, 1) := by decide +kernel
theorem dJx4a65c_remove_915e3_16 : decode cJx4a65c_remove_915e3 16 = .ok (.aaload, 1) := by decide +kernel
theorem dJx4a65c_remove_915e3_17 : decode cJx4a65c_remove_915e3 17 = .ok (.astore_n 3, 1) := by decide +kernel
theorem dJx4a65c_remove_915e3_18 : decode cJx4a65c_remove_915e3 18 = .ok (.aload_n 0, 1) := by decide +kernel
theorem dJx4a65c_remove_915e3_19 : decode cJx4a65c_remove_915e3 19 = .ok (.aload_n 2, 1) := by decide +kernel
theorem dJx4a65c_remove_915e3_20 : decode cJx4a65c_remove_915e3 20 = .ok (.iload_n 1, 1) := by decide +kernel
theorem dJx4a65c_remove_915e3_21 : decode cJx4a65c_remove_915e3 21 = .ok (.invokevirtual 144, 3) := by decide +kernel
theorem dJx4a65c_remove_915e3_24 : decode cJx4a65c_remove_915e3 24 = .ok (.aload_n 3, 1) := by decide +kernel
theorem dJx4a65c_remove_915e3_25 : decode cJx4a65c_remove_915e3 25 = .ok (.areturn, 1) := by decide +kernel
theorem dJx4a65c_fastRemove_b59b0_0 : decode cJx4a65c_fastRemove_b59b0 0 = .ok (.aload_n 0, 1) := by decide +kernel
theorem dJx4a65c_fastRemove_b59b0_1 : decode cJx4a65c_fastRemove_b59b0 1 = .ok (.dup, 1) := by decide +kernel
theorem dJx4a65c_fastRemove_b59b0_2 : decode cJx4a65c_fastRemove_b59b0 2 = .ok (.getfield 63, 3) := by decide +kernel
theorem dJx4a65c_fastRemove_b59b0_5 : decode cJx4a65c_fastRemove_b59b0 5 = .ok (.iconst 1, 1) := by decide +kernel
theorem dJx4a65c_fastRemove_b59b0_6 : decode cJx4a65c_fastRemove_b59b0 6 = .ok (.iadd, 1) := by decide +kernel
theorem dJx4a65c_fastRemove_b59b0_7 : decode cJx4a65c_fastRemove_b59b0 7 = .ok (.putfield 63, 3) := by decide +kernel
theorem dJx4a65c_fastRemove_b59b0_10 : decode cJx4a65c_fastRemove_b59b0 10 = .ok (.aload_n 0, 1) := by decide +kernel
theorem dJx4a65c_fastRemove_b59b0_11 : decode cJx4a65c_fastRemove_b59b0 11 = .ok (.getfield 48, 3) := by decide +kernel
theorem dJx4a65c_fastRemove_b59b0_14 : decode cJx4a65c_fastRemove_b59b0 14 = .ok (.iconst 1, 1) := by decide +kernel
theorem dJx4a65c_fastRemove_b59b0_15 : decode cJx4a65c_fastRemove_b59b0 15 = .ok (.isub, 1) := by decide +kernel
theorem dJx4a65c_fastRemove_b59b0_16 : decode cJx4a65c_fastRemove_b59b0 16 = .ok (.dup, 1) := by decide +kernel
theorem dJx4a65c_fastRemove_b59b0_17 : decode cJx4a65c_fastRemove_b59b0 17 = .ok (.istore_n 3, 1) := by decide +kernel
theorem dJx4a65c_fastRemove_b59b0_18 : decode cJx4a65c_fastRemove_b59b0 18 = .ok (.iload_n 2, 1) := by decide +kernel
theorem dJx4a65c_fastRemove_b59b0_19 : decode cJx4a65c_fastRemove_b59b0 19 = .ok (.if_icmp .le 15, 3) := by decide +kernel
theorem dJx4a65c_fastRemove_b59b0_22 : decode cJx4a65c_fastRemove_b59b0 22 = .ok (.aload_n 1, 1) := by decide +kernel
theorem dJx4a65c_fastRemove_b59b0_23 : decode cJx4a65c_fastRemove_b59b0 23 = .ok (.iload_n 2, 1) := by decide +kernel
theorem dJx4a65c_fastRemove_b59b0_24 : decode cJx4a65c_fastRemove_b59b0 24 = .ok (.iconst 1, 1) := by decide +kernel
theorem dJx4a65c_fastRemove_b59b0_25 : decode cJx4a65c_fastRemove_b59b0 25 = .ok (.iadd, 1) := by decide +kernel
theorem dJx4a65c_fastRemove_b59b0_26 : decode cJx4a65c_fastRemove_b59b0 26 = .ok (.aload_n 1, 1) := by decide +kernel
theorem dJx4a65c_fastRemove_b59b0_27 : decode cJx4a65c_fastRemove_b59b0 27 = .ok (.iload_n 2, 1) := by decide +kernel
theorem dJx4a65c_fastRemove_b59b0_28 : decode cJx4a65c_fastRemove_b59b0 28 = .ok (.iload_n 3, 1) := by decide +kernel
theorem dJx4a65c_fastRemove_b59b0_29 : decode cJx4a65c_fastRemove_b59b0 29 = .ok (.iload_n 2, 1) := by decide +kernel
theorem dJx4a65c_fastRemove_b59b0_30 : decode cJx4a65c_fastRemove_b59b0 30 = .ok (.isub, 1) := by decide +kernel
theorem dJx4a65c_fastRemove_b59b0_31 : decode cJx4a65c_fastRemove_b59b0 31 = .ok (.invokestatic 112, 3) := by decide +kernel
theorem dJx4a65c_fastRemove_b59b0_34 : decode cJx4a65c_fastRemove_b59b0 34 = .ok (.aload_n 1, 1) := by decide +kernel
theorem dJx4a65c_fastRemove_b59b0_35 : decode cJx4a65c_fastRemove_b59b0 35 = .ok (.aload_n 0, 1) := by decide +kernel
theorem dJx4a65c_fastRemove_b59b0_36 : decode cJx4a65c_fastRemove_b59b0 36 = .ok (.iload_n 3, 1) := by decide +kernel
theorem dJx4a65c_fastRemove_b59b0_37 : decode cJx4a65c_fastRemove_b59b0 37 = .ok (.dup_x1, 1) := by decide +kernel
theorem dJx4a65c_fastRemove_b59b0_38 : decode cJx4a65c_fastRemove_b59b0 38 = .ok (.putfield 48, 3) := by decide +kernel
theorem dJx4a65c_fastRemove_b59b0_41 : decode cJx4a65c_fastRemove_b59b0 41 = .ok (.aconst_null, 1) := by decide +kernel
theorem dJx4a65c_fastRemove_b59b0_42 : decode cJx4a65c_fastRemove_b59b0 42 = .ok (.aastore, 1) := by decide +kernel
theorem dJx4a65c_fastRemove_b59b0_43 : decode cJx4a65c_fastRemove_b59b0 43 = .ok (.return_, 1) := by decide +kernel
theorem dJ7_fill_53178_0 : decode cJ7_fill_53178 0 = .ok (.iconst 0, 1) := by decide +kernel
theorem dJ7_fill_53178_1 : decode cJ7_fill_53178 1 = .ok (.istore_n 2, 1) := by decide +kernel
theorem dJ7_fill_53178_2 : decode cJ7_fill_53178 2 = .ok (.aload_n 0, 1) := by decide +kernel
theorem dJ7_fill_53178_3 : decode cJ7_fill_53178 3 = .ok (.arraylength, 1) := by decide +kernel
theorem dJ7_fill_53178_4 : decode cJ7_fill_53178 4 = .ok (.istore_n 3, 1) := by decide +kernel
theorem dJ7_fill_53178_5 : decode cJ7_fill_53178 5 = .ok (.iload_n 2, 1) := by decide +kernel
theorem dJ7_fill_53178_6 : decode cJ7_fill_53178 6 = .ok (.iload_n 3, 1) := by decide +kernel
theorem dJ7_fill_53178_7 : decode cJ7_fill_53178 7 = .ok (.if_icmp .ge 13, 3) := by decide +kernel
theorem dJ7_fill_53178_10 : decode cJ7_fill_53178 10 = .ok (.aload_n 0, 1) := by decide +kernel
theorem dJ7_fill_53178_11 : decode cJ7_fill_53178 11 = .ok (.iload_n 2, 1) := by decide +kernel
theorem dJ7_fill_53178_12 : decode cJ7_fill_53178 12 = .ok (.iload_n 1, 1) := by decide +kernel
theorem dJ7_fill_53178_13 : decode cJ7_fill_53178 13 = .ok (.iastore, 1) := by decide +kernel
theorem dJ7_fill_53178_14 : decode cJ7_fill_53178 14 = .ok (.iinc 2 1, 3) := by decide +kernel
theorem dJ7_fill_53178_17 : decode cJ7_fill_53178 17 = .ok (.goto (-12), 3) := by decide +kernel
theorem dJ7_fill_53178_20 : decode cJ7_fill_53178 20 = .ok (.return_, 1) := by decide +kernel
theorem dJ7_copyOf_1904c_0 : decode cJ7_copyOf_1904c 0 = .ok (.aload_n 0, 1) := by decide +kernel
theorem dJ7_copyOf_1904c_1 : decode cJ7_copyOf_1904c 1 = .ok (.iload_n 1, 1) := by decide +kernel
theorem dJ7_copyOf_1904c_2 : decode cJ7_copyOf_1904c 2 = .ok (.aload_n 0, 1) := by decide +kernel
theorem dJ7_copyOf_1904c_3 : decode cJ7_copyOf_1904c 3 = .ok (.invokevirtual 86, 3) := by decide +kernel
theorem dJ7_copyOf_1904c_6 : decode cJ7_copyOf_1904c 6 = .ok (.invokestatic 300, 3) := by decide +kernel
theorem dJ7_copyOf_1904c_9 : decode cJ7_copyOf_1904c 9 = .ok (.areturn, 1) := by decide +kernel
theorem dJ7_copyOf_6403c_0 : decode cJ7_copyOf_6403c 0 = .ok (.aload_n 2, 1) := by decide +kernel
theorem dJ7_copyOf_6403c_1 : decode cJ7_copyOf_6403c 1 = .ok (.ldc 110, 2) := by decide +kernel
theorem dJ7_copyOf_6403c_3 : decode cJ7_copyOf_6403c 3 = .ok (.if_acmp .ne 10, 3) := by decide +kernel
theorem dJ7_copyOf_6403c_6 : decode cJ7_copyOf_6403c 6 = .ok (.iload_n 1, 1) := by decide +kernel
theorem dJ7_copyOf_6403c_7 : decode cJ7_copyOf_6403c 7 = .ok (.anewarray 2, 3) := by decide +kernel
theorem dJ7_copyOf_6403c_10 : decode cJ7_copyOf_6403c 10 = .ok (.goto 14, 3) := by decide +kernel
theorem dJ7_copyOf_6403c_13 : decode cJ7_copyOf_6403c 13 = .ok (.aload_n 2, 1) := by decide +kernel
theorem dJ7_copyOf_6403c_14 : decode cJ7_copyOf_6403c 14 = .ok (.invokevirtual 90, 3) := by decide +kernel
theorem dJ7_copyOf_6403c_17 : decode cJ7_copyOf_6403c 17 = .ok (.iload_n 1, 1) := by decide +kernel
theorem dJ7_copyOf_6403c_18 : decode cJ7_copyOf_6403c 18 = .ok (.invokestatic 95, 3) := by decide +kernel
theorem dJ7_copyOf_6403c_21 : decode cJ7_copyOf_6403c 21 = .ok (.checkcast 110, 3) := by decide +kernel
theorem dJ7_copyOf_6403c_24 : decode cJ7_copyOf_6403c 24 = .ok (.astore_n 3, 1) := by decide +kernel
theorem dJ7_copyOf_6403c_25 : decode cJ7_copyOf_6403c 25 = .ok (.aload_n 0, 1) := by decide +kernel
theorem dJ7_copyOf_6403c_26 : decode cJ7_copyOf_6403c 26 = .ok (.iconst 0, 1) := by decide +kernel
theorem dJ7_copyOf_6403c_27 : decode cJ7_copyOf_6403c 27 = .ok (.aload_n 3, 1) := by decide +kernel
theorem dJ7_copyOf_6403c_28 : decode cJ7_copyOf_6403c 28 = .ok (.iconst 0, 1) := by decide +kernel
theorem dJ7_copyOf_6403c_29 : decode cJ7_copyOf_6403c 29 = .ok (.aload_n 0, 1) := by decide +kernel
theorem dJ7_copyOf_6403c_30 : decode cJ7_copyOf_6403c 30 = .ok (.arraylength, 1) := by decide +kernel
theorem dJ7_copyOf_6403c_31 : decode cJ7_copyOf_6403c 31 = .ok (.iload_n 1, 1) := by decide +kernel
theorem dJ7_copyOf_6403c_32 : decode cJ7_copyOf_6403c 32 = .ok (.invokestatic 304, 3) := by decide +kernel
theorem dJ7_copyOf_6403c_35 : decode cJ7_copyOf_6403c 35 = .ok (.invokestatic 150, 3) := by decide +kernel
theorem dJ7_copyOf_6403c_38 : decode cJ7_copyOf_6403c 38 = .ok (.aload_n 3, 1) := by decide +kernel
theorem dJ7_copyOf_6403c_39 : decode cJ7_copyOf_6403c 39 = .ok (.areturn, 1) := by decide +kernel
theorem dJ15_checkIndex_7cf53_0 : decode cJ15_checkIndex_7cf53 0 = .ok (.iload_n 0, 1) := by decide +kernel
theorem dJ15_checkIndex_7cf53_1 : decode cJ15_checkIndex_7cf53 1 = .ok (.iload_n 1, 1) := by decide +kernel
theorem dJ15_checkIndex_7cf53_2 : decode cJ15_checkIndex_7cf53 2 = .ok (.aconst_null, 1) := by decide +kernel
theorem dJ15_checkIndex_7cf53_3 : decode cJ15_checkIndex_7cf53 3 = .ok (.invokestatic 105, 3) := by decide +kernel
theorem dJ15_checkIndex_7cf53_6 : decode cJ15_checkIndex_7cf53 6 = .ok (.ireturn, 1) := by decide +kernel
theorem dJ8_newLength_cabcc_0 : decode cJ8_newLength_cabcc 0 = .ok (.iload_n 0, 1) := by decide +kernel
theorem dJ8_newLength_cabcc_1 : decode cJ8_newLength_cabcc 1 = .ok (.iload_n 1, 1) := by decide +kernel
theorem dJ8_newLength_cabcc_2 : decode cJ8_newLength_cabcc 2 = .ok (.iload_n 2, 1) := by decide +kernel
theorem dJ8_newLength_cabcc_3 : decode cJ8_newLength_cabcc 3 = .ok (.invokestatic 194, 3) := by decide +kernel
theorem dJ8_newLength_cabcc_6 : decode cJ8_newLength_cabcc 6 = .ok (.iadd, 1) := by decide +kernel
theorem dJ8_newLength_cabcc_7 : decode cJ8_newLength_cabcc 7 = .ok (.istore_n 3, 1) := by decide +kernel
theorem dJ8_newLength_cabcc_8 : decode cJ8_newLength_cabcc 8 = .ok (.iconst 0, 1) := by decide +kernel
theorem dJ8_newLength_cabcc_9 : decode cJ8_newLength_cabcc 9 = .ok (.iload_n 3, 1) := by decide +kernel
theorem dJ8_newLength_cabcc_10 : decode cJ8_newLength_cabcc 10 = .ok (.if_icmp .ge 11, 3) := by decide +kernel
theorem dJ8_newLength_cabcc_13 : decode cJ8_newLength_cabcc 13 = .ok (.iload_n 3, 1) := by decide +kernel
theorem dJ8_newLength_cabcc_14 : decode cJ8_newLength_cabcc 14 = .ok (.ldc 200, 2) := by decide +kernel
theorem dJ8_newLength_cabcc_16 : decode cJ8_newLength_cabcc 16 = .ok (.if_icmp .gt 5, 3) := by decide +kernel
theorem dJ8_newLength_cabcc_19 : decode cJ8_newLength_cabcc 19 = .ok (.iload_n 3, 1) := by decide +kernel
theorem dJ8_newLength_cabcc_20 : decode cJ8_newLength_cabcc 20 = .ok (.ireturn, 1) := by decide +kernel
theorem dJ8_newLength_cabcc_21 : decode cJ8_newLength_cabcc 21 = .ok (.iload_n 0, 1) := by decide +kernel
theorem dJ8_newLength_cabcc_22 : decode cJ8_newLength_cabcc 22 = .ok (.iload_n 1, 1) := by decide +kernel
theorem dJ8_newLength_cabcc_23 : decode cJ8_newLength_cabcc 23 = .ok (.invokestatic 201, 3) := by decide +kernel
theorem dJ8_newLength_cabcc_26 : decode cJ8_newLength_cabcc 26 = .ok (.ireturn, 1) := by decide +kernel
theorem dJ8_hugeLength_7cf53_0 : decode cJ8_hugeLength_7cf53 0 = .ok (.iload_n 0, 1) := by decide +kernel
theorem dJ8_hugeLength_7cf53_1 : decode cJ8_hugeLength_7cf53 1 = .ok (.iload_n 1, 1) := by decide +kernel
theorem dJ8_hugeLength_7cf53_2 : decode cJ8_hugeLength_7cf53 2 = .ok (.iadd, 1) := by decide +kernel
theorem dJ8_hugeLength_7cf53_3 : decode cJ8_hugeLength_7cf53 3 = .ok (.istore_n 2, 1) := by decide +kernel
theorem dJ8_hugeLength_7cf53_4 : decode cJ8_hugeLength_7cf53 4 = .ok (.iload_n 2, 1) := by decide +kernel
theorem dJ8_hugeLength_7cf53_5 : decode cJ8_hugeLength_7cf53 5 = .ok (.ifCond .ge 44, 3) := by decide +kernel
theorem dJ8_hugeLength_7cf53_8 : decode cJ8_hugeLength_7cf53 8 = .ok (.new 204, 3) := by decide +kernel
theorem dJ8_hugeLength_7cf53_11 : decode cJ8_hugeLength_7cf53 11 = .ok (.dup, 1) := by decide +kernel
theorem dJ8_hugeLength_7cf53_12 : decode cJ8_hugeLength_7cf53 12 = .ok (.new 89, 3) := by decide +kernel
theorem dJ8_hugeLength_7cf53_15 : decode cJ8_hugeLength_7cf53 15 = .ok (.dup, 1) := by decide +kernel
theorem dJ8_hugeLength_7cf53_16 : decode cJ8_hugeLength_7cf53 16 = .ok (.invokespecial 91, 3) := by decide +kernel
theorem dJ8_hugeLength_7cf53_19 : decode cJ8_hugeLength_7cf53 19 = .ok (.ldc 206, 2) := by decide +kernel
theorem dJ8_hugeLength_7cf53_21 : decode cJ8_hugeLength_7cf53 21 = .ok (.invokevirtual 94, 3) := by decide +kernel
theorem dJ8_hugeLength_7cf53_24 : decode cJ8_hugeLength_7cf53 24 = .ok (.iload_n 0, 1) := by decide +kernel
theorem dJ8_hugeLength_7cf53_25 : decode cJ8_hugeLength_7cf53 25 = .ok (.invokevirtual 98, 3) := by decide +kernel
theorem dJ8_hugeLength_7cf53_28 : decode cJ8_hugeLength_7cf53 28 = .ok (.ldc 208, 2) := by decide +kernel
theorem dJ8_hugeLength_7cf53_30 : decode cJ8_hugeLength_7cf53 30 = .ok (.invokevirtual 94, 3) := by decide +kernel
theorem dJ8_hugeLength_7cf53_33 : decode cJ8_hugeLength_7cf53 33 = .ok (.iload_n 1, 1) := by decide +kernel
theorem dJ8_hugeLength_7cf53_34 : decode cJ8_hugeLength_7cf53 34 = .ok (.invokevirtual 98, 3) := by decide +kernel
theorem dJ8_hugeLength_7cf53_37 : decode cJ8_hugeLength_7cf53 37 = .ok (.ldc 210, 2) := by decide +kernel
theorem dJ8_hugeLength_7cf53_39 : decode cJ8_hugeLength_7cf53 39 = .ok (.invokevirtual 94, 3) := by decide +kernel
theorem dJ8_hugeLength_7cf53_42 : decode cJ8_hugeLength_7cf53 42 = .ok (.invokevirtual 101, 3) := by decide +kernel
theorem dJ8_hugeLength_7cf53_45 : decode cJ8_hugeLength_7cf53 45 = .ok (.invokespecial 212, 3) := by decide +kernel
theorem dJ8_hugeLength_7cf53_48 : decode cJ8_hugeLength_7cf53 48 = .ok (.athrow, 1) := by decide +kernel
theorem dJ8_hugeLength_7cf53_49 : decode cJ8_hugeLength_7cf53 49 = .ok (.iload_n 2, 1) := by decide +kernel
theorem dJ8_hugeLength_7cf53_50 : decode cJ8_hugeLength_7cf53 50 = .ok (.ldc 200, 2) := by decide +kernel
theorem dJ8_hugeLength_7cf53_52 : decode cJ8_hugeLength_7cf53 52 = .ok (.if_icmp .gt 6, 3) := by decide +kernel
theorem dJ8_hugeLength_7cf53_55 : decode cJ8_hugeLength_7cf53 55 = .ok (.ldc 200, 2) := by decide +kernel
theorem dJ8_hugeLength_7cf53_57 : decode cJ8_hugeLength_7cf53 57 = .ok (.ireturn, 1) := by decide +kernel
theorem dJ8_hugeLength_7cf53_58 : decode cJ8_hugeLength_7cf53 58 = .ok (.iload_n 2, 1) := by decide +kernel
theorem dJ8_hugeLength_7cf53_59 : decode cJ8_hugeLength_7cf53 59 = .ok (.ireturn, 1) := by decide +kernel
theorem dJ3_checkIndex_8e157_0 : decode cJ3_checkIndex_8e157 0 = .ok (.iload_n 0, 1) := by decide +kernel
theorem dJ3_checkIndex_8e157_1 : decode cJ3_checkIndex_8e157 1 = .ok (.ifCond .lt 8, 3) := by decide +kernel
theorem dJ3_checkIndex_8e157_4 : decode cJ3_checkIndex_8e157 4 = .ok (.iload_n 0, 1) := by decide +kernel
theorem dJ3_checkIndex_8e157_5 : decode cJ3_checkIndex_8e157 5 = .ok (.iload_n 1, 1) := by decide +kernel
theorem dJ3_checkIndex_8e157_6 : decode cJ3_checkIndex_8e157 6 = .ok (.if_icmp .lt 10, 3) := by decide +kernel
theorem dJ3_checkIndex_8e157_9 : decode cJ3_checkIndex_8e157 9 = .ok (.aload_n 2, 1) := by decide +kernel
theorem dJ3_checkIndex_8e157_10 : decode cJ3_checkIndex_8e157 10 = .ok (.iload_n 0, 1) := by decide +kernel
theorem dJ3_checkIndex_8e157_11 : decode cJ3_checkIndex_8e157 11 = .ok (.iload_n 1, 1) := by decide +kernel
theorem dJ3_checkIndex_8e157_12 : decode cJ3_checkIndex_8e157 12 = .ok (.invokestatic 95, 3) := by decide +kernel
theorem dJ3_checkIndex_8e157_15 : decode cJ3_checkIndex_8e157 15 = .ok (.athrow, 1) := by decide +kernel
theorem dJ3_checkIndex_8e157_16 : decode cJ3_checkIndex_8e157 16 = .ok (.iload_n 0, 1) := by decide +kernel
theorem dJ3_checkIndex_8e157_17 : decode cJ3_checkIndex_8e157 17 = .ok (.ireturn, 1) := by decide +kernel
end
section
theorem dL_told_0 : decode cL_told 0 = .ok (.iload_n 1, 1) := by decide +kernel
theorem dL_told_1 : decode cL_told 1 = .ok (.aload_n 0, 1) := by decide +kernel
theorem dL_told_2 : decode cL_told 2 = .ok (.arraylength, 1) := by decide +kernel
theorem dL_told_3 : decode cL_told 3 = .ok (.if_icmp .ge 9, 3) := by decide +kernel
theorem dL_told_6 : decode cL_told 6 = .ok (.aload_n 0, 1) := by decide +kernel
theorem dL_told_7 : decode cL_told 7 = .ok (.iload_n 1, 1) := by decide +kernel
theorem dL_told_8 : decode cL_told 8 = .ok (.iaload, 1) := by decide +kernel
theorem dL_told_9 : decode cL_told 9 = .ok (.goto 14, 3) := by decide +kernel
theorem dL_told_12 : decode cL_told 12 = .ok (.ldc 7, 2) := by decide +kernel
theorem dL_told_14 : decode cL_told 14 = .ok (.iload_n 1, 1) := by decide +kernel
theorem dL_told_15 : decode cL_told 15 = .ok (.iconst 5, 1) := by decide +kernel
theorem dL_told_16 : decode cL_told 16 = .ok (.iadd, 1) := by decide +kernel
theorem dL_told_17 : decode cL_told 17 = .ok (.imul, 1) := by decide +kernel
theorem dL_told_18 : decode cL_told 18 = .ok (.iload_n 1, 1) := by decide +kernel
theorem dL_told_19 : decode cL_told 19 = .ok (.bipush 6, 2) := by decide +kernel
theorem dL_told_21 : decode cL_told 21 = .ok (.iadd, 1) := by decide +kernel
theorem dL_told_22 : decode cL_told 22 = .ok (.imul, 1) := by decide +kernel
theorem dL_told_23 : decode cL_told 23 = .ok (.ldc 8, 2) := by decide +kernel
theorem dL_told_25 : decode cL_told 25 = .ok (.iand, 1) := by decide +kernel
theorem dL_told_26 : decode cL_told 26 = .ok (.ireturn, 1) := by decide +kernel
theorem dL_purses_0 : decode cL_purses 0 = .ok (.iconst 0, 1) := by decide +kernel
theorem dL_purses_1 : decode cL_purses 1 = .ok (.istore_n 1, 1) := by decide +kernel
theorem dL_purses_2 : decode cL_purses 2 = .ok (.iconst 0, 1) := by decide +kernel
theorem dL_purses_3 : decode cL_purses 3 = .ok (.istore_n 2, 1) := by decide +kernel
theorem dL_purses_4 : decode cL_purses 4 = .ok (.iload_n 2, 1) := by decide +kernel
theorem dL_purses_5 : decode cL_purses 5 = .ok (.bipush 8, 2) := by decide +kernel
theorem dL_purses_7 : decode cL_purses 7 = .ok (.if_icmp .ge 17, 3) := by decide +kernel
theorem dL_purses_10 : decode cL_purses 10 = .ok (.iload_n 1, 1) := by decide +kernel
theorem dL_purses_11 : decode cL_purses 11 = .ok (.aload_n 0, 1) := by decide +kernel
theorem dL_purses_12 : decode cL_purses 12 = .ok (.iload_n 2, 1) := by decide +kernel
theorem dL_purses_13 : decode cL_purses 13 = .ok (.invokevirtual 9, 3) := by decide +kernel
theorem dL_purses_16 : decode cL_purses 16 = .ok (.iadd, 1) := by decide +kernel
theorem dL_purses_17 : decode cL_purses 17 = .ok (.istore_n 1, 1) := by decide +kernel
theorem dL_purses_18 : decode cL_purses 18 = .ok (.iinc 2 1, 3) := by decide +kernel
theorem dL_purses_21 : decode cL_purses 21 = .ok (.goto (-17), 3) := by decide +kernel
theorem dL_purses_24 : decode cL_purses 24 = .ok (.iload_n 1, 1) := by decide +kernel
theorem dL_purses_25 : decode cL_purses 25 = .ok (.ireturn, 1) := by decide +kernel
theorem dL_does_0 : decode cL_does 0 = .ok (.aload_n 0, 1) := by decide +kernel
theorem dL_does_1 : decode cL_does 1 = .ok (.invokevirtual 15, 3) := by decide +kernel
theorem dL_does_4 : decode cL_does 4 = .ok (.istore 4, 2) := by decide +kernel
theorem dL_does_6 : decode cL_does 6 = .ok (.iload 4, 2) := by decide +kernel
theorem dL_does_8 : decode cL_does 8 = .ok (.ifCond .ne 7, 3) := by decide +kernel
theorem dL_does_11 : decode cL_does 11 = .ok (.iconst (-1), 1) := by decide +kernel
theorem dL_does_12 : decode cL_does 12 = .ok (.goto 10, 3) := by decide +kernel
theorem dL_does_15 : decode cL_does 15 = .ok (.iload_n 2, 1) := by decide +kernel
theorem dL_does_16 : decode cL_does 16 = .ok (.bipush 8, 2) := by decide +kernel
theorem dL_does_18 : decode cL_does 18 = .ok (.idiv, 1) := by decide +kernel
theorem dL_does_19 : decode cL_does 19 = .ok (.iload 4, 2) := by decide +kernel
theorem dL_does_21 : decode cL_does 21 = .ok (.irem, 1) := by decide +kernel
theorem dL_does_22 : decode cL_does 22 = .ok (.istore 5, 2) := by decide +kernel
theorem dL_does_24 : decode cL_does 24 = .ok (.iload 5, 2) := by decide +kernel
theorem dL_does_26 : decode cL_does 26 = .ok (.ifCond .lt 17, 3) := by decide +kernel
theorem dL_does_29 : decode cL_does 29 = .ok (.aload_n 0, 1) := by decide +kernel
theorem dL_does_30 : decode cL_does 30 = .ok (.iload 5, 2) := by decide +kernel
theorem dL_does_32 : decode cL_does 32 = .ok (.invokevirtual 19, 3) := by decide +kernel
theorem dL_does_35 : decode cL_does 35 = .ok (.iconst 5, 1) := by decide +kernel
theorem dL_does_36 : decode cL_does 36 = .ok (.if_icmp .ge 7, 3) := by decide +kernel
theorem dL_does_39 : decode cL_does 39 = .ok (.iconst 1, 1) := by decide +kernel
theorem dL_does_40 : decode cL_does 40 = .ok (.goto 4, 3) := by decide +kernel
theorem dL_does_43 : decode cL_does 43 = .ok (.iconst 0, 1) := by decide +kernel
theorem dL_does_44 : decode cL_does 44 = .ok (.istore 6, 2) := by decide +kernel
theorem dL_does_46 : decode cL_does 46 = .ok (.iload_n 2, 1) := by decide +kernel
theorem dL_does_47 : decode cL_does 47 = .ok (.bipush 8, 2) := by decide +kernel
theorem dL_does_49 : decode cL_does 49 = .ok (.irem, 1) := by decide +kernel
theorem dL_does_50 : decode cL_does 50 = .ok (.tableswitch 308 0 4 #[34, 34, 123, 210, 264], 34) := by decide +kernel
theorem dL_does_84 : decode cL_does 84 = .ok (.iconst 1, 1) := by decide +kernel
theorem dL_does_85 : decode cL_does 85 = .ok (.iload_n 3, 1) := by decide +kernel
theorem dL_does_86 : decode cL_does 86 = .ok (.iconst 3, 1) := by decide +kernel
theorem dL_does_87 : decode cL_does 87 = .ok (.irem, 1) := by decide +kernel
theorem dL_does_88 : decode cL_does 88 = .ok (.iadd, 1) := by decide +kernel
theorem dL_does_89 : decode cL_does 89 = .ok (.istore 7, 2) := by decide +kernel
theorem dL_does_91 : decode cL_does 91 = .ok (.iload_n 3, 1) := by decide +kernel
theorem dL_does_92 : decode cL_does 92 = .ok (.iconst 3, 1) := by decide +kernel
theorem dL_does_93 : decode cL_does 93 = .ok (.idiv, 1) := by decide +kernel
theorem dL_does_94 : decode cL_does 94 = .ok (.iconst 5, 1) := by decide +kernel
theorem dL_does_95 : decode cL_does 95 = .ok (.irem, 1) := by decide +kernel
theorem dL_does_96 : decode cL_does 96 = .ok (.istore 8, 2) := by decide +kernel
theorem dL_does_98 : decode cL_does 98 = .ok (.iload 4, 2) := by decide +kernel
theorem dL_does_100 : decode cL_does 100 = .ok (.bipush 24, 2) := by decide +kernel
theorem dL_does_102 : decode cL_does 102 = .ok (.if_icmp .ge 69, 3) := by decide +kernel
theorem dL_does_105 : decode cL_does 105 = .ok (.aload_n 0, 1) := by decide +kernel
theorem dL_does_106 : decode cL_does 106 = .ok (.iload 8, 2) := by decide +kernel
theorem dL_does_108 : decode cL_does 108 = .ok (.invokevirtual 22, 3) := by decide +kernel
theorem dL_does_111 : decode cL_does 111 = .ok (.iload 7, 2) := by decide +kernel
theorem dL_does_113 : decode cL_does 113 = .ok (.iadd, 1) := by decide +kernel
theorem dL_does_114 : decode cL_does 114 = .ok (.bipush 10, 2) := by decide +kernel
theorem dL_does_116 : decode cL_does 116 = .ok (.if_icmp .gt 55, 3) := by decide +kernel
theorem dL_does_119 : decode cL_does 119 = .ok (.aload_n 1, 1) := by decide +kernel
theorem dL_does_120 : decode cL_does 120 = .ok (.iload 4, 2) := by decide +kernel
theorem dL_does_122 : decode cL_does 122 = .ok (.iload 7, 2) := by decide +kernel
theorem dL_does_124 : decode cL_does 124 = .ok (.iastore, 1) := by decide +kernel
theorem dL_does_125 : decode cL_does 125 = .ok (.aload_n 0, 1) := by decide +kernel
theorem dL_does_126 : decode cL_does 126 = .ok (.iload_n 3, 1) := by decide +kernel
theorem dL_does_127 : decode cL_does 127 = .ok (.bipush 15, 2) := by decide +kernel
theorem dL_does_129 : decode cL_does 129 = .ok (.idiv, 1) := by decide +kernel
theorem dL_does_130 : decode cL_does 130 = .ok (.bipush 8, 2) := by decide +kernel
theorem dL_does_132 : decode cL_does 132 = .ok (.irem, 1) := by decide +kernel
theorem dL_does_133 : decode cL_does 133 = .ok (.iload 7, 2) := by decide +kernel
theorem dL_does_135 : decode cL_does 135 = .ok (.iload 8, 2) := by decide +kernel
theorem dL_does_137 : decode cL_does 137 = .ok (.invokevirtual 25, 3) := by decide +kernel
theorem dL_does_140 : decode cL_does 140 = .ok (.iload 4, 2) := by decide +kernel
theorem dL_does_142 : decode cL_does 142 = .ok (.if_icmp .ne 27, 3) := by decide +kernel
theorem dL_does_145 : decode cL_does 145 = .ok (.aload_n 0, 1) := by decide +kernel
theorem dL_does_146 : decode cL_does 146 = .ok (.iload 4, 2) := by decide +kernel
theorem dL_does_148 : decode cL_does 148 = .ok (.invokevirtual 19, 3) := by decide +kernel
theorem dL_does_151 : decode cL_does 151 = .ok (.iload 8, 2) := by decide +kernel
theorem dL_does_153 : decode cL_does 153 = .ok (.if_icmp .ne 16, 3) := by decide +kernel
theorem dL_does_156 : decode cL_does 156 = .ok (.aload_n 0, 1) := by decide +kernel
theorem dL_does_157 : decode cL_does 157 = .ok (.iload 4, 2) := by decide +kernel
theorem dL_does_159 : decode cL_does 159 = .ok (.invokevirtual 29, 3) := by decide +kernel
theorem dL_does_162 : decode cL_does 162 = .ok (.ifCond .ne 7, 3) := by decide +kernel
theorem dL_does_165 : decode cL_does 165 = .ok (.iconst 1, 1) := by decide +kernel
theorem dL_does_166 : decode cL_does 166 = .ok (.goto 4, 3) := by decide +kernel
theorem dL_does_169 : decode cL_does 169 = .ok (.iconst 0, 1) := by decide +kernel
theorem dL_does_170 : decode cL_does 170 = .ok (.ireturn, 1) := by decide +kernel
theorem dL_does_171 : decode cL_does 171 = .ok (.iconst 1, 1) := by decide +kernel
theorem dL_does_172 : decode cL_does 172 = .ok (.ireturn, 1) := by decide +kernel
theorem dL_does_173 : decode cL_does 173 = .ok (.iload 6, 2) := by decide +kernel
theorem dL_does_175 : decode cL_does 175 = .ok (.ifCond .eq 83, 3) := by decide +kernel
theorem dL_does_178 : decode cL_does 178 = .ok (.aload_n 0, 1) := by decide +kernel
theorem dL_does_179 : decode cL_does 179 = .ok (.iload 5, 2) := by decide +kernel
theorem dL_does_181 : decode cL_does 181 = .ok (.invokevirtual 32, 3) := by decide +kernel
theorem dL_does_184 : decode cL_does 184 = .ok (.ifCond .ne 74, 3) := by decide +kernel
theorem dL_does_187 : decode cL_does 187 = .ok (.iload_n 3, 1) := by decide +kernel
theorem dL_does_188 : decode cL_does 188 = .ok (.iconst 4, 1) := by decide +kernel
theorem dL_does_189 : decode cL_does 189 = .ok (.irem, 1) := by decide +kernel
theorem dL_does_190 : decode cL_does 190 = .ok (.ifCond .ne 68, 3) := by decide +kernel
theorem dL_does_193 : decode cL_does 193 = .ok (.aload_n 0, 1) := by decide +kernel
theorem dL_does_194 : decode cL_does 194 = .ok (.invokevirtual 35, 3) := by decide +kernel
theorem dL_does_197 : decode cL_does 197 = .ok (.istore 9, 2) := by decide +kernel
theorem dL_does_199 : decode cL_does 199 = .ok (.aload_n 0, 1) := by decide +kernel
theorem dL_does_200 : decode cL_does 200 = .ok (.iload 5, 2) := by decide +kernel
theorem dL_does_202 : decode cL_does 202 = .ok (.invokevirtual 29, 3) := by decide +kernel
theorem dL_does_205 : decode cL_does 205 = .ok (.istore 10, 2) := by decide +kernel
theorem dL_does_207 : decode cL_does 207 = .ok (.aload_n 0, 1) := by decide +kernel
theorem dL_does_208 : decode cL_does 208 = .ok (.iload 5, 2) := by decide +kernel
theorem dL_does_210 : decode cL_does 210 = .ok (.invokevirtual 38, 3) := by decide +kernel
theorem dL_does_213 : decode cL_does 213 = .ok (.iload 10, 2) := by decide +kernel
theorem dL_does_215 : decode cL_does 215 = .ok (.if_icmp .ne 41, 3) := by decide +kernel
theorem dL_does_218 : decode cL_does 218 = .ok (.aload_n 0, 1) := by decide +kernel
theorem dL_does_219 : decode cL_does 219 = .ok (.invokevirtual 35, 3) := by decide +kernel
theorem dL_does_222 : decode cL_does 222 = .ok (.iload 9, 2) := by decide +kernel
theorem dL_does_224 : decode cL_does 224 = .ok (.iload 10, 2) := by decide +kernel
theorem dL_does_226 : decode cL_does 226 = .ok (.iadd, 1) := by decide +kernel
theorem dL_does_227 : decode cL_does 227 = .ok (.if_icmp .ne 29, 3) := by decide +kernel
theorem dL_does_230 : decode cL_does 230 = .ok (.aload_n 0, 1) := by decide +kernel
theorem dL_does_231 : decode cL_does 231 = .ok (.iload 5, 2) := by decide +kernel
theorem dL_does_233 : decode cL_does 233 = .ok (.invokevirtual 19, 3) := by decide +kernel
theorem dL_does_236 : decode cL_does 236 = .ok (.bipush 10, 2) := by decide +kernel
theorem dL_does_238 : decode cL_does 238 = .ok (.if_icmp .ne 18, 3) := by decide +kernel
theorem dL_does_241 : decode cL_does 241 = .ok (.aload_n 0, 1) := by decide +kernel
theorem dL_does_242 : decode cL_does 242 = .ok (.iload 5, 2) := by decide +kernel
theorem dL_does_244 : decode cL_does 244 = .ok (.invokevirtual 29, 3) := by decide +kernel
theorem dL_does_247 : decode cL_does 247 = .ok (.iload 10, 2) := by decide +kernel
theorem dL_does_249 : decode cL_does 249 = .ok (.if_icmp .ne 7, 3) := by decide +kernel
theorem dL_does_252 : decode cL_does 252 = .ok (.iconst 1, 1) := by decide +kernel
theorem dL_does_253 : decode cL_does 253 = .ok (.goto 4, 3) := by decide +kernel
theorem dL_does_256 : decode cL_does 256 = .ok (.iconst 0, 1) := by decide +kernel
theorem dL_does_257 : decode cL_does 257 = .ok (.ireturn, 1) := by decide +kernel
theorem dL_does_258 : decode cL_does 258 = .ok (.iconst 1, 1) := by decide +kernel
theorem dL_does_259 : decode cL_does 259 = .ok (.ireturn, 1) := by decide +kernel
theorem dL_does_260 : decode cL_does 260 = .ok (.iload 6, 2) := by decide +kernel
theorem dL_does_262 : decode cL_does 262 = .ok (.ifCond .eq 46, 3) := by decide +kernel
theorem dL_does_265 : decode cL_does 265 = .ok (.aload_n 0, 1) := by decide +kernel
theorem dL_does_266 : decode cL_does 266 = .ok (.iload 5, 2) := by decide +kernel
theorem dL_does_268 : decode cL_does 268 = .ok (.invokevirtual 19, 3) := by decide +kernel
theorem dL_does_271 : decode cL_does 271 = .ok (.iload_n 3, 1) := by decide +kernel
theorem dL_does_272 : decode cL_does 272 = .ok (.iconst 5, 1) := by decide +kernel
theorem dL_does_273 : decode cL_does 273 = .ok (.irem, 1) := by decide +kernel
theorem dL_does_274 : decode cL_does 274 = .ok (.if_icmp .eq 34, 3) := by decide +kernel
theorem dL_does_277 : decode cL_does 277 = .ok (.aload_n 0, 1) := by decide +kernel
theorem dL_does_278 : decode cL_does 278 = .ok (.iload 5, 2) := by decide +kernel
theorem dL_does_280 : decode cL_does 280 = .ok (.iload_n 3, 1) := by decide +kernel
theorem dL_does_281 : decode cL_does 281 = .ok (.iconst 5, 1) := by decide +kernel
theorem dL_does_282 : decode cL_does 282 = .ok (.irem, 1) := by decide +kernel
theorem dL_does_283 : decode cL_does 283 = .ok (.invokevirtual 41, 3) := by decide +kernel
theorem dL_does_286 : decode cL_does 286 = .ok (.ifCond .le 26, 3) := by decide +kernel
theorem dL_does_289 : decode cL_does 289 = .ok (.aload_n 0, 1) := by decide +kernel
theorem dL_does_290 : decode cL_does 290 = .ok (.iload 5, 2) := by decide +kernel
theorem dL_does_292 : decode cL_does 292 = .ok (.invokevirtual 32, 3) := by decide +kernel
theorem dL_does_295 : decode cL_does 295 = .ok (.ifCond .gt 13, 3) := by decide +kernel
theorem dL_does_298 : decode cL_does 298 = .ok (.aload_n 0, 1) := by decide +kernel
theorem dL_does_299 : decode cL_does 299 = .ok (.iload 5, 2) := by decide +kernel
theorem dL_does_301 : decode cL_does 301 = .ok (.invokevirtual 19, 3) := by decide +kernel
theorem dL_does_304 : decode cL_does 304 = .ok (.iconst 5, 1) := by decide +kernel
theorem dL_does_305 : decode cL_does 305 = .ok (.if_icmp .ge 7, 3) := by decide +kernel
theorem dL_does_308 : decode cL_does 308 = .ok (.iconst 1, 1) := by decide +kernel
theorem dL_does_309 : decode cL_does 309 = .ok (.goto 4, 3) := by decide +kernel
theorem dL_does_312 : decode cL_does 312 = .ok (.iconst 0, 1) := by decide +kernel
theorem dL_does_313 : decode cL_does 313 = .ok (.ireturn, 1) := by decide +kernel
theorem dL_does_314 : decode cL_does 314 = .ok (.iload 6, 2) := by decide +kernel
theorem dL_does_316 : decode cL_does 316 = .ok (.ifCond .eq 36, 3) := by decide +kernel
theorem dL_does_319 : decode cL_does 319 = .ok (.aload_n 0, 1) := by decide +kernel
theorem dL_does_320 : decode cL_does 320 = .ok (.iload 5, 2) := by decide +kernel
theorem dL_does_322 : decode cL_does 322 = .ok (.iload_n 3, 1) := by decide +kernel
theorem dL_does_323 : decode cL_does 323 = .ok (.sipush 300, 3) := by decide +kernel
theorem dL_does_326 : decode cL_does 326 = .ok (.irem, 1) := by decide +kernel
theorem dL_does_327 : decode cL_does 327 = .ok (.invokevirtual 45, 3) := by decide +kernel
theorem dL_does_330 : decode cL_does 330 = .ok (.ifCond .lt 26, 3) := by decide +kernel
theorem dL_does_333 : decode cL_does 333 = .ok (.aload_n 0, 1) := by decide +kernel
theorem dL_does_334 : decode cL_does 334 = .ok (.iload 5, 2) := by decide +kernel
theorem dL_does_336 : decode cL_does 336 = .ok (.iload_n 3, 1) := by decide +kernel
theorem dL_does_337 : decode cL_does 337 = .ok (.sipush 300, 3) := by decide +kernel
theorem dL_does_340 : decode cL_does 340 = .ok (.irem, 1) := by decide +kernel
theorem dL_does_341 : decode cL_does 341 = .ok (.invokevirtual 45, 3) := by decide +kernel
theorem dL_does_344 : decode cL_does 344 = .ok (.iload_n 3, 1) := by decide +kernel
theorem dL_does_345 : decode cL_does 345 = .ok (.sipush 300, 3) := by decide +kernel
theorem dL_does_348 : decode cL_does 348 = .ok (.irem, 1) := by decide +kernel
theorem dL_does_349 : decode cL_does 349 = .ok (.if_icmp .ne 7, 3) := by decide +kernel
theorem dL_does_352 : decode cL_does 352 = .ok (.iconst 1, 1) := by decide +kernel
theorem dL_does_353 : decode cL_does 353 = .ok (.goto 4, 3) := by decide +kernel
theorem dL_does_356 : decode cL_does 356 = .ok (.iconst 0, 1) := by decide +kernel
theorem dL_does_357 : decode cL_does 357 = .ok (.ireturn, 1) := by decide +kernel
theorem dL_does_358 : decode cL_does 358 = .ok (.iconst 1, 1) := by decide +kernel
theorem dL_does_359 : decode cL_does 359 = .ok (.ireturn, 1) := by decide +kernel
theorem dL_lends_0 : decode cL_lends 0 = .ok (.aload_n 0, 1) := by decide +kernel
theorem dL_lends_1 : decode cL_lends 1 = .ok (.invokestatic 48, 3) := by decide +kernel
theorem dL_lends_4 : decode cL_lends 4 = .ok (.istore 5, 2) := by decide +kernel
theorem dL_lends_6 : decode cL_lends 6 = .ok (.aload_n 0, 1) := by decide +kernel
theorem dL_lends_7 : decode cL_lends 7 = .ok (.iload_n 2, 1) := by decide +kernel
theorem dL_lends_8 : decode cL_lends 8 = .ok (.invokevirtual 19, 3) := by decide +kernel
theorem dL_lends_11 : decode cL_lends 11 = .ok (.iconst 5, 1) := by decide +kernel
theorem dL_lends_12 : decode cL_lends 12 = .ok (.if_icmp .lt 17, 3) := by decide +kernel
theorem dL_lends_15 : decode cL_lends 15 = .ok (.aload_n 0, 1) := by decide +kernel
theorem dL_lends_16 : decode cL_lends 16 = .ok (.iload_n 2, 1) := by decide +kernel
theorem dL_lends_17 : decode cL_lends 17 = .ok (.invokevirtual 32, 3) := by decide +kernel
theorem dL_lends_20 : decode cL_lends 20 = .ok (.ifCond .ne 7, 3) := by decide +kernel
theorem dL_lends_23 : decode cL_lends 23 = .ok (.iconst 1, 1) := by decide +kernel
theorem dL_lends_24 : decode cL_lends 24 = .ok (.goto 4, 3) := by decide +kernel
theorem dL_lends_27 : decode cL_lends 27 = .ok (.iconst 0, 1) := by decide +kernel
theorem dL_lends_28 : decode cL_lends 28 = .ok (.ireturn, 1) := by decide +kernel
theorem dL_lends_29 : decode cL_lends 29 = .ok (.aload_n 0, 1) := by decide +kernel
theorem dL_lends_30 : decode cL_lends 30 = .ok (.iload_n 2, 1) := by decide +kernel
theorem dL_lends_31 : decode cL_lends 31 = .ok (.invokevirtual 32, 3) := by decide +kernel
theorem dL_lends_34 : decode cL_lends 34 = .ok (.istore 6, 2) := by decide +kernel
theorem dL_lends_36 : decode cL_lends 36 = .ok (.iload 6, 2) := by decide +kernel
theorem dL_lends_38 : decode cL_lends 38 = .ok (.ifCond .le 39, 3) := by decide +kernel
theorem dL_lends_41 : decode cL_lends 41 = .ok (.aload_n 0, 1) := by decide +kernel
theorem dL_lends_42 : decode cL_lends 42 = .ok (.iload_n 2, 1) := by decide +kernel
theorem dL_lends_43 : decode cL_lends 43 = .ok (.invokevirtual 54, 3) := by decide +kernel
theorem dL_lends_46 : decode cL_lends 46 = .ok (.iload 6, 2) := by decide +kernel
theorem dL_lends_48 : decode cL_lends 48 = .ok (.if_icmp .ne 27, 3) := by decide +kernel
theorem dL_lends_51 : decode cL_lends 51 = .ok (.aload_n 0, 1) := by decide +kernel
theorem dL_lends_52 : decode cL_lends 52 = .ok (.iload_n 2, 1) := by decide +kernel
theorem dL_lends_53 : decode cL_lends 53 = .ok (.invokevirtual 32, 3) := by decide +kernel
theorem dL_lends_56 : decode cL_lends 56 = .ok (.ifCond .ne 19, 3) := by decide +kernel
theorem dL_lends_59 : decode cL_lends 59 = .ok (.aload_n 0, 1) := by decide +kernel
theorem dL_lends_60 : decode cL_lends 60 = .ok (.invokestatic 48, 3) := by decide +kernel
theorem dL_lends_63 : decode cL_lends 63 = .ok (.iload 5, 2) := by decide +kernel
theorem dL_lends_65 : decode cL_lends 65 = .ok (.iload 6, 2) := by decide +kernel
theorem dL_lends_67 : decode cL_lends 67 = .ok (.iadd, 1) := by decide +kernel
theorem dL_lends_68 : decode cL_lends 68 = .ok (.if_icmp .ne 7, 3) := by decide +kernel
theorem dL_lends_71 : decode cL_lends 71 = .ok (.iconst 1, 1) := by decide +kernel
theorem dL_lends_72 : decode cL_lends 72 = .ok (.goto 4, 3) := by decide +kernel
theorem dL_lends_75 : decode cL_lends 75 = .ok (.iconst 0, 1) := by decide +kernel
theorem dL_lends_76 : decode cL_lends 76 = .ok (.ireturn, 1) := by decide +kernel
theorem dL_lends_77 : decode cL_lends 77 = .ok (.aload_n 0, 1) := by decide +kernel
theorem dL_lends_78 : decode cL_lends 78 = .ok (.iload_n 2, 1) := by decide +kernel
theorem dL_lends_79 : decode cL_lends 79 = .ok (.bipush 40, 2) := by decide +kernel
theorem dL_lends_81 : decode cL_lends 81 = .ok (.invokevirtual 45, 3) := by decide +kernel
theorem dL_lends_84 : decode cL_lends 84 = .ok (.pop, 1) := by decide +kernel
theorem dL_lends_85 : decode cL_lends 85 = .ok (.aload_n 1, 1) := by decide +kernel
theorem dL_lends_86 : decode cL_lends 86 = .ok (.iload_n 2, 1) := by decide +kernel
theorem dL_lends_87 : decode cL_lends 87 = .ok (.iaload, 1) := by decide +kernel
theorem dL_lends_88 : decode cL_lends 88 = .ok (.istore 7, 2) := by decide +kernel
theorem dL_lends_90 : decode cL_lends 90 = .ok (.iload 7, 2) := by decide +kernel
theorem dL_lends_92 : decode cL_lends 92 = .ok (.iload_n 3, 1) := by decide +kernel
theorem dL_lends_93 : decode cL_lends 93 = .ok (.if_icmp .ne 5, 3) := by decide +kernel
theorem dL_lends_96 : decode cL_lends 96 = .ok (.iconst 1, 1) := by decide +kernel
theorem dL_lends_97 : decode cL_lends 97 = .ok (.ireturn, 1) := by decide +kernel
theorem dL_lends_98 : decode cL_lends 98 = .ok (.aload_n 0, 1) := by decide +kernel
theorem dL_lends_99 : decode cL_lends 99 = .ok (.iload_n 2, 1) := by decide +kernel
theorem dL_lends_100 : decode cL_lends 100 = .ok (.iload_n 3, 1) := by decide +kernel
theorem dL_lends_101 : decode cL_lends 101 = .ok (.iconst 1, 1) := by decide +kernel
theorem dL_lends_102 : decode cL_lends 102 = .ok (.iload 4, 2) := by decide +kernel
theorem dL_lends_104 : decode cL_lends 104 = .ok (.bipush 20, 2) := by decide +kernel
theorem dL_lends_106 : decode cL_lends 106 = .ok (.irem, 1) := by decide +kernel
theorem dL_lends_107 : decode cL_lends 107 = .ok (.iadd, 1) := by decide +kernel
theorem dL_lends_108 : decode cL_lends 108 = .ok (.invokevirtual 57, 3) := by decide +kernel
theorem dL_lends_111 : decode cL_lends 111 = .ok (.iload 4, 2) := by decide +kernel
theorem dL_lends_113 : decode cL_lends 113 = .ok (.iconst 3, 1) := by decide +kernel
theorem dL_lends_114 : decode cL_lends 114 = .ok (.irem, 1) := by decide +kernel
theorem dL_lends_115 : decode cL_lends 115 = .ok (.ifCond .ne 11, 3) := by decide +kernel
theorem dL_lends_118 : decode cL_lends 118 = .ok (.aload_n 0, 1) := by decide +kernel
theorem dL_lends_119 : decode cL_lends 119 = .ok (.iload_n 2, 1) := by decide +kernel
theorem dL_lends_120 : decode cL_lends 120 = .ok (.invokevirtual 61, 3) := by decide +kernel
theorem dL_lends_123 : decode cL_lends 123 = .ok (.goto 9, 3) := by decide +kernel
theorem dL_lends_126 : decode cL_lends 126 = .ok (.aload_n 0, 1) := by decide +kernel
theorem dL_lends_127 : decode cL_lends 127 = .ok (.invokevirtual 64, 3) := by decide +kernel
theorem dL_lends_130 : decode cL_lends 130 = .ok (.iconst 3, 1) := by decide +kernel
theorem dL_lends_131 : decode cL_lends 131 = .ok (.iadd, 1) := by decide +kernel
theorem dL_lends_132 : decode cL_lends 132 = .ok (.istore 8, 2) := by decide +kernel
theorem dL_lends_134 : decode cL_lends 134 = .ok (.aload_n 0, 1) := by decide +kernel
theorem dL_lends_135 : decode cL_lends 135 = .ok (.iload_n 2, 1) := by decide +kernel
theorem dL_lends_136 : decode cL_lends 136 = .ok (.invokevirtual 32, 3) := by decide +kernel
theorem dL_lends_139 : decode cL_lends 139 = .ok (.iconst 1, 1) := by decide +kernel
theorem dL_lends_140 : decode cL_lends 140 = .ok (.iload 4, 2) := by decide +kernel
theorem dL_lends_142 : decode cL_lends 142 = .ok (.bipush 20, 2) := by decide +kernel
theorem dL_lends_144 : decode cL_lends 144 = .ok (.irem, 1) := by decide +kernel
theorem dL_lends_145 : decode cL_lends 145 = .ok (.iadd, 1) := by decide +kernel
theorem dL_lends_146 : decode cL_lends 146 = .ok (.if_icmp .ne 35, 3) := by decide +kernel
theorem dL_lends_149 : decode cL_lends 149 = .ok (.aload_n 0, 1) := by decide +kernel
theorem dL_lends_150 : decode cL_lends 150 = .ok (.invokestatic 48, 3) := by decide +kernel
theorem dL_lends_153 : decode cL_lends 153 = .ok (.iload 5, 2) := by decide +kernel
theorem dL_lends_155 : decode cL_lends 155 = .ok (.iconst 1, 1) := by decide +kernel
theorem dL_lends_156 : decode cL_lends 156 = .ok (.iadd, 1) := by decide +kernel
theorem dL_lends_157 : decode cL_lends 157 = .ok (.iload 4, 2) := by decide +kernel
theorem dL_lends_159 : decode cL_lends 159 = .ok (.bipush 20, 2) := by decide +kernel
theorem dL_lends_161 : decode cL_lends 161 = .ok (.irem, 1) := by decide +kernel
theorem dL_lends_162 : decode cL_lends 162 = .ok (.iadd, 1) := by decide +kernel
theorem dL_lends_163 : decode cL_lends 163 = .ok (.if_icmp .ne 18, 3) := by decide +kernel
theorem dL_lends_166 : decode cL_lends 166 = .ok (.iload 8, 2) := by decide +kernel
theorem dL_lends_168 : decode cL_lends 168 = .ok (.aload_n 0, 1) := by decide +kernel
theorem dL_lends_169 : decode cL_lends 169 = .ok (.invokevirtual 64, 3) := by decide +kernel
theorem dL_lends_172 : decode cL_lends 172 = .ok (.iconst 3, 1) := by decide +kernel
theorem dL_lends_173 : decode cL_lends 173 = .ok (.iadd, 1) := by decide +kernel
theorem dL_lends_174 : decode cL_lends 174 = .ok (.if_icmp .ne 7, 3) := by decide +kernel
theorem dL_lends_177 : decode cL_lends 177 = .ok (.iconst 1, 1) := by decide +kernel
theorem dL_lends_178 : decode cL_lends 178 = .ok (.goto 4, 3) := by decide +kernel
theorem dL_lends_181 : decode cL_lends 181 = .ok (.iconst 0, 1) := by decide +kernel
theorem dL_lends_182 : decode cL_lends 182 = .ok (.ireturn, 1) := by decide +kernel
theorem dL_areSo_0 : decode cL_areSo 0 = .ok (.aload_n 0, 1) := by decide +kernel
theorem dL_areSo_1 : decode cL_areSo 1 = .ok (.invokevirtual 64, 3) := by decide +kernel
theorem dL_areSo_4 : decode cL_areSo 4 = .ok (.istore_n 3, 1) := by decide +kernel
theorem dL_areSo_5 : decode cL_areSo 5 = .ok (.iconst 0, 1) := by decide +kernel
theorem dL_areSo_6 : decode cL_areSo 6 = .ok (.istore 4, 2) := by decide +kernel
theorem dL_areSo_8 : decode cL_areSo 8 = .ok (.iload 4, 2) := by decide +kernel
theorem dL_areSo_10 : decode cL_areSo 10 = .ok (.iconst 5, 1) := by decide +kernel
theorem dL_areSo_11 : decode cL_areSo 11 = .ok (.if_icmp .ge 74, 3) := by decide +kernel
theorem dL_areSo_14 : decode cL_areSo 14 = .ok (.iconst 0, 1) := by decide +kernel
theorem dL_areSo_15 : decode cL_areSo 15 = .ok (.istore 5, 2) := by decide +kernel
theorem dL_areSo_17 : decode cL_areSo 17 = .ok (.iconst 0, 1) := by decide +kernel
theorem dL_areSo_18 : decode cL_areSo 18 = .ok (.istore 6, 2) := by decide +kernel
theorem dL_areSo_20 : decode cL_areSo 20 = .ok (.iload 6, 2) := by decide +kernel
theorem dL_areSo_22 : decode cL_areSo 22 = .ok (.aload_n 0, 1) := by decide +kernel
theorem dL_areSo_23 : decode cL_areSo 23 = .ok (.invokevirtual 15, 3) := by decide +kernel
theorem dL_areSo_26 : decode cL_areSo 26 = .ok (.if_icmp .ge 33, 3) := by decide +kernel
theorem dL_areSo_29 : decode cL_areSo 29 = .ok (.iload 5, 2) := by decide +kernel
theorem dL_areSo_31 : decode cL_areSo 31 = .ok (.aload_n 0, 1) := by decide +kernel
theorem dL_areSo_32 : decode cL_areSo 32 = .ok (.iload 6, 2) := by decide +kernel
theorem dL_areSo_34 : decode cL_areSo 34 = .ok (.invokevirtual 19, 3) := by decide +kernel
theorem dL_areSo_37 : decode cL_areSo 37 = .ok (.iload 4, 2) := by decide +kernel
theorem dL_areSo_39 : decode cL_areSo 39 = .ok (.if_icmp .ne 10, 3) := by decide +kernel
theorem dL_areSo_42 : decode cL_areSo 42 = .ok (.aload_n 1, 1) := by decide +kernel
theorem dL_areSo_43 : decode cL_areSo 43 = .ok (.iload 6, 2) := by decide +kernel
theorem dL_areSo_45 : decode cL_areSo 45 = .ok (.iaload, 1) := by decide +kernel
theorem dL_areSo_46 : decode cL_areSo 46 = .ok (.goto 4, 3) := by decide +kernel
theorem dL_areSo_49 : decode cL_areSo 49 = .ok (.iconst 0, 1) := by decide +kernel
theorem dL_areSo_50 : decode cL_areSo 50 = .ok (.iadd, 1) := by decide +kernel
theorem dL_areSo_51 : decode cL_areSo 51 = .ok (.istore 5, 2) := by decide +kernel
theorem dL_areSo_53 : decode cL_areSo 53 = .ok (.iinc 6 1, 3) := by decide +kernel
theorem dL_areSo_56 : decode cL_areSo 56 = .ok (.goto (-36), 3) := by decide +kernel
theorem dL_areSo_59 : decode cL_areSo 59 = .ok (.iload 5, 2) := by decide +kernel
theorem dL_areSo_61 : decode cL_areSo 61 = .ok (.aload_n 0, 1) := by decide +kernel
theorem dL_areSo_62 : decode cL_areSo 62 = .ok (.iload 4, 2) := by decide +kernel
theorem dL_areSo_64 : decode cL_areSo 64 = .ok (.invokevirtual 22, 3) := by decide +kernel
theorem dL_areSo_67 : decode cL_areSo 67 = .ok (.if_icmp .ne 10, 3) := by decide +kernel
theorem dL_areSo_70 : decode cL_areSo 70 = .ok (.iload 5, 2) := by decide +kernel
theorem dL_areSo_72 : decode cL_areSo 72 = .ok (.bipush 10, 2) := by decide +kernel
theorem dL_areSo_74 : decode cL_areSo 74 = .ok (.if_icmp .le 5, 3) := by decide +kernel
theorem dL_areSo_77 : decode cL_areSo 77 = .ok (.iconst 0, 1) := by decide +kernel
theorem dL_areSo_78 : decode cL_areSo 78 = .ok (.ireturn, 1) := by decide +kernel
theorem dL_areSo_79 : decode cL_areSo 79 = .ok (.iinc 4 1, 3) := by decide +kernel
theorem dL_areSo_82 : decode cL_areSo 82 = .ok (.goto (-74), 3) := by decide +kernel
theorem dL_areSo_85 : decode cL_areSo 85 = .ok (.iconst 1, 1) := by decide +kernel
theorem dL_areSo_86 : decode cL_areSo 86 = .ok (.istore 4, 2) := by decide +kernel
theorem dL_areSo_88 : decode cL_areSo 88 = .ok (.iconst 0, 1) := by decide +kernel
theorem dL_areSo_89 : decode cL_areSo 89 = .ok (.istore 5, 2) := by decide +kernel
theorem dL_areSo_91 : decode cL_areSo 91 = .ok (.iload 5, 2) := by decide +kernel
theorem dL_areSo_93 : decode cL_areSo 93 = .ok (.aload_n 0, 1) := by decide +kernel
theorem dL_areSo_94 : decode cL_areSo 94 = .ok (.invokevirtual 15, 3) := by decide +kernel
theorem dL_areSo_97 : decode cL_areSo 97 = .ok (.if_icmp .ge 96, 3) := by decide +kernel
theorem dL_areSo_100 : decode cL_areSo 100 = .ok (.iload 4, 2) := by decide +kernel
theorem dL_areSo_102 : decode cL_areSo 102 = .ok (.ifCond .eq 91, 3) := by decide +kernel
theorem dL_areSo_105 : decode cL_areSo 105 = .ok (.aload_n 0, 1) := by decide +kernel
theorem dL_areSo_106 : decode cL_areSo 106 = .ok (.iload 5, 2) := by decide +kernel
theorem dL_areSo_108 : decode cL_areSo 108 = .ok (.invokevirtual 19, 3) := by decide +kernel
theorem dL_areSo_111 : decode cL_areSo 111 = .ok (.istore 6, 2) := by decide +kernel
theorem dL_areSo_113 : decode cL_areSo 113 = .ok (.aload_n 0, 1) := by decide +kernel
theorem dL_areSo_114 : decode cL_areSo 114 = .ok (.iload 5, 2) := by decide +kernel
theorem dL_areSo_116 : decode cL_areSo 116 = .ok (.iload_n 3, 1) := by decide +kernel
theorem dL_areSo_117 : decode cL_areSo 117 = .ok (.invokevirtual 67, 3) := by decide +kernel
theorem dL_areSo_120 : decode cL_areSo 120 = .ok (.iload 6, 2) := by decide +kernel
theorem dL_areSo_122 : decode cL_areSo 122 = .ok (.if_icmp .ne 56, 3) := by decide +kernel
theorem dL_areSo_125 : decode cL_areSo 125 = .ok (.aload_n 0, 1) := by decide +kernel
theorem dL_areSo_126 : decode cL_areSo 126 = .ok (.iload 5, 2) := by decide +kernel
theorem dL_areSo_128 : decode cL_areSo 128 = .ok (.invokevirtual 32, 3) := by decide +kernel
theorem dL_areSo_131 : decode cL_areSo 131 = .ok (.ifCond .eq 9, 3) := by decide +kernel
theorem dL_areSo_134 : decode cL_areSo 134 = .ok (.iload 6, 2) := by decide +kernel
theorem dL_areSo_136 : decode cL_areSo 136 = .ok (.iconst 5, 1) := by decide +kernel
theorem dL_areSo_137 : decode cL_areSo 137 = .ok (.if_icmp .ge 41, 3) := by decide +kernel
theorem dL_areSo_140 : decode cL_areSo 140 = .ok (.aload_n 2, 1) := by decide +kernel
theorem dL_areSo_141 : decode cL_areSo 141 = .ok (.iload 5, 2) := by decide +kernel
theorem dL_areSo_143 : decode cL_areSo 143 = .ok (.iaload, 1) := by decide +kernel
theorem dL_areSo_144 : decode cL_areSo 144 = .ok (.bipush 10, 2) := by decide +kernel
theorem dL_areSo_146 : decode cL_areSo 146 = .ok (.if_icmp .lt 12, 3) := by decide +kernel
theorem dL_areSo_149 : decode cL_areSo 149 = .ok (.aload_n 2, 1) := by decide +kernel
theorem dL_areSo_150 : decode cL_areSo 150 = .ok (.iload 5, 2) := by decide +kernel
theorem dL_areSo_152 : decode cL_areSo 152 = .ok (.iaload, 1) := by decide +kernel
theorem dL_areSo_153 : decode cL_areSo 153 = .ok (.iload 6, 2) := by decide +kernel
theorem dL_areSo_155 : decode cL_areSo 155 = .ok (.if_icmp .ne 23, 3) := by decide +kernel
theorem dL_areSo_158 : decode cL_areSo 158 = .ok (.iload_n 3, 1) := by decide +kernel
theorem dL_areSo_159 : decode cL_areSo 159 = .ok (.ifCond .eq 15, 3) := by decide +kernel
theorem dL_areSo_162 : decode cL_areSo 162 = .ok (.aload_n 0, 1) := by decide +kernel
theorem dL_areSo_163 : decode cL_areSo 163 = .ok (.iload 5, 2) := by decide +kernel
theorem dL_areSo_165 : decode cL_areSo 165 = .ok (.iconst 0, 1) := by decide +kernel
theorem dL_areSo_166 : decode cL_areSo 166 = .ok (.invokevirtual 67, 3) := by decide +kernel
theorem dL_areSo_169 : decode cL_areSo 169 = .ok (.bipush 12, 2) := by decide +kernel
theorem dL_areSo_171 : decode cL_areSo 171 = .ok (.if_icmp .ne 7, 3) := by decide +kernel
theorem dL_areSo_174 : decode cL_areSo 174 = .ok (.iconst 1, 1) := by decide +kernel
theorem dL_areSo_175 : decode cL_areSo 175 = .ok (.goto 4, 3) := by decide +kernel
theorem dL_areSo_178 : decode cL_areSo 178 = .ok (.iconst 0, 1) := by decide +kernel
theorem dL_areSo_179 : decode cL_areSo 179 = .ok (.istore 4, 2) := by decide +kernel
theorem dL_areSo_181 : decode cL_areSo 181 = .ok (.aload_n 2, 1) := by decide +kernel
theorem dL_areSo_182 : decode cL_areSo 182 = .ok (.iload 5, 2) := by decide +kernel
theorem dL_areSo_184 : decode cL_areSo 184 = .ok (.iload 6, 2) := by decide +kernel
theorem dL_areSo_186 : decode cL_areSo 186 = .ok (.iastore, 1) := by decide +kernel
theorem dL_areSo_187 : decode cL_areSo 187 = .ok (.iinc 5 1, 3) := by decide +kernel
theorem dL_areSo_190 : decode cL_areSo 190 = .ok (.goto (-99), 3) := by decide +kernel
theorem dL_areSo_193 : decode cL_areSo 193 = .ok (.iload 4, 2) := by decide +kernel
theorem dL_areSo_195 : decode cL_areSo 195 = .ok (.ireturn, 1) := by decide +kernel
theorem dL_law_0 : decode cL_law 0 = .ok (.new 10, 3) := by decide +kernel
theorem dL_law_3 : decode cL_law 3 = .ok (.dup, 1) := by decide +kernel
theorem dL_law_4 : decode cL_law 4 = .ok (.invokespecial 70, 3) := by decide +kernel
theorem dL_law_7 : decode cL_law 7 = .ok (.astore_n 1, 1) := by decide +kernel
theorem dL_law_8 : decode cL_law 8 = .ok (.bipush 24, 2) := by decide +kernel
theorem dL_law_10 : decode cL_law 10 = .ok (.newarray .int, 2) := by decide +kernel
theorem dL_law_12 : decode cL_law 12 = .ok (.astore_n 2, 1) := by decide +kernel
theorem dL_law_13 : decode cL_law 13 = .ok (.bipush 24, 2) := by decide +kernel
theorem dL_law_15 : decode cL_law 15 = .ok (.newarray .int, 2) := by decide +kernel
theorem dL_law_17 : decode cL_law 17 = .ok (.astore_n 3, 1) := by decide +kernel
theorem dL_law_18 : decode cL_law 18 = .ok (.bipush 24, 2) := by decide +kernel
theorem dL_law_20 : decode cL_law 20 = .ok (.newarray .int, 2) := by decide +kernel
theorem dL_law_22 : decode cL_law 22 = .ok (.astore 4, 2) := by decide +kernel
theorem dL_law_24 : decode cL_law 24 = .ok (.aload_n 1, 1) := by decide +kernel
theorem dL_law_25 : decode cL_law 25 = .ok (.invokevirtual 64, 3) := by decide +kernel
theorem dL_law_28 : decode cL_law 28 = .ok (.ifCond .ne 14, 3) := by decide +kernel
theorem dL_law_31 : decode cL_law 31 = .ok (.aload_n 1, 1) := by decide +kernel
theorem dL_law_32 : decode cL_law 32 = .ok (.invokevirtual 15, 3) := by decide +kernel
theorem dL_law_35 : decode cL_law 35 = .ok (.ifCond .ne 7, 3) := by decide +kernel
theorem dL_law_38 : decode cL_law 38 = .ok (.iconst 1, 1) := by decide +kernel
theorem dL_law_39 : decode cL_law 39 = .ok (.goto 4, 3) := by decide +kernel
theorem dL_law_42 : decode cL_law 42 = .ok (.iconst 0, 1) := by decide +kernel
theorem dL_law_43 : decode cL_law 43 = .ok (.istore 5, 2) := by decide +kernel
theorem dL_law_45 : decode cL_law 45 = .ok (.iconst 0, 1) := by decide +kernel
theorem dL_law_46 : decode cL_law 46 = .ok (.istore 6, 2) := by decide +kernel
theorem dL_law_48 : decode cL_law 48 = .ok (.iload 6, 2) := by decide +kernel
theorem dL_law_50 : decode cL_law 50 = .ok (.bipush 60, 2) := by decide +kernel
theorem dL_law_52 : decode cL_law 52 = .ok (.if_icmp .ge 380, 3) := by decide +kernel
theorem dL_law_55 : decode cL_law 55 = .ok (.iload 5, 2) := by decide +kernel
theorem dL_law_57 : decode cL_law 57 = .ok (.ifCond .eq 375, 3) := by decide +kernel
theorem dL_law_60 : decode cL_law 60 = .ok (.aload_n 0, 1) := by decide +kernel
theorem dL_law_61 : decode cL_law 61 = .ok (.iload 6, 2) := by decide +kernel
theorem dL_law_63 : decode cL_law 63 = .ok (.invokestatic 71, 3) := by decide +kernel
theorem dL_law_66 : decode cL_law 66 = .ok (.istore 7, 2) := by decide +kernel
theorem dL_law_68 : decode cL_law 68 = .ok (.aload_n 0, 1) := by decide +kernel
theorem dL_law_69 : decode cL_law 69 = .ok (.iload 6, 2) := by decide +kernel
theorem dL_law_71 : decode cL_law 71 = .ok (.iconst 2, 1) := by decide +kernel
theorem dL_law_72 : decode cL_law 72 = .ok (.iadd, 1) := by decide +kernel
theorem dL_law_73 : decode cL_law 73 = .ok (.invokestatic 71, 3) := by decide +kernel
theorem dL_law_76 : decode cL_law 76 = .ok (.istore 8, 2) := by decide +kernel
theorem dL_law_78 : decode cL_law 78 = .ok (.aload_n 1, 1) := by decide +kernel
theorem dL_law_79 : decode cL_law 79 = .ok (.invokevirtual 15, 3) := by decide +kernel
theorem dL_law_82 : decode cL_law 82 = .ok (.istore 9, 2) := by decide +kernel
theorem dL_law_84 : decode cL_law 84 = .ok (.aload_n 1, 1) := by decide +kernel
theorem dL_law_85 : decode cL_law 85 = .ok (.invokestatic 48, 3) := by decide +kernel
theorem dL_law_88 : decode cL_law 88 = .ok (.istore 10, 2) := by decide +kernel
theorem dL_law_90 : decode cL_law 90 = .ok (.aload_n 1, 1) := by decide +kernel
theorem dL_law_91 : decode cL_law 91 = .ok (.invokevirtual 35, 3) := by decide +kernel
theorem dL_law_94 : decode cL_law 94 = .ok (.istore 11, 2) := by decide +kernel
theorem dL_law_96 : decode cL_law 96 = .ok (.iload 7, 2) := by decide +kernel
theorem dL_law_98 : decode cL_law 98 = .ok (.bipush 8, 2) := by decide +kernel
theorem dL_law_100 : decode cL_law 100 = .ok (.irem, 1) := by decide +kernel
theorem dL_law_101 : decode cL_law 101 = .ok (.iconst 5, 1) := by decide +kernel
theorem dL_law_102 : decode cL_law 102 = .ok (.if_icmp .ne 36, 3) := by decide +kernel
theorem dL_law_105 : decode cL_law 105 = .ok (.iload 9, 2) := by decide +kernel
theorem dL_law_107 : decode cL_law 107 = .ok (.ifCond .le 31, 3) := by decide +kernel
theorem dL_law_110 : decode cL_law 110 = .ok (.aload_n 1, 1) := by decide +kernel
theorem dL_law_111 : decode cL_law 111 = .ok (.aload_n 3, 1) := by decide +kernel
theorem dL_law_112 : decode cL_law 112 = .ok (.iload 7, 2) := by decide +kernel
theorem dL_law_114 : decode cL_law 114 = .ok (.bipush 8, 2) := by decide +kernel
theorem dL_law_116 : decode cL_law 116 = .ok (.idiv, 1) := by decide +kernel
theorem dL_law_117 : decode cL_law 117 = .ok (.iload 9, 2) := by decide +kernel
theorem dL_law_119 : decode cL_law 119 = .ok (.irem, 1) := by decide +kernel
theorem dL_law_120 : decode cL_law 120 = .ok (.iload 8, 2) := by decide +kernel
theorem dL_law_122 : decode cL_law 122 = .ok (.bipush 8, 2) := by decide +kernel
theorem dL_law_124 : decode cL_law 124 = .ok (.irem, 1) := by decide +kernel
theorem dL_law_125 : decode cL_law 125 = .ok (.iload 8, 2) := by decide +kernel
theorem dL_law_127 : decode cL_law 127 = .ok (.bipush 8, 2) := by decide +kernel
theorem dL_law_129 : decode cL_law 129 = .ok (.idiv, 1) := by decide +kernel
theorem dL_law_130 : decode cL_law 130 = .ok (.invokestatic 75, 3) := by decide +kernel
theorem dL_law_133 : decode cL_law 133 = .ok (.istore 5, 2) := by decide +kernel
theorem dL_law_135 : decode cL_law 135 = .ok (.goto 251, 3) := by decide +kernel
theorem dL_law_138 : decode cL_law 138 = .ok (.iload 7, 2) := by decide +kernel
theorem dL_law_140 : decode cL_law 140 = .ok (.bipush 8, 2) := by decide +kernel
theorem dL_law_142 : decode cL_law 142 = .ok (.irem, 1) := by decide +kernel
theorem dL_law_143 : decode cL_law 143 = .ok (.bipush 6, 2) := by decide +kernel
theorem dL_law_145 : decode cL_law 145 = .ok (.if_icmp .lt 209, 3) := by decide +kernel
theorem dL_law_148 : decode cL_law 148 = .ok (.aload_n 1, 1) := by decide +kernel
theorem dL_law_149 : decode cL_law 149 = .ok (.invokevirtual 64, 3) := by decide +kernel
theorem dL_law_152 : decode cL_law 152 = .ok (.sipush 900, 3) := by decide +kernel
theorem dL_law_155 : decode cL_law 155 = .ok (.if_icmp .ge 199, 3) := by decide +kernel
theorem dL_law_158 : decode cL_law 158 = .ok (.iload 9, 2) := by decide +kernel
theorem dL_law_160 : decode cL_law 160 = .ok (.ifCond .ne 7, 3) := by decide +kernel
theorem dL_law_163 : decode cL_law 163 = .ok (.iconst (-1), 1) := by decide +kernel
theorem dL_law_164 : decode cL_law 164 = .ok (.goto 8, 3) := by decide +kernel
theorem dL_law_167 : decode cL_law 167 = .ok (.iload 8, 2) := by decide +kernel
theorem dL_law_169 : decode cL_law 169 = .ok (.iload 9, 2) := by decide +kernel
theorem dL_law_171 : decode cL_law 171 = .ok (.irem, 1) := by decide +kernel
theorem dL_law_172 : decode cL_law 172 = .ok (.istore 12, 2) := by decide +kernel
theorem dL_law_174 : decode cL_law 174 = .ok (.iload 12, 2) := by decide +kernel
theorem dL_law_176 : decode cL_law 176 = .ok (.ifCond .ge 7, 3) := by decide +kernel
theorem dL_law_179 : decode cL_law 179 = .ok (.iconst 0, 1) := by decide +kernel
theorem dL_law_180 : decode cL_law 180 = .ok (.goto 9, 3) := by decide +kernel
theorem dL_law_183 : decode cL_law 183 = .ok (.aload_n 1, 1) := by decide +kernel
theorem dL_law_184 : decode cL_law 184 = .ok (.iload 12, 2) := by decide +kernel
theorem dL_law_186 : decode cL_law 186 = .ok (.invokevirtual 19, 3) := by decide +kernel
theorem dL_law_189 : decode cL_law 189 = .ok (.istore 13, 2) := by decide +kernel
theorem dL_law_191 : decode cL_law 191 = .ok (.iload 12, 2) := by decide +kernel
theorem dL_law_193 : decode cL_law 193 = .ok (.ifCond .lt 16, 3) := by decide +kernel
theorem dL_law_196 : decode cL_law 196 = .ok (.aload_n 1, 1) := by decide +kernel
theorem dL_law_197 : decode cL_law 197 = .ok (.iload 12, 2) := by decide +kernel
theorem dL_law_199 : decode cL_law 199 = .ok (.invokevirtual 32, 3) := by decide +kernel
theorem dL_law_202 : decode cL_law 202 = .ok (.ifCond .le 7, 3) := by decide +kernel
theorem dL_law_205 : decode cL_law 205 = .ok (.iconst 1, 1) := by decide +kernel
theorem dL_law_206 : decode cL_law 206 = .ok (.goto 4, 3) := by decide +kernel
theorem dL_law_209 : decode cL_law 209 = .ok (.iconst 0, 1) := by decide +kernel
theorem dL_law_210 : decode cL_law 210 = .ok (.istore 14, 2) := by decide +kernel
theorem dL_law_212 : decode cL_law 212 = .ok (.aload_n 1, 1) := by decide +kernel
theorem dL_law_213 : decode cL_law 213 = .ok (.invokevirtual 64, 3) := by decide +kernel
theorem dL_law_216 : decode cL_law 216 = .ok (.istore 15, 2) := by decide +kernel
theorem dL_law_218 : decode cL_law 218 = .ok (.iconst 1, 1) := by decide +kernel
theorem dL_law_219 : decode cL_law 219 = .ok (.iload 8, 2) := by decide +kernel
theorem dL_law_221 : decode cL_law 221 = .ok (.iload 7, 2) := by decide +kernel
theorem dL_law_223 : decode cL_law 223 = .ok (.bipush 8, 2) := by decide +kernel
theorem dL_law_225 : decode cL_law 225 = .ok (.irem, 1) := by decide +kernel
theorem dL_law_226 : decode cL_law 226 = .ok (.bipush 6, 2) := by decide +kernel
theorem dL_law_228 : decode cL_law 228 = .ok (.if_icmp .ne 7, 3) := by decide +kernel
theorem dL_law_231 : decode cL_law 231 = .ok (.iconst 3, 1) := by decide +kernel
theorem dL_law_232 : decode cL_law 232 = .ok (.goto 5, 3) := by decide +kernel
theorem dL_law_235 : decode cL_law 235 = .ok (.bipush 20, 2) := by decide +kernel
theorem dL_law_237 : decode cL_law 237 = .ok (.irem, 1) := by decide +kernel
theorem dL_law_238 : decode cL_law 238 = .ok (.iadd, 1) := by decide +kernel
theorem dL_law_239 : decode cL_law 239 = .ok (.istore 16, 2) := by decide +kernel
theorem dL_law_241 : decode cL_law 241 = .ok (.aload_n 1, 1) := by decide +kernel
theorem dL_law_242 : decode cL_law 242 = .ok (.iload 16, 2) := by decide +kernel
theorem dL_law_244 : decode cL_law 244 = .ok (.invokevirtual 79, 3) := by decide +kernel
theorem dL_law_247 : decode cL_law 247 = .ok (.ifCond .lt 62, 3) := by decide +kernel
theorem dL_law_250 : decode cL_law 250 = .ok (.aload_n 1, 1) := by decide +kernel
theorem dL_law_251 : decode cL_law 251 = .ok (.invokevirtual 64, 3) := by decide +kernel
theorem dL_law_254 : decode cL_law 254 = .ok (.iload 15, 2) := by decide +kernel
theorem dL_law_256 : decode cL_law 256 = .ok (.iload 16, 2) := by decide +kernel
theorem dL_law_258 : decode cL_law 258 = .ok (.iadd, 1) := by decide +kernel
theorem dL_law_259 : decode cL_law 259 = .ok (.if_icmp .ne 50, 3) := by decide +kernel
theorem dL_law_262 : decode cL_law 262 = .ok (.iload 12, 2) := by decide +kernel
theorem dL_law_264 : decode cL_law 264 = .ok (.ifCond .lt 41, 3) := by decide +kernel
theorem dL_law_267 : decode cL_law 267 = .ok (.aload_n 1, 1) := by decide +kernel
theorem dL_law_268 : decode cL_law 268 = .ok (.iload 12, 2) := by decide +kernel
theorem dL_law_270 : decode cL_law 270 = .ok (.iload 15, 2) := by decide +kernel
theorem dL_law_272 : decode cL_law 272 = .ok (.invokevirtual 67, 3) := by decide +kernel
theorem dL_law_275 : decode cL_law 275 = .ok (.iload 13, 2) := by decide +kernel
theorem dL_law_277 : decode cL_law 277 = .ok (.if_icmp .eq 28, 3) := by decide +kernel
theorem dL_law_280 : decode cL_law 280 = .ok (.aload_n 1, 1) := by decide +kernel
theorem dL_law_281 : decode cL_law 281 = .ok (.iload 12, 2) := by decide +kernel
theorem dL_law_283 : decode cL_law 283 = .ok (.iload 15, 2) := by decide +kernel
theorem dL_law_285 : decode cL_law 285 = .ok (.invokevirtual 67, 3) := by decide +kernel
theorem dL_law_288 : decode cL_law 288 = .ok (.bipush 12, 2) := by decide +kernel
theorem dL_law_290 : decode cL_law 290 = .ok (.if_icmp .eq 15, 3) := by decide +kernel
theorem dL_law_293 : decode cL_law 293 = .ok (.aload_n 1, 1) := by decide +kernel
theorem dL_law_294 : decode cL_law 294 = .ok (.iload 12, 2) := by decide +kernel
theorem dL_law_296 : decode cL_law 296 = .ok (.iload 15, 2) := by decide +kernel
theorem dL_law_298 : decode cL_law 298 = .ok (.invokevirtual 67, 3) := by decide +kernel
theorem dL_law_301 : decode cL_law 301 = .ok (.iconst 5, 1) := by decide +kernel
theorem dL_law_302 : decode cL_law 302 = .ok (.if_icmp .ge 7, 3) := by decide +kernel
theorem dL_law_305 : decode cL_law 305 = .ok (.iconst 1, 1) := by decide +kernel
theorem dL_law_306 : decode cL_law 306 = .ok (.goto 4, 3) := by decide +kernel
theorem dL_law_309 : decode cL_law 309 = .ok (.iconst 0, 1) := by decide +kernel
theorem dL_law_310 : decode cL_law 310 = .ok (.istore 5, 2) := by decide +kernel
theorem dL_law_312 : decode cL_law 312 = .ok (.iload 5, 2) := by decide +kernel
theorem dL_law_314 : decode cL_law 314 = .ok (.ifCond .eq 34, 3) := by decide +kernel
theorem dL_law_317 : decode cL_law 317 = .ok (.iload 14, 2) := by decide +kernel
theorem dL_law_319 : decode cL_law 319 = .ok (.ifCond .eq 25, 3) := by decide +kernel
theorem dL_law_322 : decode cL_law 322 = .ok (.aload_n 1, 1) := by decide +kernel
theorem dL_law_323 : decode cL_law 323 = .ok (.iload 12, 2) := by decide +kernel
theorem dL_law_325 : decode cL_law 325 = .ok (.invokevirtual 19, 3) := by decide +kernel
theorem dL_law_328 : decode cL_law 328 = .ok (.iload 13, 2) := by decide +kernel
theorem dL_law_330 : decode cL_law 330 = .ok (.if_icmp .eq 14, 3) := by decide +kernel
theorem dL_law_333 : decode cL_law 333 = .ok (.aload_n 1, 1) := by decide +kernel
theorem dL_law_334 : decode cL_law 334 = .ok (.iload 12, 2) := by decide +kernel
theorem dL_law_336 : decode cL_law 336 = .ok (.invokevirtual 19, 3) := by decide +kernel
theorem dL_law_339 : decode cL_law 339 = .ok (.bipush 11, 2) := by decide +kernel
theorem dL_law_341 : decode cL_law 341 = .ok (.if_icmp .ne 7, 3) := by decide +kernel
theorem dL_law_344 : decode cL_law 344 = .ok (.iconst 1, 1) := by decide +kernel
theorem dL_law_345 : decode cL_law 345 = .ok (.goto 4, 3) := by decide +kernel
theorem dL_law_348 : decode cL_law 348 = .ok (.iconst 0, 1) := by decide +kernel
theorem dL_law_349 : decode cL_law 349 = .ok (.istore 5, 2) := by decide +kernel
theorem dL_law_351 : decode cL_law 351 = .ok (.goto 35, 3) := by decide +kernel
theorem dL_law_354 : decode cL_law 354 = .ok (.aload_n 1, 1) := by decide +kernel
theorem dL_law_355 : decode cL_law 355 = .ok (.aload_n 2, 1) := by decide +kernel
theorem dL_law_356 : decode cL_law 356 = .ok (.iload 7, 2) := by decide +kernel
theorem dL_law_358 : decode cL_law 358 = .ok (.iload 8, 2) := by decide +kernel
theorem dL_law_360 : decode cL_law 360 = .ok (.invokestatic 82, 3) := by decide +kernel
theorem dL_law_363 : decode cL_law 363 = .ok (.istore 5, 2) := by decide +kernel
theorem dL_law_365 : decode cL_law 365 = .ok (.aload_n 1, 1) := by decide +kernel
theorem dL_law_366 : decode cL_law 366 = .ok (.invokevirtual 15, 3) := by decide +kernel
theorem dL_law_369 : decode cL_law 369 = .ok (.iload 9, 2) := by decide +kernel
theorem dL_law_371 : decode cL_law 371 = .ok (.if_icmp .le 15, 3) := by decide +kernel
theorem dL_law_374 : decode cL_law 374 = .ok (.aload_n 3, 1) := by decide +kernel
theorem dL_law_375 : decode cL_law 375 = .ok (.iload 9, 2) := by decide +kernel
theorem dL_law_377 : decode cL_law 377 = .ok (.iload 8, 2) := by decide +kernel
theorem dL_law_379 : decode cL_law 379 = .ok (.bipush 15, 2) := by decide +kernel
theorem dL_law_381 : decode cL_law 381 = .ok (.idiv, 1) := by decide +kernel
theorem dL_law_382 : decode cL_law 382 = .ok (.bipush 8, 2) := by decide +kernel
theorem dL_law_384 : decode cL_law 384 = .ok (.irem, 1) := by decide +kernel
theorem dL_law_385 : decode cL_law 385 = .ok (.iastore, 1) := by decide +kernel
theorem dL_law_386 : decode cL_law 386 = .ok (.iload 5, 2) := by decide +kernel
theorem dL_law_388 : decode cL_law 388 = .ok (.ifCond .eq 35, 3) := by decide +kernel
theorem dL_law_391 : decode cL_law 391 = .ok (.aload_n 1, 1) := by decide +kernel
theorem dL_law_392 : decode cL_law 392 = .ok (.invokestatic 48, 3) := by decide +kernel
theorem dL_law_395 : decode cL_law 395 = .ok (.iload 10, 2) := by decide +kernel
theorem dL_law_397 : decode cL_law 397 = .ok (.if_icmp .lt 26, 3) := by decide +kernel
theorem dL_law_400 : decode cL_law 400 = .ok (.aload_n 1, 1) := by decide +kernel
theorem dL_law_401 : decode cL_law 401 = .ok (.invokevirtual 35, 3) := by decide +kernel
theorem dL_law_404 : decode cL_law 404 = .ok (.iload 11, 2) := by decide +kernel
theorem dL_law_406 : decode cL_law 406 = .ok (.if_icmp .lt 17, 3) := by decide +kernel
theorem dL_law_409 : decode cL_law 409 = .ok (.aload_n 1, 1) := by decide +kernel
theorem dL_law_410 : decode cL_law 410 = .ok (.aload_n 2, 1) := by decide +kernel
theorem dL_law_411 : decode cL_law 411 = .ok (.aload 4, 2) := by decide +kernel
theorem dL_law_413 : decode cL_law 413 = .ok (.invokestatic 86, 3) := by decide +kernel
theorem dL_law_416 : decode cL_law 416 = .ok (.ifCond .eq 7, 3) := by decide +kernel
theorem dL_law_419 : decode cL_law 419 = .ok (.iconst 1, 1) := by decide +kernel
theorem dL_law_420 : decode cL_law 420 = .ok (.goto 4, 3) := by decide +kernel
theorem dL_law_423 : decode cL_law 423 = .ok (.iconst 0, 1) := by decide +kernel
theorem dL_law_424 : decode cL_law 424 = .ok (.istore 5, 2) := by decide +kernel
theorem dL_law_426 : decode cL_law 426 = .ok (.iinc 6 1, 3) := by decide +kernel
theorem dL_law_429 : decode cL_law 429 = .ok (.goto (-381), 3) := by decide +kernel
theorem dL_law_432 : decode cL_law 432 = .ok (.iload 5, 2) := by decide +kernel
theorem dL_law_434 : decode cL_law 434 = .ok (.ireturn, 1) := by decide +kernel
end
section
section XK
/-! A world: what stands at each address, with a colour; two things of different colours lie apart. A judgement over all heaps that hold the world (xJ), rows for it, contracts (xMet, xMetX). -/
abbrev xW : Type := Nat → Option (Nat × va_E)
abbrev xG : Type := va_G × (Nat → Nat)
def xu (w : xW) (a : Nat) (x : Nat × va_E) : xW := fun b => if b = a then some x else w b
theorem xu_eq (w : xW) (a : Nat) (x : Nat × va_E) : xu w a x a = some x := if_pos rfl
theorem xu_ne {w : xW} {a b : Nat} {x : Nat × va_E} (h : b ≠ a) : xu w a x b = w b := if_neg h
theorem xu_far {w : xW} {a b k j : Nat} {e e' : va_E} {x : Nat × va_E} (hb : w b = some (k, e)) (ha : w a = some (j, e')) (h : k ≠ j) : xu w a x b = some (k, e) := by
  rw [xu_ne (fun q => h (by subst q; rw [hb] at ha; cases ha; rfl))]; exact hb
theorem xu_new {w : xW} {a b : Nat} {x y : Nat × va_E} (hb : w b = some y) (ha : w a = none) : xu w a x b = some y := by
  rw [xu_ne (fun q => by subst q; rw [hb] at ha; cases ha)]; exact hb
def xA (G : xG) : Nat → Prop := fun q => G.2 0 ≤ q
abbrev xT (G : xG) : List (ClassId × FieldType) := [(G.2 1, .int), (G.2 2, .int), (G.2 3, .object "java/lang/Object")]
def xH (G : xG) (w : xW) (H : Heap) : Prop := G.2 0 ≤ H.size ∧ ∀ (a : Nat) (x : Nat × va_E), w a = some x → G.2 0 ≤ a ∧ va_at G.1 vwCl (a, x.2) H
theorem xH.lt {G : xG} {w : xW} {H : Heap} (h : xH G w H) {a : Nat} {x : Nat × va_E} (ha : w a = some x) : a < H.size := ((h.2 a x ha).2).lt
theorem xH.P {G : xG} {w : xW} {H : Heap} (h : xH G w H) {a k : Nat} {e : va_E} (ha : w a = some (k, e)) : va_P G.1 vwCl [(a, e)] H := fun i q hq => by
  match i, hq with
  | 0, hq => cases hq; exact (h.2 a _ ha).2
  | i + 1, hq => simp at hq
theorem xH.set {G : xG} {w : xW} {H H1 : Heap} (h : xH G w H) {a k j : Nat} {e0 e : va_E} (ha : w a = some (k, e0)) (he : va_at G.1 vwCl (a, e) H1) (oq : ∀ q : Nat, q ≠ a → H1[q]? = H[q]?) (z : H1.size = H.size) : xH G (xu w a (j, e)) H1 := by
  refine ⟨by rw [z]; exact h.1, fun b x hb => ?_⟩
  by_cases hq : b = a
  · subst hq
    rw [xu_eq] at hb
    cases hb
    exact ⟨(h.2 b _ ha).1, he⟩
  · rw [xu_ne hq] at hb
    exact ⟨(h.2 b x hb).1, (h.2 b x hb).2.kept (oq b hq)⟩
theorem xH.grow {G : xG} {w : xW} {H H1 : Heap} (h : xH G w H) (z : H.size ≤ H1.size) (oq : ∀ q : Nat, q < H.size → H1[q]? = H[q]?) : xH G w H1 :=
  ⟨Nat.le_trans h.1 z, fun b x hb => ⟨(h.2 b x hb).1, (h.2 b x hb).2.kept (oq b (h.lt hb))⟩⟩
theorem xH.none {G : xG} {w : xW} {H : Heap} (h : xH G w H) : w H.size = none := by
  cases hq : w H.size with
  | none => rfl
  | some x => exact absurd (h.lt hq) (Nat.lt_irrefl _)
theorem xH.new {G : xG} {w : xW} {H H1 : Heap} (h : xH G w H) {j : Nat} {e : va_E} (he : va_at G.1 vwCl (H.size, e) H1) (z : H1.size = H.size + 1) (oq : ∀ q : Nat, q < H.size → H1[q]? = H[q]?) : xH G (xu w H.size (j, e)) H1 := by
  refine ⟨by rw [z]; exact Nat.le_succ_of_le h.1, fun b x hb => ?_⟩
  by_cases hq : b = H.size
  · subst hq
    rw [xu_eq] at hb
    cases hb
    exact ⟨h.1, he⟩
  · rw [xu_ne hq] at hb
    exact ⟨(h.2 b x hb).1, (h.2 b x hb).2.kept (oq b (h.lt hb))⟩
/-! the tables' words, all in one list -/
def xNest : Cond → Bool
  | .fieldLinkNest .. => true
  | .methodLinkNest .. => true
  | _ => false
def xOk (w : Cond) : Bool := w.onTables && (w.keeps || w.keepsFace || xNest w)
def xAll : List Cond := lw_tbl.filter xOk
theorem xAll_in (i : Nat) {w : Cond} (h : lw_tbl[i]? = some w) (hk : xOk w = true) : w ∈ xAll := List.mem_filter.mpr ⟨List.mem_of_getElem? h, hk⟩
theorem xAll_ok {w : Cond} (h : w ∈ xAll) : xOk w = true := (List.mem_filter.mp h).2
theorem xAll_tb {w : Cond} (h : w ∈ xAll) : w.onTables = true := by
  have := xAll_ok h
  simp only [xOk, Bool.and_eq_true] at this
  exact this.1
theorem xNw_warm {w : Cond} {s U : State} (hk : xOk w = true) (hW : s.WarmedH U.vm) (h : va_Nw w s) : va_Nw w U := by
  simp only [xOk, Bool.and_eq_true, Bool.or_eq_true] at hk
  obtain ⟨ht, (hk | hk) | hk⟩ := hk
  · exact word_at hW (Or.inl (by rw [ht, hk]; rfl)) h
  · exact va_tabs ht (rfl : (s.setVm U.vm).vm = U.vm) (Cond.before_shiftedFace (args := #[]) (State.Shifted.of_warmed hW) w hk h)
  · cases w <;> first | exact va_Nw.warmF hW h | exact va_Nw.warmM hW h | (simp [xNest] at hk)
theorem xAll_list {ws : List Cond} (is : List Nat) (h : is.map (fun i => lw_tbl[i]?) = ws.map some) (hk : ws.all xOk = true) : ∀ w ∈ ws, w ∈ xAll := fun w hw => by
  have h1 : some w ∈ ws.map some := List.mem_map.mpr ⟨w, hw, rfl⟩
  rw [← h] at h1
  obtain ⟨i, -, hi⟩ := List.mem_map.mp h1
  exact xAll_in i hi (List.all_eq_true.mp hk w hw)
def xStr : List (Nat × String) := [(61, "owner, size or counter is out of range"), (73, "no room for it, or too many things"), (188, "there is no such thing"), (96, "it is not at a counter, or has a loan"), (105, "counter is out of range"), (110, "it is not at a counter, or is at this one"), (118, "worth is out of range"), (120, "it is not at a counter"), (125, "lender or sum is out of range"), (130, "the lender is its owner, or the sum is too high"), (139, "it has no loan"), (153, "it has no loan, or that was doubted"), (158, "days is out of range"), (160, "the day would be above the last one"), (165, "day is out of range"), (174, "person is out of range")]
def xNcs : List (String × String) := [("java/lang/IllegalArgumentException", "java/lang/IllegalStateException"), ("java/lang/IllegalArgumentException", "java/lang/IndexOutOfBoundsException"), ("java/lang/IllegalStateException", "java/lang/IllegalArgumentException"), ("java/lang/IllegalStateException", "java/lang/IndexOutOfBoundsException"), ("java/lang/IndexOutOfBoundsException", "java/lang/IllegalArgumentException"), ("java/lang/IndexOutOfBoundsException", "java/lang/IllegalStateException")]
/-- the law's script: at the cell G.2 6, of G.2 7 ints, out of what the calls may write -/
def xsG (G : xG) : Nat → Int32 := fun j => Int32.ofNat (G.2 (1000000 + j))
def xScr (G : xG) (U : State) (H : Heap) : Prop := va_X (G.2 6) (G.2 7) (xsG G) U H ∧ ¬ xA G (G.2 6) ∧ G.2 7 ≤ 260
theorem xScr.next {G : xG} {s U : State} (hal : s.vm.Alike U.vm) (h : xScr G s s.heap) (hq : ∀ a : Nat, a < s.heap.size → ¬ xA G a → U.heap[a]? = s.heap[a]?) : xScr G U U.heap := by
  obtain ⟨h1, h2, h3⟩ := h
  have hlt : G.2 6 < s.heap.size := by
    obtain ⟨scr, h4, -⟩ := h1
    exact (Array.getElem?_eq_some_iff.mp h4).1
  exact ⟨va_X.moved hal (h1.kept (hq _ hlt h2)), h2, h3⟩
/-- what holds of the launch at any time: the tables' words, the classes, the statics that nobody writes -/
def xE (G : xG) (U : State) (H : Heap) : Prop :=
  va_K G.1 vwCl (xT G) U ∧ (∀ w ∈ xAll, va_Nw w U) ∧ (Cond.arrayClass .int).before #[] U = true ∧ xScr G U H ∧ va_AO "java/lang/Object" U ∧
  vx_Zq Bundle.tN "UNASSIGNED_STACK" Bundle.steD (xA G) U H ∧ vx_Zq Bundle.tN "SUPPRESSED_SENTINEL" Bundle.listD (xA G) U H ∧
  va_Z "java/util/ArrayList" "DEFAULTCAPACITY_EMPTY_ELEMENTDATA" "[Ljava/lang/Object;" (.ref (G.2 4)) (xA G) U H ∧ va_T (.object "java/lang/Object") (G.2 4) 0 (fun _ => .null) (xA G) U H ∧
  (∀ q ∈ xStr, vk_R RX2 q.1 q.2 (G.2 (1000 + q.1)) U) ∧ va_Mi "[Ljava/lang/Object;" (G.2 5) U ∧ ∀ q ∈ xNcs, va_Nc q.1 q.2 U
theorem xE.next {G : xG} {s U : State} (h : xE G s s.heap) (hW : s.WarmedH U.vm) (hq : ∀ a : Nat, a < s.heap.size → ¬ xA G a → U.heap[a]? = s.heap[a]?) : xE G U U.heap := by
  obtain ⟨h1, h2, h3, h4, h5, h6, h7, h8, h9, h10, h11, h12⟩ := h
  have hal : s.vm.Alike U.vm := hW.alike
  exact ⟨va_K.moved hal h1, fun w hw => xNw_warm (xAll_ok hw) hW (h2 w hw), word_at hW (Or.inr ⟨_, rfl⟩) h3, xScr.next hal h4 hq, va_AO.moved hal h5, vx_Zq.moved hal (h6.kept hq), vx_Zq.moved hal (h7.kept hq),
    va_Z.moved hal (h8.kept hq), va_T.moved hal (h9.kept hq), fun q hq => (h10 q hq).warm hW, va_Mi.moved hal h11, fun q hq => va_Nc.moved hal (h12 q hq)⟩
theorem xE.w {G : xG} {s : State} {H : Heap} (h : xE G s H) {w : Cond} (hw : w ∈ xAll) {args : Array Value} : w.before args s = true := va_Nw.use (xAll_tb hw) (h.2.1 w hw)
/-! contracts -/
def xPc (G : xG) (av : List Value) (w : xW) : Array Value → State → Prop := va_Pc av (fun U => xE G U U.heap ∧ xH G w U.heap)
def xQ {α : Type} (G : xG) (emb : α → Option Value) (post : α → xW → Prop) : Array Value → State → Outcome → State → Prop := fun _ st oc t => (∃ (v : α) (w : xW), oc = .returned (emb v) ∧ post v w ∧ xH G w t.heap) ∧ va_F (xA G) st t
def xX (G : xG) (px : String → xW → Prop) : String → State → State → Prop := fun E st t => (∃ w : xW, px E w ∧ xH G w t.heap) ∧ va_F (xA G) st t
abbrev embI : Int32 → Option Value := fun r => some (.int r)
abbrev embA : Nat → Option Value := fun r => some (.ref r)
abbrev embV : Unit → Option Value := fun _ => none
def xMet {α : Type} (l : Launch) (G : xG) (y : MethodName) (cc : ByteArray) (maxL : Nat) (rt : Option FieldType) (rm : Room) (av : List Value) (w : xW) (emb : α → Option Value) (post : α → xW → Prop) : Prop :=
  Met l y [.code y cc maxL rt] rm (xPc G av w) (xQ G emb post) rm.cells rm.slots (xA G)
def xMetX {α : Type} (l : Launch) (G : xG) (y : MethodName) (cc : ByteArray) (maxL : Nat) (rt : Option FieldType) (rm : Room) (av : List Value) (w : xW) (emb : α → Option Value) (post : α → xW → Prop) (px : String → xW → Prop) : Prop :=
  vx_Met l y [.code y cc maxL rt] rm (xPc G av w) (xQ G emb post) (xX G px) rm.cells rm.slots (xA G)
theorem xPc.blind {G : xG} {av : List Value} {w : xW} : FrameBlind (xPc G av w) := fun a U g mk h => ⟨h.1, h.2.1.next (U := U.calling g mk a) (State.WarmedH.refl U) (fun _ _ _ => rfl), h.2.2⟩
/-! locals by their numbers -/
def xget : List (Nat × Value) → Nat → Option Value
  | [], _ => none
  | q :: t, i => bif Nat.beq q.1 i then some q.2 else xget t i
def xdel : List (Nat × Value) → Nat → List (Nat × Value)
  | [], _ => []
  | q :: t, i => bif Nat.beq q.1 i then xdel t i else q :: xdel t i
def xone : List (Nat × Value) → Bool
  | [] => true
  | q :: t => Nat.beq q.2.category 1 && xone t
def xpick (lv : List (Nat × Value)) (is : List Nat) : List (Nat × Value) := is.filterMap fun i => (xget lv i).map fun v => (i, v)
theorem xget_mem {lv : List (Nat × Value)} {i : Nat} {v : Value} (h : xget lv i = some v) : (i, v) ∈ lv := by
  induction lv with
  | nil => simp [xget] at h
  | cons q t ih =>
    unfold xget at h
    cases hq : Nat.beq q.1 i with
    | true =>
      rw [hq] at h
      have e1 : q.1 = i := Nat.eq_of_beq_eq_true hq
      have e2 : q.2 = v := Option.some.inj h
      rw [← e1, ← e2]
      exact List.mem_cons_self
    | false =>
      rw [hq] at h
      exact List.mem_cons_of_mem _ (ih h)
theorem xget_at {ls : Array Slot} {nL : Nat} {lv : List (Nat × Value)} (h : lv_has ls nL lv) {i : Nat} {v : Value} (hi : xget lv i = some v) : ls[i]? = some (.val v) := h.2.2 _ (xget_mem hi)
theorem xdel_mem {lv : List (Nat × Value)} {i : Nat} {q : Nat × Value} (h : q ∈ xdel lv i) : q ∈ lv ∧ q.1 ≠ i := by
  induction lv with
  | nil => simp [xdel] at h
  | cons r t ih =>
    unfold xdel at h
    cases hq : Nat.beq r.1 i with
    | true =>
      rw [hq] at h
      exact ⟨List.mem_cons_of_mem _ (ih h).1, (ih h).2⟩
    | false =>
      rw [hq] at h
      rcases List.mem_cons.mp h with e | h
      · subst e
        exact ⟨List.mem_cons_self, Nat.ne_of_beq_eq_false hq⟩
      · exact ⟨List.mem_cons_of_mem _ (ih h).1, (ih h).2⟩
theorem xone_mem {lv : List (Nat × Value)} (h : xone lv = true) {q : Nat × Value} (hq : q ∈ lv) : q.2.category = 1 := by
  induction lv with
  | nil => simp at hq
  | cons r t ih =>
    unfold xone at h
    simp only [Bool.and_eq_true] at h
    rcases List.mem_cons.mp hq with e | hq
    · subst e
      exact Nat.eq_of_beq_eq_true h.1
    · exact ih h.2 hq
theorem xset_has {ls : Array Slot} {nL : Nat} {lv : List (Nat × Value)} {i : Nat} {v : Value} (h : lv_has ls nL ((i, v) :: lv.filter (fun q => !(q.1 == i) && !(q.1 + 1 == i && q.2.category == 2)))) (h1 : xone lv = true) : lv_has ls nL ((i, v) :: xdel lv i) := by
  refine ⟨h.1, h.2.1, fun q hq => h.2.2 q ?_⟩
  rcases List.mem_cons.mp hq with e | hq
  · subst e
    exact List.mem_cons_self
  · obtain ⟨h2, h3⟩ := xdel_mem hq
    refine List.mem_cons_of_mem _ (List.mem_filter.mpr ⟨h2, ?_⟩)
    have h4 := xone_mem h1 h2
    simp [h3, h4]
theorem xpick_has {ls : Array Slot} {nL : Nat} {lv lv' : List (Nat × Value)} (h : lv_has ls nL lv) (is : List Nat) (e : xpick lv is = lv') : lv_has ls nL lv' := by
  subst e
  refine ⟨h.1, h.2.1, fun q hq => ?_⟩
  obtain ⟨i, -, hi⟩ := List.mem_filterMap.mp hq
  cases hg : xget lv i with
  | none => rw [hg] at hi; cases hi
  | some v =>
    rw [hg] at hi
    cases hi
    exact xget_at h hg
/-! the judgement -/
def xC (p : Program) (s : State) (m : MethodId) (meth : Method) (c : Code) (G : xG) (cc : ByteArray) (nL : Nat) (own : String) (rt : Option FieldType) : Prop :=
  p.tables.exec = Jvm.exec ∧ c.code = cc ∧ c.maxLocals = nL ∧ s.vm.findClass own = some m.cls ∧ meth.sig.returnType = rt ∧ meth.locks = false ∧ xE G s s.heap ∧ G.2 0 ≤ s.heap.size
def xJ (p : Program) (l : Launch) (e : Env) (R : Room) (s : State) (m : MethodId) (args : Array Value) (below : List Frame) (meth : Method) (c : Code) (G : xG) (nL : Nat) (Q : State → Prop) (P : xW → Prop) (k n pc : Nat) (lv : List (Nat × Value)) (st : List Value) : Prop :=
  ∀ (w : xW) (H : Heap) (locs : List Loc) (ls : Array Slot), P w → xH G w H → va_S (xA G) s.heap H locs → lv_has ls nL lv → W p l e R s m args below meth c H locs k n Q (F0 m pc ls st)
section XJ
variable {p : Program} {l : Launch} {e : Env} {R : Room} {s : State} {m : MethodId} {args : Array Value} {below : List Frame} {meth : Method} {c : Code} {G : xG} {cc : ByteArray} {nL : Nat} {own : String} {rt : Option FieldType} {Q : State → Prop} {P P' : xW → Prop} {k n pc : Nat} {lv : List (Nat × Value)} {st : List Value}
theorem x_fact {φ : Prop} (h : ∀ w, P w → φ) (kk : φ → xJ p l e R s m args below meth c G nL Q P k n pc lv st) : xJ p l e R s m args below meth c G nL Q P k n pc lv st := fun w H locs ls hp => kk (h w hp) w H locs ls hp
theorem x_weak (h : ∀ w, P w → P' w) (kk : xJ p l e R s m args below meth c G nL Q P' k n pc lv st) : xJ p l e R s m args below meth c G nL Q P k n pc lv st := fun w H locs ls hp => kk w H locs ls (h w hp)
theorem x_any {α : Type} {F : α → xW → Prop} (kk : ∀ a, xJ p l e R s m args below meth c G nL Q (F a) k n pc lv st) : xJ p l e R s m args below meth c G nL Q (fun w => ∃ a, F a w) k n pc lv st := fun w H locs ls hp => by
  obtain ⟨a, ha⟩ := hp
  exact kk a w H locs ls ha
theorem x_lv {lv' : List (Nat × Value)} (is : List Nat) (h : xpick lv is = lv') (kk : xJ p l e R s m args below meth c G nL Q P k n pc lv' st) : xJ p l e R s m args below meth c G nL Q P k n pc lv st := fun w H locs ls hp hh hs hl => kk w H locs ls hp hh hs (xpick_has hl is h)
theorem x_wide {k' n' : Nat} (h1 : k ≤ k') (h2 : n ≤ n') (kk : xJ p l e R s m args below meth c G nL Q P k' n' pc lv st) : xJ p l e R s m args below meth c G nL Q P k n pc lv st := fun w H locs ls hp hh hs hl => W.widen h1 h2 (kk w H locs ls hp hh hs hl)
theorem x_iconst (Γ : xC p s m meth c G cc nL own rt) {i : Int} {v : Int32} (hd : decode cc pc = .ok (.iconst i, 1)) (hv : Int32.ofInt i = v) (kk : xJ p l e R s m args below meth c G nL Q P k n (pc + 1) lv (.int v :: st)) : xJ p l e R s m args below meth c G nL Q P k n pc lv (st) := fun w H locs ls hp hh hs hl => lv_iconst Γ.1 Γ.2.1 hd hv (kk w H locs ls hp hh hs hl)
theorem x_bipush (Γ : xC p s m meth c G cc nL own rt) {i : Int} {v : Int32} (hd : decode cc pc = .ok (.bipush i, 2)) (hv : (Int8.ofInt i).toInt32 = v) (kk : xJ p l e R s m args below meth c G nL Q P k n (pc + 2) lv (.int v :: st)) : xJ p l e R s m args below meth c G nL Q P k n pc lv (st) := fun w H locs ls hp hh hs hl => lv_bipush Γ.1 Γ.2.1 hd hv (kk w H locs ls hp hh hs hl)
theorem x_sipush (Γ : xC p s m meth c G cc nL own rt) {i : Int} {v : Int32} (hd : decode cc pc = .ok (.sipush i, 3)) (hv : (Int16.ofInt i).toInt32 = v) (kk : xJ p l e R s m args below meth c G nL Q P k n (pc + 3) lv (.int v :: st)) : xJ p l e R s m args below meth c G nL Q P k n pc lv (st) := fun w H locs ls hp hh hs hl => lv_sipush Γ.1 Γ.2.1 hd hv (kk w H locs ls hp hh hs hl)
theorem x_null (Γ : xC p s m meth c G cc nL own rt)  (hd : decode cc pc = .ok (.aconst_null, 1)) (kk : xJ p l e R s m args below meth c G nL Q P k n (pc + 1) lv (.null :: st)) : xJ p l e R s m args below meth c G nL Q P k n pc lv (st) := fun w H locs ls hp hh hs hl => lv_null Γ.1 Γ.2.1 hd  (kk w H locs ls hp hh hs hl)
theorem x_iadd (Γ : xC p s m meth c G cc nL own rt) {x y : Int32} (hd : decode cc pc = .ok (.iadd, 1)) (kk : xJ p l e R s m args below meth c G nL Q P k n (pc + 1) lv (.int (x + y) :: st)) : xJ p l e R s m args below meth c G nL Q P k n pc lv (.int y :: .int x :: st) := fun w H locs ls hp hh hs hl => lv_iadd Γ.1 Γ.2.1 hd  (kk w H locs ls hp hh hs hl)
theorem x_isub (Γ : xC p s m meth c G cc nL own rt) {x y : Int32} (hd : decode cc pc = .ok (.isub, 1)) (kk : xJ p l e R s m args below meth c G nL Q P k n (pc + 1) lv (.int (x - y) :: st)) : xJ p l e R s m args below meth c G nL Q P k n pc lv (.int y :: .int x :: st) := fun w H locs ls hp hh hs hl => lv_isub Γ.1 Γ.2.1 hd  (kk w H locs ls hp hh hs hl)
theorem x_imul (Γ : xC p s m meth c G cc nL own rt) {x y : Int32} (hd : decode cc pc = .ok (.imul, 1)) (kk : xJ p l e R s m args below meth c G nL Q P k n (pc + 1) lv (.int (x * y) :: st)) : xJ p l e R s m args below meth c G nL Q P k n pc lv (.int y :: .int x :: st) := fun w H locs ls hp hh hs hl => lv_imul Γ.1 Γ.2.1 hd  (kk w H locs ls hp hh hs hl)
theorem x_iand (Γ : xC p s m meth c G cc nL own rt) {x y : Int32} (hd : decode cc pc = .ok (.iand, 1)) (kk : xJ p l e R s m args below meth c G nL Q P k n (pc + 1) lv (.int (x &&& y) :: st)) : xJ p l e R s m args below meth c G nL Q P k n pc lv (.int y :: .int x :: st) := fun w H locs ls hp hh hs hl => lv_iand Γ.1 Γ.2.1 hd  (kk w H locs ls hp hh hs hl)
theorem x_ishr (Γ : xC p s m meth c G cc nL own rt) {x y : Int32} (hd : decode cc pc = .ok (.ishr, 1)) (kk : xJ p l e R s m args below meth c G nL Q P k n (pc + 1) lv (.int (x >>> (y &&& 31)) :: st)) : xJ p l e R s m args below meth c G nL Q P k n pc lv (.int y :: .int x :: st) := fun w H locs ls hp hh hs hl => lv_ishr Γ.1 Γ.2.1 hd  (kk w H locs ls hp hh hs hl)
theorem x_idiv (Γ : xC p s m meth c G cc nL own rt) {x y : Int32} (hd : decode cc pc = .ok (.idiv, 1)) (h0 : ¬ y = 0) (kk : xJ p l e R s m args below meth c G nL Q P k n (pc + 1) lv (.int (x / y) :: st)) : xJ p l e R s m args below meth c G nL Q P k n pc lv (.int y :: .int x :: st) := fun w H locs ls hp hh hs hl => lv_idiv Γ.1 Γ.2.1 hd h0 (kk w H locs ls hp hh hs hl)
theorem x_i2l (Γ : xC p s m meth c G cc nL own rt) {x : Int32} {v : Int64} (hd : decode cc pc = .ok (.i2l, 1)) (hv : x.toInt64 = v) (kk : xJ p l e R s m args below meth c G nL Q P k n (pc + 1) lv (.long v :: st)) : xJ p l e R s m args below meth c G nL Q P k n pc lv (.int x :: st) := fun w H locs ls hp hh hs hl => lv_i2l Γ.1 Γ.2.1 hd hv (kk w H locs ls hp hh hs hl)
theorem x_dup (Γ : xC p s m meth c G cc nL own rt) {va : Value} (hd : decode cc pc = .ok (.dup, 1)) (h1 : va.category = 1) (kk : xJ p l e R s m args below meth c G nL Q P k n (pc + 1) lv (va :: va :: st)) : xJ p l e R s m args below meth c G nL Q P k n pc lv (va :: st) := fun w H locs ls hp hh hs hl => lv_dup Γ.1 Γ.2.1 hd h1 (kk w H locs ls hp hh hs hl)
theorem x_pop (Γ : xC p s m meth c G cc nL own rt) {va : Value} (hd : decode cc pc = .ok (.pop, 1)) (h1 : va.category = 1) (kk : xJ p l e R s m args below meth c G nL Q P k n (pc + 1) lv (st)) : xJ p l e R s m args below meth c G nL Q P k n pc lv (va :: st) := fun w H locs ls hp hh hs hl => lv_pop Γ.1 Γ.2.1 hd h1 (kk w H locs ls hp hh hs hl)
theorem x_dup_x1 (Γ : xC p s m meth c G cc nL own rt) {va vb : Value} (hd : decode cc pc = .ok (.dup_x1, 1)) (h1 : va.category = 1) (h2 : vb.category = 1) (kk : xJ p l e R s m args below meth c G nL Q P k n (pc + 1) lv (va :: vb :: va :: st)) : xJ p l e R s m args below meth c G nL Q P k n pc lv (va :: vb :: st) := fun w H locs ls hp hh hs hl => lv_dup_x1 Γ.1 Γ.2.1 hd h1 h2 (kk w H locs ls hp hh hs hl)
theorem x_iload_n (Γ : xC p s m meth c G cc nL own rt) {j : Fin 4} {i : Nat} {x : Int32} (hd : decode cc pc = .ok (.iload_n j, 1)) (hi : (j : Nat) = i) (hg : xget lv i = some (.int x)) (kk : xJ p l e R s m args below meth c G nL Q P k n (pc + 1) lv (.int x :: st)) : xJ p l e R s m args below meth c G nL Q P k n pc lv st := fun w H locs ls hp hh hs hl => lv_iload_n Γ.1 Γ.2.1 hd hi (xget_at hl hg) (kk w H locs ls hp hh hs hl)
theorem x_iload (Γ : xC p s m meth c G cc nL own rt) {i : Nat} {x : Int32} (hd : decode cc pc = .ok (.iload i, 2)) (hg : xget lv i = some (.int x)) (kk : xJ p l e R s m args below meth c G nL Q P k n (pc + 2) lv (.int x :: st)) : xJ p l e R s m args below meth c G nL Q P k n pc lv st := fun w H locs ls hp hh hs hl => lv_iload Γ.1 Γ.2.1 hd (xget_at hl hg) (kk w H locs ls hp hh hs hl)
theorem x_aload_n (Γ : xC p s m meth c G cc nL own rt) {j : Fin 4} {i : Nat} {x : Nat} (hd : decode cc pc = .ok (.aload_n j, 1)) (hi : (j : Nat) = i) (hg : xget lv i = some (.ref x)) (kk : xJ p l e R s m args below meth c G nL Q P k n (pc + 1) lv (.ref x :: st)) : xJ p l e R s m args below meth c G nL Q P k n pc lv st := fun w H locs ls hp hh hs hl => lv_aload_n Γ.1 Γ.2.1 hd hi (xget_at hl hg) (kk w H locs ls hp hh hs hl)
theorem x_aload (Γ : xC p s m meth c G cc nL own rt) {i : Nat} {x : Nat} (hd : decode cc pc = .ok (.aload i, 2)) (hg : xget lv i = some (.ref x)) (kk : xJ p l e R s m args below meth c G nL Q P k n (pc + 2) lv (.ref x :: st)) : xJ p l e R s m args below meth c G nL Q P k n pc lv st := fun w H locs ls hp hh hs hl => lv_aload Γ.1 Γ.2.1 hd (xget_at hl hg) (kk w H locs ls hp hh hs hl)
theorem x_aload_nN (Γ : xC p s m meth c G cc nL own rt) {j : Fin 4} {i : Nat} (hd : decode cc pc = .ok (.aload_n j, 1)) (hi : (j : Nat) = i) (hg : xget lv i = some .null) (kk : xJ p l e R s m args below meth c G nL Q P k n (pc + 1) lv (.null :: st)) : xJ p l e R s m args below meth c G nL Q P k n pc lv st := fun w H locs ls hp hh hs hl => lv_aload_nN Γ.1 Γ.2.1 hd hi (xget_at hl hg) (kk w H locs ls hp hh hs hl)
theorem x_istore_n (Γ : xC p s m meth c G cc nL own rt) {j : Fin 4} {i : Nat} {x : Int32} (hd : decode cc pc = .ok (.istore_n j, 1)) (hi : (j : Nat) = i) (h1 : xone lv = true) (hn : i < nL) (kk : xJ p l e R s m args below meth c G nL Q P k n (pc + 1) ((i, .int x) :: xdel lv i) st) : xJ p l e R s m args below meth c G nL Q P k n pc lv (.int x :: st) := fun w H locs ls hp hh hs hl => lv_istore_n Γ.1 Γ.2.1 hd hi hl hn rfl (fun ls2 hl2 => kk w H locs ls2 hp hh hs (xset_has hl2 h1))
theorem x_istore (Γ : xC p s m meth c G cc nL own rt) {i : Nat} {x : Int32} (hd : decode cc pc = .ok (.istore i, 2)) (h1 : xone lv = true) (hn : i < nL) (kk : xJ p l e R s m args below meth c G nL Q P k n (pc + 2) ((i, .int x) :: xdel lv i) st) : xJ p l e R s m args below meth c G nL Q P k n pc lv (.int x :: st) := fun w H locs ls hp hh hs hl => lv_istore Γ.1 Γ.2.1 hd hl hn rfl (fun ls2 hl2 => kk w H locs ls2 hp hh hs (xset_has hl2 h1))
theorem x_astore_n (Γ : xC p s m meth c G cc nL own rt) {j : Fin 4} {i : Nat} {x : Nat} (hd : decode cc pc = .ok (.astore_n j, 1)) (hi : (j : Nat) = i) (h1 : xone lv = true) (hn : i < nL) (kk : xJ p l e R s m args below meth c G nL Q P k n (pc + 1) ((i, .ref x) :: xdel lv i) st) : xJ p l e R s m args below meth c G nL Q P k n pc lv (.ref x :: st) := fun w H locs ls hp hh hs hl => lv_astore_n Γ.1 Γ.2.1 hd hi hl hn rfl (fun ls2 hl2 => kk w H locs ls2 hp hh hs (xset_has hl2 h1))
theorem x_astore (Γ : xC p s m meth c G cc nL own rt) {i : Nat} {x : Nat} (hd : decode cc pc = .ok (.astore i, 2)) (h1 : xone lv = true) (hn : i < nL) (kk : xJ p l e R s m args below meth c G nL Q P k n (pc + 2) ((i, .ref x) :: xdel lv i) st) : xJ p l e R s m args below meth c G nL Q P k n pc lv (.ref x :: st) := fun w H locs ls hp hh hs hl => lv_astore Γ.1 Γ.2.1 hd hl hn rfl (fun ls2 hl2 => kk w H locs ls2 hp hh hs (xset_has hl2 h1))
theorem x_astore_nN (Γ : xC p s m meth c G cc nL own rt) {j : Fin 4} {i : Nat} (hd : decode cc pc = .ok (.astore_n j, 1)) (hi : (j : Nat) = i) (h1 : xone lv = true) (hn : i < nL) (kk : xJ p l e R s m args below meth c G nL Q P k n (pc + 1) ((i, .null) :: xdel lv i) st) : xJ p l e R s m args below meth c G nL Q P k n pc lv (.null :: st) := fun w H locs ls hp hh hs hl => lv_astore_nN Γ.1 Γ.2.1 hd hi hl hn rfl (fun ls2 hl2 => kk w H locs ls2 hp hh hs (xset_has hl2 h1))
theorem x_iinc (Γ : xC p s m meth c G cc nL own rt) {i : Nat} {d : Int} {x v : Int32} (hd : decode cc pc = .ok (.iinc i d, 3)) (hg : xget lv i = some (.int x)) (hv : x + Int32.ofInt d = v) (h1 : xone lv = true) (hn : i < nL) (kk : xJ p l e R s m args below meth c G nL Q P k n (pc + 3) ((i, .int v) :: xdel lv i) st) : xJ p l e R s m args below meth c G nL Q P k n pc lv st := fun w H locs ls hp hh hs hl => by
  obtain ⟨j, hj⟩ := List.mem_iff_getElem?.mp (xget_mem hg)
  exact lv_iinc Γ.1 Γ.2.1 hd hl hj hv hn rfl (fun ls2 hl2 => kk w H locs ls2 hp hh hs (xset_has hl2 h1))
theorem x_icmp_eq (Γ : xC p s m meth c G cc nL own rt) {x y : Int32} {off : Int} {tgt : Nat} (hd : decode cc pc = .ok (.if_icmp .eq off, 3)) (ht : (pc : Int) + off = (tgt : Int)) (kt : x = y → xJ p l e R s m args below meth c G nL Q P k n tgt lv st) (kf : ¬ x = y → xJ p l e R s m args below meth c G nL Q P k n (pc + 3) lv st) : xJ p l e R s m args below meth c G nL Q P k n pc lv (.int y :: .int x :: st) := fun w H locs ls hp hh hs hl => lv_icmp_eq Γ.1 Γ.2.1 hd ht (fun q => kt q w H locs ls hp hh hs hl) (fun q => kf q w H locs ls hp hh hs hl)
theorem x_icmp_ne (Γ : xC p s m meth c G cc nL own rt) {x y : Int32} {off : Int} {tgt : Nat} (hd : decode cc pc = .ok (.if_icmp .ne off, 3)) (ht : (pc : Int) + off = (tgt : Int)) (kt : ¬ x = y → xJ p l e R s m args below meth c G nL Q P k n tgt lv st) (kf : x = y → xJ p l e R s m args below meth c G nL Q P k n (pc + 3) lv st) : xJ p l e R s m args below meth c G nL Q P k n pc lv (.int y :: .int x :: st) := fun w H locs ls hp hh hs hl => lv_icmp_ne Γ.1 Γ.2.1 hd ht (fun q => kt q w H locs ls hp hh hs hl) (fun q => kf q w H locs ls hp hh hs hl)
theorem x_icmp_lt (Γ : xC p s m meth c G cc nL own rt) {x y : Int32} {off : Int} {tgt : Nat} (hd : decode cc pc = .ok (.if_icmp .lt off, 3)) (ht : (pc : Int) + off = (tgt : Int)) (kt : x < y → xJ p l e R s m args below meth c G nL Q P k n tgt lv st) (kf : ¬ x < y → xJ p l e R s m args below meth c G nL Q P k n (pc + 3) lv st) : xJ p l e R s m args below meth c G nL Q P k n pc lv (.int y :: .int x :: st) := fun w H locs ls hp hh hs hl => lv_icmp_lt Γ.1 Γ.2.1 hd ht (fun q => kt q w H locs ls hp hh hs hl) (fun q => kf q w H locs ls hp hh hs hl)
theorem x_icmp_ge (Γ : xC p s m meth c G cc nL own rt) {x y : Int32} {off : Int} {tgt : Nat} (hd : decode cc pc = .ok (.if_icmp .ge off, 3)) (ht : (pc : Int) + off = (tgt : Int)) (kt : y ≤ x → xJ p l e R s m args below meth c G nL Q P k n tgt lv st) (kf : ¬ y ≤ x → xJ p l e R s m args below meth c G nL Q P k n (pc + 3) lv st) : xJ p l e R s m args below meth c G nL Q P k n pc lv (.int y :: .int x :: st) := fun w H locs ls hp hh hs hl => lv_icmp_ge Γ.1 Γ.2.1 hd ht (fun q => kt q w H locs ls hp hh hs hl) (fun q => kf q w H locs ls hp hh hs hl)
theorem x_icmp_gt (Γ : xC p s m meth c G cc nL own rt) {x y : Int32} {off : Int} {tgt : Nat} (hd : decode cc pc = .ok (.if_icmp .gt off, 3)) (ht : (pc : Int) + off = (tgt : Int)) (kt : y < x → xJ p l e R s m args below meth c G nL Q P k n tgt lv st) (kf : ¬ y < x → xJ p l e R s m args below meth c G nL Q P k n (pc + 3) lv st) : xJ p l e R s m args below meth c G nL Q P k n pc lv (.int y :: .int x :: st) := fun w H locs ls hp hh hs hl => lv_icmp_gt Γ.1 Γ.2.1 hd ht (fun q => kt q w H locs ls hp hh hs hl) (fun q => kf q w H locs ls hp hh hs hl)
theorem x_icmp_le (Γ : xC p s m meth c G cc nL own rt) {x y : Int32} {off : Int} {tgt : Nat} (hd : decode cc pc = .ok (.if_icmp .le off, 3)) (ht : (pc : Int) + off = (tgt : Int)) (kt : x ≤ y → xJ p l e R s m args below meth c G nL Q P k n tgt lv st) (kf : ¬ x ≤ y → xJ p l e R s m args below meth c G nL Q P k n (pc + 3) lv st) : xJ p l e R s m args below meth c G nL Q P k n pc lv (.int y :: .int x :: st) := fun w H locs ls hp hh hs hl => lv_icmp_le Γ.1 Γ.2.1 hd ht (fun q => kt q w H locs ls hp hh hs hl) (fun q => kf q w H locs ls hp hh hs hl)
theorem x_if_eq (Γ : xC p s m meth c G cc nL own rt) {x : Int32} {off : Int} {tgt : Nat} (hd : decode cc pc = .ok (.ifCond .eq off, 3)) (ht : (pc : Int) + off = (tgt : Int)) (kt : x = 0 → xJ p l e R s m args below meth c G nL Q P k n tgt lv st) (kf : ¬ x = 0 → xJ p l e R s m args below meth c G nL Q P k n (pc + 3) lv st) : xJ p l e R s m args below meth c G nL Q P k n pc lv (.int x :: st) := fun w H locs ls hp hh hs hl => lv_if_eq Γ.1 Γ.2.1 hd ht (fun q => kt q w H locs ls hp hh hs hl) (fun q => kf q w H locs ls hp hh hs hl)
theorem x_if_ne (Γ : xC p s m meth c G cc nL own rt) {x : Int32} {off : Int} {tgt : Nat} (hd : decode cc pc = .ok (.ifCond .ne off, 3)) (ht : (pc : Int) + off = (tgt : Int)) (kt : ¬ x = 0 → xJ p l e R s m args below meth c G nL Q P k n tgt lv st) (kf : x = 0 → xJ p l e R s m args below meth c G nL Q P k n (pc + 3) lv st) : xJ p l e R s m args below meth c G nL Q P k n pc lv (.int x :: st) := fun w H locs ls hp hh hs hl => lv_if_ne Γ.1 Γ.2.1 hd ht (fun q => kt q w H locs ls hp hh hs hl) (fun q => kf q w H locs ls hp hh hs hl)
theorem x_if_lt (Γ : xC p s m meth c G cc nL own rt) {x : Int32} {off : Int} {tgt : Nat} (hd : decode cc pc = .ok (.ifCond .lt off, 3)) (ht : (pc : Int) + off = (tgt : Int)) (kt : x < 0 → xJ p l e R s m args below meth c G nL Q P k n tgt lv st) (kf : ¬ x < 0 → xJ p l e R s m args below meth c G nL Q P k n (pc + 3) lv st) : xJ p l e R s m args below meth c G nL Q P k n pc lv (.int x :: st) := fun w H locs ls hp hh hs hl => lv_if_lt Γ.1 Γ.2.1 hd ht (fun q => kt q w H locs ls hp hh hs hl) (fun q => kf q w H locs ls hp hh hs hl)
theorem x_if_ge (Γ : xC p s m meth c G cc nL own rt) {x : Int32} {off : Int} {tgt : Nat} (hd : decode cc pc = .ok (.ifCond .ge off, 3)) (ht : (pc : Int) + off = (tgt : Int)) (kt : 0 ≤ x → xJ p l e R s m args below meth c G nL Q P k n tgt lv st) (kf : ¬ 0 ≤ x → xJ p l e R s m args below meth c G nL Q P k n (pc + 3) lv st) : xJ p l e R s m args below meth c G nL Q P k n pc lv (.int x :: st) := fun w H locs ls hp hh hs hl => lv_if_ge Γ.1 Γ.2.1 hd ht (fun q => kt q w H locs ls hp hh hs hl) (fun q => kf q w H locs ls hp hh hs hl)
theorem x_if_gt (Γ : xC p s m meth c G cc nL own rt) {x : Int32} {off : Int} {tgt : Nat} (hd : decode cc pc = .ok (.ifCond .gt off, 3)) (ht : (pc : Int) + off = (tgt : Int)) (kt : 0 < x → xJ p l e R s m args below meth c G nL Q P k n tgt lv st) (kf : ¬ 0 < x → xJ p l e R s m args below meth c G nL Q P k n (pc + 3) lv st) : xJ p l e R s m args below meth c G nL Q P k n pc lv (.int x :: st) := fun w H locs ls hp hh hs hl => lv_if_gt Γ.1 Γ.2.1 hd ht (fun q => kt q w H locs ls hp hh hs hl) (fun q => kf q w H locs ls hp hh hs hl)
theorem x_if_le (Γ : xC p s m meth c G cc nL own rt) {x : Int32} {off : Int} {tgt : Nat} (hd : decode cc pc = .ok (.ifCond .le off, 3)) (ht : (pc : Int) + off = (tgt : Int)) (kt : x ≤ 0 → xJ p l e R s m args below meth c G nL Q P k n tgt lv st) (kf : ¬ x ≤ 0 → xJ p l e R s m args below meth c G nL Q P k n (pc + 3) lv st) : xJ p l e R s m args below meth c G nL Q P k n pc lv (.int x :: st) := fun w H locs ls hp hh hs hl => lv_if_le Γ.1 Γ.2.1 hd ht (fun q => kt q w H locs ls hp hh hs hl) (fun q => kf q w H locs ls hp hh hs hl)
theorem x_goto (Γ : xC p s m meth c G cc nL own rt) {off : Int} {tgt : Nat} (hd : decode cc pc = .ok (.goto off, 3)) (ht : (pc : Int) + off = (tgt : Int)) (kk : xJ p l e R s m args below meth c G nL Q P k n tgt lv st) : xJ p l e R s m args below meth c G nL Q P k n pc lv st := fun w H locs ls hp hh hs hl => lv_goto Γ.1 Γ.2.1 hd ht (kk w H locs ls hp hh hs hl)
theorem x_ifnull (Γ : xC p s m meth c G cc nL own rt) {x : Nat} {off : Int} (hd : decode cc pc = .ok (.ifnull off, 3)) (kk : xJ p l e R s m args below meth c G nL Q P k n (pc + 3) lv st) : xJ p l e R s m args below meth c G nL Q P k n pc lv (.ref x :: st) := fun w H locs ls hp hh hs hl => lv_ifnull Γ.1 Γ.2.1 hd (kk w H locs ls hp hh hs hl)
theorem x_ifnullN (Γ : xC p s m meth c G cc nL own rt) {off : Int} {tgt : Nat} (hd : decode cc pc = .ok (.ifnull off, 3)) (ht : (pc : Int) + off = (tgt : Int)) (kk : xJ p l e R s m args below meth c G nL Q P k n tgt lv st) : xJ p l e R s m args below meth c G nL Q P k n pc lv (.null :: st) := fun w H locs ls hp hh hs hl => lv_ifnullN Γ.1 Γ.2.1 hd ht (kk w H locs ls hp hh hs hl)
theorem x_acmp_eq (Γ : xC p s m meth c G cc nL own rt) {x y : Nat} {off : Int} {tgt : Nat} (hd : decode cc pc = .ok (.if_acmp .eq off, 3)) (ht : (pc : Int) + off = (tgt : Int)) (kt : x = y → xJ p l e R s m args below meth c G nL Q P k n tgt lv st) (kf : ¬ x = y → xJ p l e R s m args below meth c G nL Q P k n (pc + 3) lv st) : xJ p l e R s m args below meth c G nL Q P k n pc lv (.ref y :: .ref x :: st) := fun w H locs ls hp hh hs hl => lv_acmp_eq (rx := some x) (ry := some y) Γ.1 Γ.2.1 hd ht (fun q => kt (Option.some.inj q) w H locs ls hp hh hs hl) (fun q => kf (fun z => q (by rw [z])) w H locs ls hp hh hs hl)
theorem x_acmp_ne (Γ : xC p s m meth c G cc nL own rt) {x y : Nat} {off : Int} {tgt : Nat} (hd : decode cc pc = .ok (.if_acmp .ne off, 3)) (ht : (pc : Int) + off = (tgt : Int)) (kt : ¬ x = y → xJ p l e R s m args below meth c G nL Q P k n tgt lv st) (kf : x = y → xJ p l e R s m args below meth c G nL Q P k n (pc + 3) lv st) : xJ p l e R s m args below meth c G nL Q P k n pc lv (.ref y :: .ref x :: st) := fun w H locs ls hp hh hs hl => lv_acmp_ne (rx := some x) (ry := some y) Γ.1 Γ.2.1 hd ht (fun q => kt (fun z => q (by rw [z])) w H locs ls hp hh hs hl) (fun q => kf (Option.some.inj q) w H locs ls hp hh hs hl)
theorem x_lcmp (Γ : xC p s m meth c G cc nL own rt) {x y : Int64}  (hd : decode cc pc = .ok (.lcmp, 1)) (kk : xJ p l e R s m args below meth c G nL Q P k n (pc + 1) lv (.int (lg_cmp x y) :: st)) : xJ p l e R s m args below meth c G nL Q P k n pc lv (.long y :: .long x :: st) := fun w H locs ls hp hh hs hl => W.lcmp Γ.1 Γ.2.1 hd (kk w H locs ls hp hh hs hl)
end XJ
end XK
end
section
/-! the words of the tables, by their places (printed by wip/p23/gen/base.py); a word that the tables of whole have too bears the name that it has there -/
theorem k_0 : (Jvm.Cond.initialized "LeftThingsLaw") ∈ xAll := xAll_in 24 (by decide +kernel) (by decide +kernel)
theorem k_1 : (Jvm.Cond.initialized "LeftThings") ∈ xAll := xAll_in 25 (by decide +kernel) (by decide +kernel)
theorem k_2 : (Jvm.Cond.initialized "java/util/AbstractCollection") ∈ xAll := xAll_in 26 (by decide +kernel) (by decide +kernel)
theorem k_3 : (Jvm.Cond.initialized "java/util/AbstractList") ∈ xAll := xAll_in 27 (by decide +kernel) (by decide +kernel)
theorem k_4 : (Jvm.Cond.initialized "java/util/ArrayList") ∈ xAll := xAll_in 28 (by decide +kernel) (by decide +kernel)
theorem k_5 : (Jvm.Cond.initialized "java/util/Arrays") ∈ xAll := xAll_in 29 (by decide +kernel) (by decide +kernel)
theorem k_7 : (Jvm.Cond.initialized "java/lang/Throwable") ∈ xAll := xAll_in 30 (by decide +kernel) (by decide +kernel)
theorem k_8 : (Jvm.Cond.initialized "java/lang/Exception") ∈ xAll := xAll_in 31 (by decide +kernel) (by decide +kernel)
theorem k_9 : (Jvm.Cond.initialized "java/lang/RuntimeException") ∈ xAll := xAll_in 32 (by decide +kernel) (by decide +kernel)
theorem k_10 : (Jvm.Cond.initialized "java/lang/IllegalArgumentException") ∈ xAll := xAll_in 33 (by decide +kernel) (by decide +kernel)
theorem k_19 : (Jvm.Cond.initialized "java/lang/IndexOutOfBoundsException") ∈ xAll := xAll_in 34 (by decide +kernel) (by decide +kernel)
theorem k_11 : (Jvm.Cond.initialized "java/util/Objects") ∈ xAll := xAll_in 35 (by decide +kernel) (by decide +kernel)
theorem k_12 : (Jvm.Cond.initialized "jdk/internal/util/Preconditions") ∈ xAll := xAll_in 36 (by decide +kernel) (by decide +kernel)
theorem k_13 : (Jvm.Cond.initialized "java/lang/IllegalStateException") ∈ xAll := xAll_in 37 (by decide +kernel) (by decide +kernel)
theorem k_17 : (Jvm.Cond.initialized "java/lang/Math") ∈ xAll := xAll_in 38 (by decide +kernel) (by decide +kernel)
theorem k_18 : (Jvm.Cond.initialized "java/lang/System") ∈ xAll := xAll_in 39 (by decide +kernel) (by decide +kernel)
theorem k_15 : (Jvm.Cond.initialized "LeftThings$Tag") ∈ xAll := xAll_in 40 (by decide +kernel) (by decide +kernel)
theorem k_14 : (Jvm.Cond.initialized "LeftThings$Thing") ∈ xAll := xAll_in 41 (by decide +kernel) (by decide +kernel)
theorem k_16 : (Jvm.Cond.initialized "jdk/internal/util/ArraysSupport") ∈ xAll := xAll_in 42 (by decide +kernel) (by decide +kernel)
theorem k_2019 : (Jvm.Cond.classLink "LeftThingsLaw" (10 : Nat) "LeftThings") ∈ xAll := xAll_in 43 (by decide +kernel) (by decide +kernel)
theorem k_21 : (Jvm.Cond.instantiable "LeftThings" (7 : Nat)) ∈ xAll := xAll_in 44 (by decide +kernel) (by decide +kernel)
theorem k_22 : (Jvm.Cond.methodLink "LeftThingsLaw" (70 : Nat) ({ cls := "LeftThings", name := "<init>", desc := "()V" } : Jvm.MethodName)) ∈ xAll := xAll_in 45 (by decide +kernel) (by decide +kernel)
theorem k_23 : (Jvm.Cond.instanceMethod ({ cls := "LeftThings", name := "<init>", desc := "()V" } : Jvm.MethodName)) ∈ xAll := xAll_in 46 (by decide +kernel) (by decide +kernel)
theorem k_24 : (Jvm.Cond.code ({ cls := "LeftThings", name := "<init>", desc := "()V" } : Jvm.MethodName) prog_1_method_1_code (1 : Nat) (Option.none : Option Jvm.ClassFile.FieldType)) ∈ xAll := xAll_in 47 (by decide +kernel) (by decide +kernel)
theorem k_25 : (Jvm.Cond.methodLink "LeftThings" (1 : Nat) ({ cls := "java/lang/Object", name := "<init>", desc := "()V" } : Jvm.MethodName)) ∈ xAll := xAll_in 48 (by decide +kernel) (by decide +kernel)
theorem k_26 : (Jvm.Cond.instanceMethod ({ cls := "java/lang/Object", name := "<init>", desc := "()V" } : Jvm.MethodName)) ∈ xAll := xAll_in 49 (by decide +kernel) (by decide +kernel)
theorem k_27 : (Jvm.Cond.code ({ cls := "java/lang/Object", name := "<init>", desc := "()V" } : Jvm.MethodName) object_method_1_code (1 : Nat) (Option.none : Option Jvm.ClassFile.FieldType)) ∈ xAll := xAll_in 50 (by decide +kernel) (by decide +kernel)
theorem k_28 : (Jvm.Cond.classLink "LeftThings" (16 : Nat) "java/util/ArrayList") ∈ xAll := xAll_in 51 (by decide +kernel) (by decide +kernel)
theorem k_29 : (Jvm.Cond.instantiable "java/util/ArrayList" (3 : Nat)) ∈ xAll := xAll_in 52 (by decide +kernel) (by decide +kernel)
theorem k_30 : (Jvm.Cond.methodLink "LeftThings" (18 : Nat) ({ cls := "java/util/ArrayList", name := "<init>", desc := "()V" } : Jvm.MethodName)) ∈ xAll := xAll_in 53 (by decide +kernel) (by decide +kernel)
theorem k_31 : (Jvm.Cond.instanceMethod ({ cls := "java/util/ArrayList", name := "<init>", desc := "()V" } : Jvm.MethodName)) ∈ xAll := xAll_in 54 (by decide +kernel) (by decide +kernel)
theorem k_32 : (Jvm.Cond.code ({ cls := "java/util/ArrayList", name := "<init>", desc := "()V" } : Jvm.MethodName) prog_20_method_2_code (1 : Nat) (Option.none : Option Jvm.ClassFile.FieldType)) ∈ xAll := xAll_in 55 (by decide +kernel) (by decide +kernel)
theorem k_33 : (Jvm.Cond.methodLink "java/util/ArrayList" (1 : Nat) ({ cls := "java/util/AbstractList", name := "<init>", desc := "()V" } : Jvm.MethodName)) ∈ xAll := xAll_in 56 (by decide +kernel) (by decide +kernel)
theorem k_34 : (Jvm.Cond.instanceMethod ({ cls := "java/util/AbstractList", name := "<init>", desc := "()V" } : Jvm.MethodName)) ∈ xAll := xAll_in 57 (by decide +kernel) (by decide +kernel)
theorem k_35 : (Jvm.Cond.code ({ cls := "java/util/AbstractList", name := "<init>", desc := "()V" } : Jvm.MethodName) prog_19_method_1_code (1 : Nat) (Option.none : Option Jvm.ClassFile.FieldType)) ∈ xAll := xAll_in 58 (by decide +kernel) (by decide +kernel)
theorem k_36 : (Jvm.Cond.methodLink "java/util/AbstractList" (1 : Nat) ({ cls := "java/util/AbstractCollection", name := "<init>", desc := "()V" } : Jvm.MethodName)) ∈ xAll := xAll_in 59 (by decide +kernel) (by decide +kernel)
theorem k_37 : (Jvm.Cond.instanceMethod ({ cls := "java/util/AbstractCollection", name := "<init>", desc := "()V" } : Jvm.MethodName)) ∈ xAll := xAll_in 60 (by decide +kernel) (by decide +kernel)
theorem k_38 : (Jvm.Cond.code ({ cls := "java/util/AbstractCollection", name := "<init>", desc := "()V" } : Jvm.MethodName) prog_18_method_1_code (1 : Nat) (Option.none : Option Jvm.ClassFile.FieldType)) ∈ xAll := xAll_in 61 (by decide +kernel) (by decide +kernel)
theorem k_39 : (Jvm.Cond.methodLink "java/util/AbstractCollection" (1 : Nat) ({ cls := "java/lang/Object", name := "<init>", desc := "()V" } : Jvm.MethodName)) ∈ xAll := xAll_in 62 (by decide +kernel) (by decide +kernel)
theorem k_40 : (Jvm.Cond.fieldLink "java/util/ArrayList" (39 : Nat) "java/util/ArrayList" "DEFAULTCAPACITY_EMPTY_ELEMENTDATA" "[Ljava/lang/Object;") ∈ xAll := xAll_in 63 (by decide +kernel) (by decide +kernel)
theorem k_42 : (Jvm.Cond.fieldLink "java/util/ArrayList" (9 : Nat) "java/util/ArrayList" "elementData" "[Ljava/lang/Object;") ∈ xAll := xAll_in 65 (by decide +kernel) (by decide +kernel)
theorem k_43 : (Jvm.Cond.fieldLink "java/util/ArrayList" (48 : Nat) "java/util/ArrayList" "size" "I") ∈ xAll := xAll_in 66 (by decide +kernel) (by decide +kernel)
theorem k_44 : (Jvm.Cond.fieldLink "java/util/AbstractList" (7 : Nat) "java/util/AbstractList" "modCount" "I") ∈ xAll := xAll_in 67 (by decide +kernel) (by decide +kernel)
theorem k_45 : (Jvm.Cond.fieldLink "java/util/ArrayList" (63 : Nat) "java/util/ArrayList" "modCount" "I") ∈ xAll := xAll_in 68 (by decide +kernel) (by decide +kernel)
theorem k_46 : (Jvm.Cond.sameField "java/util/ArrayList" "java/util/AbstractList" "modCount" "I") ∈ xAll := xAll_in 69 (by decide +kernel) (by decide +kernel)
theorem k_47 : (Jvm.Cond.lays "java/util/ArrayList" "java/util/ArrayList" "elementData" "[Ljava/lang/Object;") ∈ xAll := xAll_in 70 (by decide +kernel) (by decide +kernel)
theorem k_48 : (Jvm.Cond.soleField "java/util/ArrayList" "elementData") ∈ xAll := xAll_in 71 (by decide +kernel) (by decide +kernel)
theorem k_49 : (Jvm.Cond.lays "java/util/ArrayList" "java/util/ArrayList" "size" "I") ∈ xAll := xAll_in 72 (by decide +kernel) (by decide +kernel)
theorem k_50 : (Jvm.Cond.soleField "java/util/ArrayList" "size") ∈ xAll := xAll_in 73 (by decide +kernel) (by decide +kernel)
theorem k_51 : (Jvm.Cond.lays "java/util/ArrayList" "java/util/AbstractList" "modCount" "I") ∈ xAll := xAll_in 74 (by decide +kernel) (by decide +kernel)
theorem k_52 : (Jvm.Cond.soleField "java/util/AbstractList" "modCount") ∈ xAll := xAll_in 75 (by decide +kernel) (by decide +kernel)
theorem k_53 : (Jvm.Cond.superclass "java/util/ArrayList" "java/util/AbstractList") ∈ xAll := xAll_in 76 (by decide +kernel) (by decide +kernel)
theorem k_55 : (Jvm.Cond.methodLink "LeftThings" (36 : Nat) ({ cls := "java/util/Arrays", name := "fill", desc := "([II)V" } : Jvm.MethodName)) ∈ xAll := xAll_in 78 (by decide +kernel) (by decide +kernel)
theorem k_56 : (Jvm.Cond.static ({ cls := "java/util/Arrays", name := "fill", desc := "([II)V" } : Jvm.MethodName)) ∈ xAll := xAll_in 79 (by decide +kernel) (by decide +kernel)
theorem k_57 : (Jvm.Cond.code ({ cls := "java/util/Arrays", name := "fill", desc := "([II)V" } : Jvm.MethodName) prog_21_method_103_code (4 : Nat) (Option.none : Option Jvm.ClassFile.FieldType)) ∈ xAll := xAll_in 80 (by decide +kernel) (by decide +kernel)
theorem k_58 : (Jvm.Cond.fieldLink "LeftThings" (9 : Nat) "LeftThings" "rooms" "[I") ∈ xAll := xAll_in 81 (by decide +kernel) (by decide +kernel)
theorem k_59 : (Jvm.Cond.fieldLink "LeftThings" (13 : Nat) "LeftThings" "purses" "[I") ∈ xAll := xAll_in 82 (by decide +kernel) (by decide +kernel)
theorem k_60 : (Jvm.Cond.fieldLink "LeftThings" (19 : Nat) "LeftThings" "leftThings" "Ljava/util/ArrayList;") ∈ xAll := xAll_in 83 (by decide +kernel) (by decide +kernel)
theorem k_61 : (Jvm.Cond.fieldLink "LeftThings" (23 : Nat) "LeftThings" "wishes" "Ljava/util/ArrayList;") ∈ xAll := xAll_in 84 (by decide +kernel) (by decide +kernel)
theorem k_62 : (Jvm.Cond.fieldLink "LeftThings" (26 : Nat) "LeftThings" "vanRoom" "I") ∈ xAll := xAll_in 85 (by decide +kernel) (by decide +kernel)
theorem k_63 : (Jvm.Cond.fieldLink "LeftThings" (30 : Nat) "LeftThings" "today" "I") ∈ xAll := xAll_in 86 (by decide +kernel) (by decide +kernel)
theorem k_64 : (Jvm.Cond.fieldLink "LeftThings" (33 : Nat) "LeftThings" "takenFees" "I") ∈ xAll := xAll_in 87 (by decide +kernel) (by decide +kernel)
theorem k_65 : (Jvm.Cond.laysFinal "LeftThings" "LeftThings" "rooms" "[I") ∈ xAll := xAll_in 88 (by decide +kernel) (by decide +kernel)
theorem k_66 : (Jvm.Cond.soleField "LeftThings" "rooms") ∈ xAll := xAll_in 89 (by decide +kernel) (by decide +kernel)
theorem k_67 : (Jvm.Cond.laysFinal "LeftThings" "LeftThings" "purses" "[I") ∈ xAll := xAll_in 90 (by decide +kernel) (by decide +kernel)
theorem k_68 : (Jvm.Cond.soleField "LeftThings" "purses") ∈ xAll := xAll_in 91 (by decide +kernel) (by decide +kernel)
theorem k_69 : (Jvm.Cond.laysFinal "LeftThings" "LeftThings" "leftThings" "Ljava/util/ArrayList;") ∈ xAll := xAll_in 92 (by decide +kernel) (by decide +kernel)
theorem k_70 : (Jvm.Cond.soleField "LeftThings" "leftThings") ∈ xAll := xAll_in 93 (by decide +kernel) (by decide +kernel)
theorem k_71 : (Jvm.Cond.laysFinal "LeftThings" "LeftThings" "wishes" "Ljava/util/ArrayList;") ∈ xAll := xAll_in 94 (by decide +kernel) (by decide +kernel)
theorem k_72 : (Jvm.Cond.soleField "LeftThings" "wishes") ∈ xAll := xAll_in 95 (by decide +kernel) (by decide +kernel)
theorem k_73 : (Jvm.Cond.lays "LeftThings" "LeftThings" "vanRoom" "I") ∈ xAll := xAll_in 96 (by decide +kernel) (by decide +kernel)
theorem k_74 : (Jvm.Cond.soleField "LeftThings" "vanRoom") ∈ xAll := xAll_in 97 (by decide +kernel) (by decide +kernel)
theorem k_75 : (Jvm.Cond.lays "LeftThings" "LeftThings" "today" "I") ∈ xAll := xAll_in 98 (by decide +kernel) (by decide +kernel)
theorem k_76 : (Jvm.Cond.soleField "LeftThings" "today") ∈ xAll := xAll_in 99 (by decide +kernel) (by decide +kernel)
theorem k_77 : (Jvm.Cond.lays "LeftThings" "LeftThings" "takenFees" "I") ∈ xAll := xAll_in 100 (by decide +kernel) (by decide +kernel)
theorem k_78 : (Jvm.Cond.soleField "LeftThings" "takenFees") ∈ xAll := xAll_in 101 (by decide +kernel) (by decide +kernel)
theorem k_79 : (Jvm.Cond.superclass "LeftThings" "java/lang/Object") ∈ xAll := xAll_in 102 (by decide +kernel) (by decide +kernel)
theorem k_2079 : (Jvm.Cond.methodLink "LeftThingsLaw" (79 : Nat) ({ cls := "LeftThings", name := "pass", desc := "(I)I" } : Jvm.MethodName)) ∈ xAll := xAll_in 103 (by decide +kernel) (by decide +kernel)
theorem k_486 : (Jvm.Cond.instanceMethod ({ cls := "LeftThings", name := "pass", desc := "(I)I" } : Jvm.MethodName)) ∈ xAll := xAll_in 104 (by decide +kernel) (by decide +kernel)
theorem k_487 : (Jvm.Cond.selects "LeftThings" ({ cls := "LeftThings", name := "pass", desc := "(I)I" } : Jvm.MethodName) ({ cls := "LeftThings", name := "pass", desc := "(I)I" } : Jvm.MethodName)) ∈ xAll := xAll_in 105 (by decide +kernel) (by decide +kernel)
theorem k_488 : (Jvm.Cond.code ({ cls := "LeftThings", name := "pass", desc := "(I)I" } : Jvm.MethodName) prog_1_method_11_code (4 : Nat) (Option.some Jvm.ClassFile.FieldType.int)) ∈ xAll := xAll_in 106 (by decide +kernel) (by decide +kernel)
theorem k_110 : (Jvm.Cond.classLink "LeftThings" (49 : Nat) "java/lang/IllegalArgumentException") ∈ xAll := xAll_in 107 (by decide +kernel) (by decide +kernel)
theorem k_111 : (Jvm.Cond.instantiable "java/lang/IllegalArgumentException" (6 : Nat)) ∈ xAll := xAll_in 108 (by decide +kernel) (by decide +kernel)
theorem k_112 : (Jvm.Cond.castable "java/lang/IllegalArgumentException" "java/lang/IllegalArgumentException") ∈ xAll := xAll_in 109 (by decide +kernel) (by decide +kernel)
theorem k_113 : (Jvm.Cond.declares ({ cls := "java/lang/RuntimeException", name := "<init>", desc := "()V" } : Jvm.MethodName)) ∈ xAll := xAll_in 110 (by decide +kernel) (by decide +kernel)
theorem k_114 : (Jvm.Cond.declares ({ cls := "java/lang/RuntimeException", name := "<init>", desc := "(Ljava/lang/String;)V" } : Jvm.MethodName)) ∈ xAll := xAll_in 111 (by decide +kernel) (by decide +kernel)
theorem k_115 : (Jvm.Cond.declares ({ cls := "java/lang/Exception", name := "<init>", desc := "()V" } : Jvm.MethodName)) ∈ xAll := xAll_in 112 (by decide +kernel) (by decide +kernel)
theorem k_116 : (Jvm.Cond.declares ({ cls := "java/lang/Exception", name := "<init>", desc := "(Ljava/lang/String;)V" } : Jvm.MethodName)) ∈ xAll := xAll_in 113 (by decide +kernel) (by decide +kernel)
theorem k_117 : (Jvm.Cond.declares ({ cls := "java/lang/Throwable", name := "<init>", desc := "()V" } : Jvm.MethodName)) ∈ xAll := xAll_in 114 (by decide +kernel) (by decide +kernel)
theorem k_118 : (Jvm.Cond.declares ({ cls := "java/lang/Throwable", name := "<init>", desc := "(Ljava/lang/String;)V" } : Jvm.MethodName)) ∈ xAll := xAll_in 115 (by decide +kernel) (by decide +kernel)
theorem k_119 : (Jvm.Cond.selects "java/lang/IllegalArgumentException" ({ cls := "java/lang/Throwable", name := "fillInStackTrace", desc := "(I)Ljava/lang/Throwable;" } : Jvm.MethodName) ({ cls := "java/lang/Throwable", name := "fillInStackTrace", desc := "(I)Ljava/lang/Throwable;" } : Jvm.MethodName)) ∈ xAll := xAll_in 116 (by decide +kernel) (by decide +kernel)
theorem k_120 : (Jvm.Cond.selects "java/lang/IllegalArgumentException" ({ cls := "java/lang/Throwable", name := "fillInStackTrace", desc := "()Ljava/lang/Throwable;" } : Jvm.MethodName) ({ cls := "java/lang/Throwable", name := "fillInStackTrace", desc := "()Ljava/lang/Throwable;" } : Jvm.MethodName)) ∈ xAll := xAll_in 117 (by decide +kernel) (by decide +kernel)
theorem k_121 : (Jvm.Cond.lays "java/lang/IllegalArgumentException" "java/lang/Throwable" "cause" "Ljava/lang/Throwable;") ∈ xAll := xAll_in 118 (by decide +kernel) (by decide +kernel)
theorem k_122 : (Jvm.Cond.lays "java/lang/Throwable" "java/lang/Throwable" "cause" "Ljava/lang/Throwable;") ∈ xAll := xAll_in 119 (by decide +kernel) (by decide +kernel)
theorem k_123 : (Jvm.Cond.lays "java/lang/IllegalArgumentException" "java/lang/Throwable" "stackTrace" "[Ljava/lang/StackTraceElement;") ∈ xAll := xAll_in 120 (by decide +kernel) (by decide +kernel)
theorem k_124 : (Jvm.Cond.lays "java/lang/Throwable" "java/lang/Throwable" "stackTrace" "[Ljava/lang/StackTraceElement;") ∈ xAll := xAll_in 121 (by decide +kernel) (by decide +kernel)
theorem k_125 : (Jvm.Cond.lays "java/lang/IllegalArgumentException" "java/lang/Throwable" "suppressedExceptions" "Ljava/util/List;") ∈ xAll := xAll_in 122 (by decide +kernel) (by decide +kernel)
theorem k_126 : (Jvm.Cond.lays "java/lang/Throwable" "java/lang/Throwable" "suppressedExceptions" "Ljava/util/List;") ∈ xAll := xAll_in 123 (by decide +kernel) (by decide +kernel)
theorem k_127 : (Jvm.Cond.lays "java/lang/IllegalArgumentException" "java/lang/Throwable" "detailMessage" "Ljava/lang/String;") ∈ xAll := xAll_in 124 (by decide +kernel) (by decide +kernel)
theorem k_128 : (Jvm.Cond.lays "java/lang/Throwable" "java/lang/Throwable" "detailMessage" "Ljava/lang/String;") ∈ xAll := xAll_in 125 (by decide +kernel) (by decide +kernel)
theorem k_129 : (Jvm.Cond.lays "java/lang/IllegalArgumentException" "java/lang/Throwable" "backtrace" "Ljava/lang/Object;") ∈ xAll := xAll_in 126 (by decide +kernel) (by decide +kernel)
theorem k_130 : (Jvm.Cond.lays "java/lang/Throwable" "java/lang/Throwable" "backtrace" "Ljava/lang/Object;") ∈ xAll := xAll_in 127 (by decide +kernel) (by decide +kernel)
theorem k_164 : (Jvm.Cond.fieldLink "java/lang/Throwable" (198 : Nat) "java/lang/Throwable" "backtrace" "Ljava/lang/Object;") ∈ xAll := xAll_in 128 (by decide +kernel) (by decide +kernel)
theorem k_132 : (Jvm.Cond.superclass "java/lang/Throwable" "java/lang/Object") ∈ xAll := xAll_in 129 (by decide +kernel) (by decide +kernel)
theorem k_133 : (Jvm.Cond.instanceMethod ({ cls := "java/lang/Throwable", name := "<init>", desc := "()V" } : Jvm.MethodName)) ∈ xAll := xAll_in 130 (by decide +kernel) (by decide +kernel)
theorem k_134 : (Jvm.Cond.code ({ cls := "java/lang/Throwable", name := "<init>", desc := "()V" } : Jvm.MethodName) prog_17_method_1_code (1 : Nat) (Option.none : Option Jvm.ClassFile.FieldType)) ∈ xAll := xAll_in 131 (by decide +kernel) (by decide +kernel)
theorem k_135 : (Jvm.Cond.methodLink "java/lang/Throwable" (1 : Nat) ({ cls := "java/lang/Object", name := "<init>", desc := "()V" } : Jvm.MethodName)) ∈ xAll := xAll_in 132 (by decide +kernel) (by decide +kernel)
theorem k_136 : (Jvm.Cond.fieldLink "java/lang/Throwable" (13 : Nat) "java/lang/Throwable" "UNASSIGNED_STACK" "[Ljava/lang/StackTraceElement;") ∈ xAll := xAll_in 133 (by decide +kernel) (by decide +kernel)
theorem k_138 : (Jvm.Cond.fieldLink "java/lang/Throwable" (20 : Nat) "java/lang/Throwable" "SUPPRESSED_SENTINEL" "Ljava/util/List;") ∈ xAll := xAll_in 135 (by decide +kernel) (by decide +kernel)
theorem k_140 : (Jvm.Cond.methodLink "java/lang/Throwable" (27 : Nat) ({ cls := "java/lang/Throwable", name := "fillInStackTrace", desc := "()Ljava/lang/Throwable;" } : Jvm.MethodName)) ∈ xAll := xAll_in 137 (by decide +kernel) (by decide +kernel)
theorem k_141 : (Jvm.Cond.instanceMethod ({ cls := "java/lang/Throwable", name := "fillInStackTrace", desc := "()Ljava/lang/Throwable;" } : Jvm.MethodName)) ∈ xAll := xAll_in 138 (by decide +kernel) (by decide +kernel)
theorem k_142 : (Jvm.Cond.sameMethod "java/lang/Throwable" "java/lang/Throwable" "fillInStackTrace" "()Ljava/lang/Throwable;") ∈ xAll := xAll_in 139 (by decide +kernel) (by decide +kernel)
theorem k_143 : (Jvm.Cond.selects "java/lang/IllegalStateException" ({ cls := "java/lang/Throwable", name := "fillInStackTrace", desc := "()Ljava/lang/Throwable;" } : Jvm.MethodName) ({ cls := "java/lang/Throwable", name := "fillInStackTrace", desc := "()Ljava/lang/Throwable;" } : Jvm.MethodName)) ∈ xAll := xAll_in 140 (by decide +kernel) (by decide +kernel)
theorem k_144 : (Jvm.Cond.selects "java/lang/IndexOutOfBoundsException" ({ cls := "java/lang/Throwable", name := "fillInStackTrace", desc := "()Ljava/lang/Throwable;" } : Jvm.MethodName) ({ cls := "java/lang/Throwable", name := "fillInStackTrace", desc := "()Ljava/lang/Throwable;" } : Jvm.MethodName)) ∈ xAll := xAll_in 141 (by decide +kernel) (by decide +kernel)
theorem k_145 : (Jvm.Cond.codeSync ({ cls := "java/lang/Throwable", name := "fillInStackTrace", desc := "()Ljava/lang/Throwable;" } : Jvm.MethodName) prog_17_method_18_code (1 : Nat) (Option.some (Jvm.ClassFile.FieldType.object "java/lang/Throwable"))) ∈ xAll := xAll_in 142 (by decide +kernel) (by decide +kernel)
theorem k_146 : (Jvm.Cond.methodLink "java/lang/Throwable" (202 : Nat) ({ cls := "java/lang/Throwable", name := "fillInStackTrace", desc := "(I)Ljava/lang/Throwable;" } : Jvm.MethodName)) ∈ xAll := xAll_in 143 (by decide +kernel) (by decide +kernel)
theorem k_147 : (Jvm.Cond.privateMethod ({ cls := "java/lang/Throwable", name := "fillInStackTrace", desc := "(I)Ljava/lang/Throwable;" } : Jvm.MethodName)) ∈ xAll := xAll_in 144 (by decide +kernel) (by decide +kernel)
theorem k_148 : (Jvm.Cond.instanceMethod ({ cls := "java/lang/Throwable", name := "fillInStackTrace", desc := "(I)Ljava/lang/Throwable;" } : Jvm.MethodName)) ∈ xAll := xAll_in 145 (by decide +kernel) (by decide +kernel)
theorem k_149 : (Jvm.Cond.instantiable "java/lang/Throwable" (6 : Nat)) ∈ xAll := xAll_in 146 (by decide +kernel) (by decide +kernel)
theorem k_150 : (Jvm.Cond.native ({ cls := "java/lang/Throwable", name := "fillInStackTrace", desc := "(I)Ljava/lang/Throwable;" } : Jvm.MethodName)) ∈ xAll := xAll_in 147 (by decide +kernel) (by decide +kernel)
theorem k_152 : (Jvm.Cond.methodLink "LeftThings" (53 : Nat) ({ cls := "java/lang/IllegalArgumentException", name := "<init>", desc := "(Ljava/lang/String;)V" } : Jvm.MethodName)) ∈ xAll := xAll_in 149 (by decide +kernel) (by decide +kernel)
theorem k_153 : (Jvm.Cond.instanceMethod ({ cls := "java/lang/IllegalArgumentException", name := "<init>", desc := "(Ljava/lang/String;)V" } : Jvm.MethodName)) ∈ xAll := xAll_in 150 (by decide +kernel) (by decide +kernel)
theorem k_154 : (Jvm.Cond.code ({ cls := "java/lang/IllegalArgumentException", name := "<init>", desc := "(Ljava/lang/String;)V" } : Jvm.MethodName) prog_9_method_2_code (2 : Nat) (Option.none : Option Jvm.ClassFile.FieldType)) ∈ xAll := xAll_in 151 (by decide +kernel) (by decide +kernel)
theorem k_155 : (Jvm.Cond.methodLink "java/lang/IllegalArgumentException" (7 : Nat) ({ cls := "java/lang/RuntimeException", name := "<init>", desc := "(Ljava/lang/String;)V" } : Jvm.MethodName)) ∈ xAll := xAll_in 152 (by decide +kernel) (by decide +kernel)
theorem k_156 : (Jvm.Cond.instanceMethod ({ cls := "java/lang/RuntimeException", name := "<init>", desc := "(Ljava/lang/String;)V" } : Jvm.MethodName)) ∈ xAll := xAll_in 153 (by decide +kernel) (by decide +kernel)
theorem k_157 : (Jvm.Cond.code ({ cls := "java/lang/RuntimeException", name := "<init>", desc := "(Ljava/lang/String;)V" } : Jvm.MethodName) prog_14_method_2_code (2 : Nat) (Option.none : Option Jvm.ClassFile.FieldType)) ∈ xAll := xAll_in 154 (by decide +kernel) (by decide +kernel)
theorem k_158 : (Jvm.Cond.methodLink "java/lang/RuntimeException" (7 : Nat) ({ cls := "java/lang/Exception", name := "<init>", desc := "(Ljava/lang/String;)V" } : Jvm.MethodName)) ∈ xAll := xAll_in 155 (by decide +kernel) (by decide +kernel)
theorem k_159 : (Jvm.Cond.instanceMethod ({ cls := "java/lang/Exception", name := "<init>", desc := "(Ljava/lang/String;)V" } : Jvm.MethodName)) ∈ xAll := xAll_in 156 (by decide +kernel) (by decide +kernel)
theorem k_160 : (Jvm.Cond.code ({ cls := "java/lang/Exception", name := "<init>", desc := "(Ljava/lang/String;)V" } : Jvm.MethodName) prog_8_method_2_code (2 : Nat) (Option.none : Option Jvm.ClassFile.FieldType)) ∈ xAll := xAll_in 157 (by decide +kernel) (by decide +kernel)
theorem k_161 : (Jvm.Cond.methodLink "java/lang/Exception" (7 : Nat) ({ cls := "java/lang/Throwable", name := "<init>", desc := "(Ljava/lang/String;)V" } : Jvm.MethodName)) ∈ xAll := xAll_in 158 (by decide +kernel) (by decide +kernel)
theorem k_162 : (Jvm.Cond.instanceMethod ({ cls := "java/lang/Throwable", name := "<init>", desc := "(Ljava/lang/String;)V" } : Jvm.MethodName)) ∈ xAll := xAll_in 159 (by decide +kernel) (by decide +kernel)
theorem k_163 : (Jvm.Cond.code ({ cls := "java/lang/Throwable", name := "<init>", desc := "(Ljava/lang/String;)V" } : Jvm.MethodName) prog_17_method_2_code (2 : Nat) (Option.none : Option Jvm.ClassFile.FieldType)) ∈ xAll := xAll_in 160 (by decide +kernel) (by decide +kernel)
theorem k_2137 : (Jvm.Cond.fieldLink "java/lang/Throwable" (198 : Nat) "java/lang/Throwable" "backtrace" "Ljava/lang/Object;") ∈ xAll := xAll_in 161 (by decide +kernel) (by decide +kernel)
theorem k_165 : (Jvm.Cond.fieldLink "java/lang/Throwable" (31 : Nat) "java/lang/Throwable" "detailMessage" "Ljava/lang/String;") ∈ xAll := xAll_in 162 (by decide +kernel) (by decide +kernel)
theorem k_166 : (Jvm.Cond.fieldLink "java/lang/Throwable" (7 : Nat) "java/lang/Throwable" "cause" "Ljava/lang/Throwable;") ∈ xAll := xAll_in 163 (by decide +kernel) (by decide +kernel)
theorem k_167 : (Jvm.Cond.fieldLink "java/lang/Throwable" (17 : Nat) "java/lang/Throwable" "stackTrace" "[Ljava/lang/StackTraceElement;") ∈ xAll := xAll_in 164 (by decide +kernel) (by decide +kernel)
theorem k_168 : (Jvm.Cond.fieldLink "java/lang/Throwable" (24 : Nat) "java/lang/Throwable" "suppressedExceptions" "Ljava/util/List;") ∈ xAll := xAll_in 165 (by decide +kernel) (by decide +kernel)
theorem k_169 : (Jvm.Cond.soleField "java/lang/Throwable" "backtrace") ∈ xAll := xAll_in 166 (by decide +kernel) (by decide +kernel)
theorem k_170 : (Jvm.Cond.soleField "java/lang/Throwable" "detailMessage") ∈ xAll := xAll_in 167 (by decide +kernel) (by decide +kernel)
theorem k_171 : (Jvm.Cond.soleField "java/lang/Throwable" "cause") ∈ xAll := xAll_in 168 (by decide +kernel) (by decide +kernel)
theorem k_172 : (Jvm.Cond.soleField "java/lang/Throwable" "stackTrace") ∈ xAll := xAll_in 169 (by decide +kernel) (by decide +kernel)
theorem k_173 : (Jvm.Cond.lays "java/lang/IllegalArgumentException" "java/lang/Throwable" "depth" "I") ∈ xAll := xAll_in 170 (by decide +kernel) (by decide +kernel)
theorem k_174 : (Jvm.Cond.soleField "java/lang/Throwable" "depth") ∈ xAll := xAll_in 171 (by decide +kernel) (by decide +kernel)
theorem k_175 : (Jvm.Cond.soleField "java/lang/Throwable" "suppressedExceptions") ∈ xAll := xAll_in 172 (by decide +kernel) (by decide +kernel)
theorem k_176 : (Jvm.Cond.superclass "java/lang/IllegalArgumentException" "java/lang/RuntimeException") ∈ xAll := xAll_in 173 (by decide +kernel) (by decide +kernel)
theorem k_221 : (Jvm.Cond.classLink "LeftThings" (71 : Nat) "java/lang/IllegalStateException") ∈ xAll := xAll_in 175 (by decide +kernel) (by decide +kernel)
theorem k_222 : (Jvm.Cond.instantiable "java/lang/IllegalStateException" (6 : Nat)) ∈ xAll := xAll_in 176 (by decide +kernel) (by decide +kernel)
theorem k_223 : (Jvm.Cond.castable "java/lang/IllegalStateException" "java/lang/IllegalStateException") ∈ xAll := xAll_in 177 (by decide +kernel) (by decide +kernel)
theorem k_224 : (Jvm.Cond.selects "java/lang/IllegalStateException" ({ cls := "java/lang/Throwable", name := "fillInStackTrace", desc := "(I)Ljava/lang/Throwable;" } : Jvm.MethodName) ({ cls := "java/lang/Throwable", name := "fillInStackTrace", desc := "(I)Ljava/lang/Throwable;" } : Jvm.MethodName)) ∈ xAll := xAll_in 178 (by decide +kernel) (by decide +kernel)
theorem k_225 : (Jvm.Cond.lays "java/lang/IllegalStateException" "java/lang/Throwable" "cause" "Ljava/lang/Throwable;") ∈ xAll := xAll_in 179 (by decide +kernel) (by decide +kernel)
theorem k_226 : (Jvm.Cond.lays "java/lang/IllegalStateException" "java/lang/Throwable" "stackTrace" "[Ljava/lang/StackTraceElement;") ∈ xAll := xAll_in 180 (by decide +kernel) (by decide +kernel)
theorem k_227 : (Jvm.Cond.lays "java/lang/IllegalStateException" "java/lang/Throwable" "suppressedExceptions" "Ljava/util/List;") ∈ xAll := xAll_in 181 (by decide +kernel) (by decide +kernel)
theorem k_228 : (Jvm.Cond.lays "java/lang/IllegalStateException" "java/lang/Throwable" "detailMessage" "Ljava/lang/String;") ∈ xAll := xAll_in 182 (by decide +kernel) (by decide +kernel)
theorem k_229 : (Jvm.Cond.lays "java/lang/IllegalStateException" "java/lang/Throwable" "backtrace" "Ljava/lang/Object;") ∈ xAll := xAll_in 183 (by decide +kernel) (by decide +kernel)
theorem k_231 : (Jvm.Cond.methodLink "LeftThings" (75 : Nat) ({ cls := "java/lang/IllegalStateException", name := "<init>", desc := "(Ljava/lang/String;)V" } : Jvm.MethodName)) ∈ xAll := xAll_in 185 (by decide +kernel) (by decide +kernel)
theorem k_232 : (Jvm.Cond.instanceMethod ({ cls := "java/lang/IllegalStateException", name := "<init>", desc := "(Ljava/lang/String;)V" } : Jvm.MethodName)) ∈ xAll := xAll_in 186 (by decide +kernel) (by decide +kernel)
theorem k_233 : (Jvm.Cond.code ({ cls := "java/lang/IllegalStateException", name := "<init>", desc := "(Ljava/lang/String;)V" } : Jvm.MethodName) prog_10_method_2_code (2 : Nat) (Option.none : Option Jvm.ClassFile.FieldType)) ∈ xAll := xAll_in 187 (by decide +kernel) (by decide +kernel)
theorem k_234 : (Jvm.Cond.methodLink "java/lang/IllegalStateException" (7 : Nat) ({ cls := "java/lang/RuntimeException", name := "<init>", desc := "(Ljava/lang/String;)V" } : Jvm.MethodName)) ∈ xAll := xAll_in 188 (by decide +kernel) (by decide +kernel)
theorem k_235 : (Jvm.Cond.lays "java/lang/IllegalStateException" "java/lang/Throwable" "depth" "I") ∈ xAll := xAll_in 189 (by decide +kernel) (by decide +kernel)
theorem k_236 : (Jvm.Cond.superclass "java/lang/IllegalStateException" "java/lang/RuntimeException") ∈ xAll := xAll_in 190 (by decide +kernel) (by decide +kernel)
theorem k_491 : (Jvm.Cond.methodLink "LeftThings" (162 : Nat) ({ cls := "LeftThings", name := "endDay", desc := "()I" } : Jvm.MethodName)) ∈ xAll := xAll_in 191 (by decide +kernel) (by decide +kernel)
theorem k_492 : (Jvm.Cond.privateMethod ({ cls := "LeftThings", name := "endDay", desc := "()I" } : Jvm.MethodName)) ∈ xAll := xAll_in 192 (by decide +kernel) (by decide +kernel)
theorem k_493 : (Jvm.Cond.instanceMethod ({ cls := "LeftThings", name := "endDay", desc := "()I" } : Jvm.MethodName)) ∈ xAll := xAll_in 193 (by decide +kernel) (by decide +kernel)
theorem k_494 : (Jvm.Cond.code ({ cls := "LeftThings", name := "endDay", desc := "()I" } : Jvm.MethodName) prog_1_method_32_code (2 : Nat) (Option.some Jvm.ClassFile.FieldType.int)) ∈ xAll := xAll_in 194 (by decide +kernel) (by decide +kernel)
theorem k_495 : (Jvm.Cond.methodLink "LeftThings" (204 : Nat) ({ cls := "LeftThings", name := "oweFees", desc := "()V" } : Jvm.MethodName)) ∈ xAll := xAll_in 195 (by decide +kernel) (by decide +kernel)
theorem k_496 : (Jvm.Cond.privateMethod ({ cls := "LeftThings", name := "oweFees", desc := "()V" } : Jvm.MethodName)) ∈ xAll := xAll_in 196 (by decide +kernel) (by decide +kernel)
theorem k_497 : (Jvm.Cond.instanceMethod ({ cls := "LeftThings", name := "oweFees", desc := "()V" } : Jvm.MethodName)) ∈ xAll := xAll_in 197 (by decide +kernel) (by decide +kernel)
theorem k_498 : (Jvm.Cond.code ({ cls := "LeftThings", name := "oweFees", desc := "()V" } : Jvm.MethodName) prog_1_method_33_code (3 : Nat) (Option.none : Option Jvm.ClassFile.FieldType)) ∈ xAll := xAll_in 198 (by decide +kernel) (by decide +kernel)
theorem k_88 : (Jvm.Cond.methodLink "LeftThings" (63 : Nat) ({ cls := "java/util/ArrayList", name := "size", desc := "()I" } : Jvm.MethodName)) ∈ xAll := xAll_in 199 (by decide +kernel) (by decide +kernel)
theorem k_89 : (Jvm.Cond.instanceMethod ({ cls := "java/util/ArrayList", name := "size", desc := "()I" } : Jvm.MethodName)) ∈ xAll := xAll_in 200 (by decide +kernel) (by decide +kernel)
theorem k_90 : (Jvm.Cond.selects "java/util/ArrayList" ({ cls := "java/util/ArrayList", name := "size", desc := "()I" } : Jvm.MethodName) ({ cls := "java/util/ArrayList", name := "size", desc := "()I" } : Jvm.MethodName)) ∈ xAll := xAll_in 201 (by decide +kernel) (by decide +kernel)
theorem k_91 : (Jvm.Cond.code ({ cls := "java/util/ArrayList", name := "size", desc := "()I" } : Jvm.MethodName) prog_20_method_8_code (1 : Nat) (Option.some Jvm.ClassFile.FieldType.int)) ∈ xAll := xAll_in 202 (by decide +kernel) (by decide +kernel)
theorem k_206 : (Jvm.Cond.methodLink "LeftThings" (181 : Nat) ({ cls := "java/util/ArrayList", name := "get", desc := "(I)Ljava/lang/Object;" } : Jvm.MethodName)) ∈ xAll := xAll_in 203 (by decide +kernel) (by decide +kernel)
theorem k_207 : (Jvm.Cond.instanceMethod ({ cls := "java/util/ArrayList", name := "get", desc := "(I)Ljava/lang/Object;" } : Jvm.MethodName)) ∈ xAll := xAll_in 204 (by decide +kernel) (by decide +kernel)
theorem k_208 : (Jvm.Cond.selects "java/util/ArrayList" ({ cls := "java/util/ArrayList", name := "get", desc := "(I)Ljava/lang/Object;" } : Jvm.MethodName) ({ cls := "java/util/ArrayList", name := "get", desc := "(I)Ljava/lang/Object;" } : Jvm.MethodName)) ∈ xAll := xAll_in 205 (by decide +kernel) (by decide +kernel)
theorem k_209 : (Jvm.Cond.code ({ cls := "java/util/ArrayList", name := "get", desc := "(I)Ljava/lang/Object;" } : Jvm.MethodName) prog_20_method_20_code (2 : Nat) (Option.some (Jvm.ClassFile.FieldType.object "java/lang/Object"))) ∈ xAll := xAll_in 206 (by decide +kernel) (by decide +kernel)
theorem k_210 : (Jvm.Cond.methodLink "java/util/ArrayList" (118 : Nat) ({ cls := "java/util/Objects", name := "checkIndex", desc := "(II)I" } : Jvm.MethodName)) ∈ xAll := xAll_in 207 (by decide +kernel) (by decide +kernel)
theorem k_211 : (Jvm.Cond.static ({ cls := "java/util/Objects", name := "checkIndex", desc := "(II)I" } : Jvm.MethodName)) ∈ xAll := xAll_in 208 (by decide +kernel) (by decide +kernel)
theorem k_212 : (Jvm.Cond.code ({ cls := "java/util/Objects", name := "checkIndex", desc := "(II)I" } : Jvm.MethodName) prog_24_method_17_code (2 : Nat) (Option.some Jvm.ClassFile.FieldType.int)) ∈ xAll := xAll_in 209 (by decide +kernel) (by decide +kernel)
theorem k_213 : (Jvm.Cond.methodLink "java/util/Objects" (105 : Nat) ({ cls := "jdk/internal/util/Preconditions", name := "checkIndex", desc := "(IILjava/util/function/BiFunction;)I" } : Jvm.MethodName)) ∈ xAll := xAll_in 210 (by decide +kernel) (by decide +kernel)
theorem k_214 : (Jvm.Cond.static ({ cls := "jdk/internal/util/Preconditions", name := "checkIndex", desc := "(IILjava/util/function/BiFunction;)I" } : Jvm.MethodName)) ∈ xAll := xAll_in 211 (by decide +kernel) (by decide +kernel)
theorem k_215 : (Jvm.Cond.code ({ cls := "jdk/internal/util/Preconditions", name := "checkIndex", desc := "(IILjava/util/function/BiFunction;)I" } : Jvm.MethodName) prog_28_method_11_code (3 : Nat) (Option.some Jvm.ClassFile.FieldType.int)) ∈ xAll := xAll_in 212 (by decide +kernel) (by decide +kernel)
theorem k_216 : (Jvm.Cond.methodLink "java/util/ArrayList" (123 : Nat) ({ cls := "java/util/ArrayList", name := "elementData", desc := "(I)Ljava/lang/Object;" } : Jvm.MethodName)) ∈ xAll := xAll_in 213 (by decide +kernel) (by decide +kernel)
theorem k_217 : (Jvm.Cond.instanceMethod ({ cls := "java/util/ArrayList", name := "elementData", desc := "(I)Ljava/lang/Object;" } : Jvm.MethodName)) ∈ xAll := xAll_in 214 (by decide +kernel) (by decide +kernel)
theorem k_218 : (Jvm.Cond.selects "java/util/ArrayList" ({ cls := "java/util/ArrayList", name := "elementData", desc := "(I)Ljava/lang/Object;" } : Jvm.MethodName) ({ cls := "java/util/ArrayList", name := "elementData", desc := "(I)Ljava/lang/Object;" } : Jvm.MethodName)) ∈ xAll := xAll_in 215 (by decide +kernel) (by decide +kernel)
theorem k_219 : (Jvm.Cond.code ({ cls := "java/util/ArrayList", name := "elementData", desc := "(I)Ljava/lang/Object;" } : Jvm.MethodName) prog_20_method_18_code (2 : Nat) (Option.some (Jvm.ClassFile.FieldType.object "java/lang/Object"))) ∈ xAll := xAll_in 216 (by decide +kernel) (by decide +kernel)
theorem k_220 : (Jvm.Cond.classLink "LeftThings" (76 : Nat) "LeftThings$Thing") ∈ xAll := xAll_in 217 (by decide +kernel) (by decide +kernel)
theorem k_392 : (Jvm.Cond.methodLinkNest "LeftThings" (89 : Nat) ({ cls := "LeftThings$Thing", name := "isAtCounter", desc := "()Z" } : Jvm.MethodName) "LeftThings") ∈ xAll := xAll_in 218 (by decide +kernel) (by decide +kernel)
theorem k_393 : (Jvm.Cond.privateMethod ({ cls := "LeftThings$Thing", name := "isAtCounter", desc := "()Z" } : Jvm.MethodName)) ∈ xAll := xAll_in 219 (by decide +kernel) (by decide +kernel)
theorem k_394 : (Jvm.Cond.instanceMethod ({ cls := "LeftThings$Thing", name := "isAtCounter", desc := "()Z" } : Jvm.MethodName)) ∈ xAll := xAll_in 220 (by decide +kernel) (by decide +kernel)
theorem k_237 : (Jvm.Cond.instantiable "LeftThings$Thing" (12 : Nat)) ∈ xAll := xAll_in 221 (by decide +kernel) (by decide +kernel)
theorem k_395 : (Jvm.Cond.code ({ cls := "LeftThings$Thing", name := "isAtCounter", desc := "()Z" } : Jvm.MethodName) prog_3_method_2_code (1 : Nat) (Option.some Jvm.ClassFile.FieldType.boolean)) ∈ xAll := xAll_in 222 (by decide +kernel) (by decide +kernel)
theorem k_396 : (Jvm.Cond.methodLinkNest "LeftThings$Thing" (54 : Nat) ({ cls := "LeftThings", name := "isCounter", desc := "(I)Z" } : Jvm.MethodName) "LeftThings") ∈ xAll := xAll_in 223 (by decide +kernel) (by decide +kernel)
theorem k_105 : (Jvm.Cond.static ({ cls := "LeftThings", name := "isCounter", desc := "(I)Z" } : Jvm.MethodName)) ∈ xAll := xAll_in 224 (by decide +kernel) (by decide +kernel)
theorem k_106 : (Jvm.Cond.code ({ cls := "LeftThings", name := "isCounter", desc := "(I)Z" } : Jvm.MethodName) prog_1_method_22_code (1 : Nat) (Option.some Jvm.ClassFile.FieldType.boolean)) ∈ xAll := xAll_in 225 (by decide +kernel) (by decide +kernel)
theorem k_397 : (Jvm.Cond.methodLinkNest "LeftThings" (93 : Nat) ({ cls := "LeftThings$Thing", name := "hasLoan", desc := "()Z" } : Jvm.MethodName) "LeftThings") ∈ xAll := xAll_in 226 (by decide +kernel) (by decide +kernel)
theorem k_398 : (Jvm.Cond.privateMethod ({ cls := "LeftThings$Thing", name := "hasLoan", desc := "()Z" } : Jvm.MethodName)) ∈ xAll := xAll_in 227 (by decide +kernel) (by decide +kernel)
theorem k_399 : (Jvm.Cond.instanceMethod ({ cls := "LeftThings$Thing", name := "hasLoan", desc := "()Z" } : Jvm.MethodName)) ∈ xAll := xAll_in 228 (by decide +kernel) (by decide +kernel)
theorem k_400 : (Jvm.Cond.code ({ cls := "LeftThings$Thing", name := "hasLoan", desc := "()Z" } : Jvm.MethodName) prog_3_method_3_code (1 : Nat) (Option.some Jvm.ClassFile.FieldType.boolean)) ∈ xAll := xAll_in 229 (by decide +kernel) (by decide +kernel)
theorem k_499 : (Jvm.Cond.methodLink "LeftThings" (207 : Nat) ({ cls := "LeftThings", name := "sellCalled", desc := "()I" } : Jvm.MethodName)) ∈ xAll := xAll_in 230 (by decide +kernel) (by decide +kernel)
theorem k_500 : (Jvm.Cond.privateMethod ({ cls := "LeftThings", name := "sellCalled", desc := "()I" } : Jvm.MethodName)) ∈ xAll := xAll_in 231 (by decide +kernel) (by decide +kernel)
theorem k_501 : (Jvm.Cond.instanceMethod ({ cls := "LeftThings", name := "sellCalled", desc := "()I" } : Jvm.MethodName)) ∈ xAll := xAll_in 232 (by decide +kernel) (by decide +kernel)
theorem k_502 : (Jvm.Cond.code ({ cls := "LeftThings", name := "sellCalled", desc := "()I" } : Jvm.MethodName) prog_1_method_34_code (4 : Nat) (Option.some Jvm.ClassFile.FieldType.int)) ∈ xAll := xAll_in 233 (by decide +kernel) (by decide +kernel)
theorem k_477 : (Jvm.Cond.methodLinkNest "LeftThings" (150 : Nat) ({ cls := "LeftThings$Thing", name := "isCalled", desc := "()Z" } : Jvm.MethodName) "LeftThings") ∈ xAll := xAll_in 234 (by decide +kernel) (by decide +kernel)
theorem k_478 : (Jvm.Cond.privateMethod ({ cls := "LeftThings$Thing", name := "isCalled", desc := "()Z" } : Jvm.MethodName)) ∈ xAll := xAll_in 235 (by decide +kernel) (by decide +kernel)
theorem k_479 : (Jvm.Cond.instanceMethod ({ cls := "LeftThings$Thing", name := "isCalled", desc := "()Z" } : Jvm.MethodName)) ∈ xAll := xAll_in 236 (by decide +kernel) (by decide +kernel)
theorem k_480 : (Jvm.Cond.code ({ cls := "LeftThings$Thing", name := "isCalled", desc := "()Z" } : Jvm.MethodName) prog_3_method_4_code (1 : Nat) (Option.some Jvm.ClassFile.FieldType.boolean)) ∈ xAll := xAll_in 237 (by decide +kernel) (by decide +kernel)
theorem k_503 : (Jvm.Cond.methodLink "LeftThings" (216 : Nat) ({ cls := "LeftThings", name := "sell", desc := "(LLeftThings$Thing;)V" } : Jvm.MethodName)) ∈ xAll := xAll_in 238 (by decide +kernel) (by decide +kernel)
theorem k_504 : (Jvm.Cond.privateMethod ({ cls := "LeftThings", name := "sell", desc := "(LLeftThings$Thing;)V" } : Jvm.MethodName)) ∈ xAll := xAll_in 239 (by decide +kernel) (by decide +kernel)
theorem k_505 : (Jvm.Cond.instanceMethod ({ cls := "LeftThings", name := "sell", desc := "(LLeftThings$Thing;)V" } : Jvm.MethodName)) ∈ xAll := xAll_in 240 (by decide +kernel) (by decide +kernel)
theorem k_506 : (Jvm.Cond.code ({ cls := "LeftThings", name := "sell", desc := "(LLeftThings$Thing;)V" } : Jvm.MethodName) prog_1_method_31_code (5 : Nat) (Option.none : Option Jvm.ClassFile.FieldType)) ∈ xAll := xAll_in 241 (by decide +kernel) (by decide +kernel)
theorem k_507 : (Jvm.Cond.methodLink "LeftThings" (198 : Nat) ({ cls := "java/lang/Math", name := "min", desc := "(II)I" } : Jvm.MethodName)) ∈ xAll := xAll_in 242 (by decide +kernel) (by decide +kernel)
theorem k_357 : (Jvm.Cond.static ({ cls := "java/lang/Math", name := "min", desc := "(II)I" } : Jvm.MethodName)) ∈ xAll := xAll_in 243 (by decide +kernel) (by decide +kernel)
theorem k_358 : (Jvm.Cond.code ({ cls := "java/lang/Math", name := "min", desc := "(II)I" } : Jvm.MethodName) prog_13_method_69_code (2 : Nat) (Option.some Jvm.ClassFile.FieldType.int)) ∈ xAll := xAll_in 244 (by decide +kernel) (by decide +kernel)
theorem k_454 : (Jvm.Cond.methodLink "LeftThings" (136 : Nat) ({ cls := "LeftThings", name := "putIntoPurse", desc := "(II)V" } : Jvm.MethodName)) ∈ xAll := xAll_in 245 (by decide +kernel) (by decide +kernel)
theorem k_455 : (Jvm.Cond.privateMethod ({ cls := "LeftThings", name := "putIntoPurse", desc := "(II)V" } : Jvm.MethodName)) ∈ xAll := xAll_in 246 (by decide +kernel) (by decide +kernel)
theorem k_456 : (Jvm.Cond.instanceMethod ({ cls := "LeftThings", name := "putIntoPurse", desc := "(II)V" } : Jvm.MethodName)) ∈ xAll := xAll_in 247 (by decide +kernel) (by decide +kernel)
theorem k_457 : (Jvm.Cond.code ({ cls := "LeftThings", name := "putIntoPurse", desc := "(II)V" } : Jvm.MethodName) prog_1_method_28_code (3 : Nat) (Option.none : Option Jvm.ClassFile.FieldType)) ∈ xAll := xAll_in 248 (by decide +kernel) (by decide +kernel)
theorem k_194 : (Jvm.Cond.methodLink "LeftThings" (58 : Nat) ({ cls := "LeftThings", name := "isPerson", desc := "(I)Z" } : Jvm.MethodName)) ∈ xAll := xAll_in 249 (by decide +kernel) (by decide +kernel)
theorem k_195 : (Jvm.Cond.static ({ cls := "LeftThings", name := "isPerson", desc := "(I)Z" } : Jvm.MethodName)) ∈ xAll := xAll_in 250 (by decide +kernel) (by decide +kernel)
theorem k_196 : (Jvm.Cond.code ({ cls := "LeftThings", name := "isPerson", desc := "(I)Z" } : Jvm.MethodName) prog_1_method_23_code (1 : Nat) (Option.some Jvm.ClassFile.FieldType.boolean)) ∈ xAll := xAll_in 251 (by decide +kernel) (by decide +kernel)
theorem k_466 : (Jvm.Cond.methodLinkNest "LeftThings" (147 : Nat) ({ cls := "LeftThings$Thing", name := "endLoan", desc := "()V" } : Jvm.MethodName) "LeftThings") ∈ xAll := xAll_in 252 (by decide +kernel) (by decide +kernel)
theorem k_467 : (Jvm.Cond.privateMethod ({ cls := "LeftThings$Thing", name := "endLoan", desc := "()V" } : Jvm.MethodName)) ∈ xAll := xAll_in 253 (by decide +kernel) (by decide +kernel)
theorem k_468 : (Jvm.Cond.instanceMethod ({ cls := "LeftThings$Thing", name := "endLoan", desc := "()V" } : Jvm.MethodName)) ∈ xAll := xAll_in 254 (by decide +kernel) (by decide +kernel)
theorem k_469 : (Jvm.Cond.code ({ cls := "LeftThings$Thing", name := "endLoan", desc := "()V" } : Jvm.MethodName) prog_3_method_6_code (1 : Nat) (Option.none : Option Jvm.ClassFile.FieldType)) ∈ xAll := xAll_in 255 (by decide +kernel) (by decide +kernel)
theorem k_402 : (Jvm.Cond.methodLink "LeftThings" (101 : Nat) ({ cls := "LeftThings", name := "giveAway", desc := "(LLeftThings$Thing;II)V" } : Jvm.MethodName)) ∈ xAll := xAll_in 256 (by decide +kernel) (by decide +kernel)
theorem k_403 : (Jvm.Cond.privateMethod ({ cls := "LeftThings", name := "giveAway", desc := "(LLeftThings$Thing;II)V" } : Jvm.MethodName)) ∈ xAll := xAll_in 257 (by decide +kernel) (by decide +kernel)
theorem k_404 : (Jvm.Cond.instanceMethod ({ cls := "LeftThings", name := "giveAway", desc := "(LLeftThings$Thing;II)V" } : Jvm.MethodName)) ∈ xAll := xAll_in 258 (by decide +kernel) (by decide +kernel)
theorem k_405 : (Jvm.Cond.code ({ cls := "LeftThings", name := "giveAway", desc := "(LLeftThings$Thing;II)V" } : Jvm.MethodName) prog_1_method_30_code (4 : Nat) (Option.none : Option Jvm.ClassFile.FieldType)) ∈ xAll := xAll_in 259 (by decide +kernel) (by decide +kernel)
theorem k_406 : (Jvm.Cond.methodLink "LeftThings" (115 : Nat) ({ cls := "LeftThings", name := "dropEndedWishes", desc := "()V" } : Jvm.MethodName)) ∈ xAll := xAll_in 260 (by decide +kernel) (by decide +kernel)
theorem k_407 : (Jvm.Cond.privateMethod ({ cls := "LeftThings", name := "dropEndedWishes", desc := "()V" } : Jvm.MethodName)) ∈ xAll := xAll_in 261 (by decide +kernel) (by decide +kernel)
theorem k_408 : (Jvm.Cond.instanceMethod ({ cls := "LeftThings", name := "dropEndedWishes", desc := "()V" } : Jvm.MethodName)) ∈ xAll := xAll_in 262 (by decide +kernel) (by decide +kernel)
theorem k_409 : (Jvm.Cond.code ({ cls := "LeftThings", name := "dropEndedWishes", desc := "()V" } : Jvm.MethodName) prog_1_method_29_code (2 : Nat) (Option.none : Option Jvm.ClassFile.FieldType)) ∈ xAll := xAll_in 263 (by decide +kernel) (by decide +kernel)
theorem k_410 : (Jvm.Cond.methodLink "LeftThings" (192 : Nat) ({ cls := "java/util/ArrayList", name := "remove", desc := "(I)Ljava/lang/Object;" } : Jvm.MethodName)) ∈ xAll := xAll_in 264 (by decide +kernel) (by decide +kernel)
theorem k_411 : (Jvm.Cond.instanceMethod ({ cls := "java/util/ArrayList", name := "remove", desc := "(I)Ljava/lang/Object;" } : Jvm.MethodName)) ∈ xAll := xAll_in 265 (by decide +kernel) (by decide +kernel)
theorem k_412 : (Jvm.Cond.selects "java/util/ArrayList" ({ cls := "java/util/ArrayList", name := "remove", desc := "(I)Ljava/lang/Object;" } : Jvm.MethodName) ({ cls := "java/util/ArrayList", name := "remove", desc := "(I)Ljava/lang/Object;" } : Jvm.MethodName)) ∈ xAll := xAll_in 266 (by decide +kernel) (by decide +kernel)
theorem k_413 : (Jvm.Cond.code ({ cls := "java/util/ArrayList", name := "remove", desc := "(I)Ljava/lang/Object;" } : Jvm.MethodName) prog_20_method_29_code (4 : Nat) (Option.some (Jvm.ClassFile.FieldType.object "java/lang/Object"))) ∈ xAll := xAll_in 267 (by decide +kernel) (by decide +kernel)
theorem k_414 : (Jvm.Cond.methodLink "java/util/ArrayList" (144 : Nat) ({ cls := "java/util/ArrayList", name := "fastRemove", desc := "([Ljava/lang/Object;I)V" } : Jvm.MethodName)) ∈ xAll := xAll_in 268 (by decide +kernel) (by decide +kernel)
theorem k_415 : (Jvm.Cond.privateMethod ({ cls := "java/util/ArrayList", name := "fastRemove", desc := "([Ljava/lang/Object;I)V" } : Jvm.MethodName)) ∈ xAll := xAll_in 269 (by decide +kernel) (by decide +kernel)
theorem k_416 : (Jvm.Cond.instanceMethod ({ cls := "java/util/ArrayList", name := "fastRemove", desc := "([Ljava/lang/Object;I)V" } : Jvm.MethodName)) ∈ xAll := xAll_in 270 (by decide +kernel) (by decide +kernel)
theorem k_417 : (Jvm.Cond.code ({ cls := "java/util/ArrayList", name := "fastRemove", desc := "([Ljava/lang/Object;I)V" } : Jvm.MethodName) prog_20_method_39_code (4 : Nat) (Option.none : Option Jvm.ClassFile.FieldType)) ∈ xAll := xAll_in 271 (by decide +kernel) (by decide +kernel)
theorem k_418 : (Jvm.Cond.methodLink "java/util/ArrayList" (112 : Nat) ({ cls := "java/lang/System", name := "arraycopy", desc := "(Ljava/lang/Object;ILjava/lang/Object;II)V" } : Jvm.MethodName)) ∈ xAll := xAll_in 272 (by decide +kernel) (by decide +kernel)
theorem k_360 : (Jvm.Cond.static ({ cls := "java/lang/System", name := "arraycopy", desc := "(Ljava/lang/Object;ILjava/lang/Object;II)V" } : Jvm.MethodName)) ∈ xAll := xAll_in 273 (by decide +kernel) (by decide +kernel)
theorem k_361 : (Jvm.Cond.native ({ cls := "java/lang/System", name := "arraycopy", desc := "(Ljava/lang/Object;ILjava/lang/Object;II)V" } : Jvm.MethodName)) ∈ xAll := xAll_in 274 (by decide +kernel) (by decide +kernel)
theorem k_419 : (Jvm.Cond.methodLinkNest "LeftThings" (195 : Nat) ({ cls := "LeftThings$Thing", name := "moveTo", desc := "(II)V" } : Jvm.MethodName) "LeftThings") ∈ xAll := xAll_in 275 (by decide +kernel) (by decide +kernel)
theorem k_420 : (Jvm.Cond.privateMethod ({ cls := "LeftThings$Thing", name := "moveTo", desc := "(II)V" } : Jvm.MethodName)) ∈ xAll := xAll_in 276 (by decide +kernel) (by decide +kernel)
theorem k_421 : (Jvm.Cond.instanceMethod ({ cls := "LeftThings$Thing", name := "moveTo", desc := "(II)V" } : Jvm.MethodName)) ∈ xAll := xAll_in 277 (by decide +kernel) (by decide +kernel)
theorem k_422 : (Jvm.Cond.code ({ cls := "LeftThings$Thing", name := "moveTo", desc := "(II)V" } : Jvm.MethodName) prog_3_method_7_code (3 : Nat) (Option.none : Option Jvm.ClassFile.FieldType)) ∈ xAll := xAll_in 278 (by decide +kernel) (by decide +kernel)
theorem k_242 : (Jvm.Cond.classLink "LeftThings$Thing" (45 : Nat) "LeftThings$Tag") ∈ xAll := xAll_in 279 (by decide +kernel) (by decide +kernel)
theorem k_243 : (Jvm.Cond.instantiable "LeftThings$Tag" (3 : Nat)) ∈ xAll := xAll_in 280 (by decide +kernel) (by decide +kernel)
theorem k_244 : (Jvm.Cond.methodLinkNest "LeftThings$Thing" (47 : Nat) ({ cls := "LeftThings$Tag", name := "<init>", desc := "(IILLeftThings$Tag;)V" } : Jvm.MethodName) "LeftThings") ∈ xAll := xAll_in 281 (by decide +kernel) (by decide +kernel)
theorem k_245 : (Jvm.Cond.instanceMethod ({ cls := "LeftThings$Tag", name := "<init>", desc := "(IILLeftThings$Tag;)V" } : Jvm.MethodName)) ∈ xAll := xAll_in 282 (by decide +kernel) (by decide +kernel)
theorem k_246 : (Jvm.Cond.code ({ cls := "LeftThings$Tag", name := "<init>", desc := "(IILLeftThings$Tag;)V" } : Jvm.MethodName) prog_2_method_1_code (4 : Nat) (Option.none : Option Jvm.ClassFile.FieldType)) ∈ xAll := xAll_in 283 (by decide +kernel) (by decide +kernel)
theorem k_247 : (Jvm.Cond.methodLink "LeftThings$Tag" (1 : Nat) ({ cls := "java/lang/Object", name := "<init>", desc := "()V" } : Jvm.MethodName)) ∈ xAll := xAll_in 284 (by decide +kernel) (by decide +kernel)
theorem k_248 : (Jvm.Cond.fieldLink "LeftThings$Tag" (7 : Nat) "LeftThings$Tag" "place" "I") ∈ xAll := xAll_in 285 (by decide +kernel) (by decide +kernel)
theorem k_249 : (Jvm.Cond.fieldLinkNest "LeftThings$Thing" (61 : Nat) "LeftThings$Tag" "place" "I" "LeftThings") ∈ xAll := xAll_in 286 (by decide +kernel) (by decide +kernel)
theorem k_250 : (Jvm.Cond.fieldLink "LeftThings$Tag" (13 : Nat) "LeftThings$Tag" "fromDay" "I") ∈ xAll := xAll_in 287 (by decide +kernel) (by decide +kernel)
theorem k_251 : (Jvm.Cond.fieldLinkNest "LeftThings$Thing" (58 : Nat) "LeftThings$Tag" "fromDay" "I" "LeftThings") ∈ xAll := xAll_in 288 (by decide +kernel) (by decide +kernel)
theorem k_252 : (Jvm.Cond.fieldLink "LeftThings$Tag" (16 : Nat) "LeftThings$Tag" "before" "LLeftThings$Tag;") ∈ xAll := xAll_in 289 (by decide +kernel) (by decide +kernel)
theorem k_253 : (Jvm.Cond.fieldLinkNest "LeftThings$Thing" (62 : Nat) "LeftThings$Tag" "before" "LLeftThings$Tag;" "LeftThings") ∈ xAll := xAll_in 290 (by decide +kernel) (by decide +kernel)
theorem k_254 : (Jvm.Cond.laysFinal "LeftThings$Tag" "LeftThings$Tag" "place" "I") ∈ xAll := xAll_in 291 (by decide +kernel) (by decide +kernel)
theorem k_255 : (Jvm.Cond.soleField "LeftThings$Tag" "place") ∈ xAll := xAll_in 292 (by decide +kernel) (by decide +kernel)
theorem k_256 : (Jvm.Cond.laysFinal "LeftThings$Tag" "LeftThings$Tag" "fromDay" "I") ∈ xAll := xAll_in 293 (by decide +kernel) (by decide +kernel)
theorem k_257 : (Jvm.Cond.soleField "LeftThings$Tag" "fromDay") ∈ xAll := xAll_in 294 (by decide +kernel) (by decide +kernel)
theorem k_258 : (Jvm.Cond.laysFinal "LeftThings$Tag" "LeftThings$Tag" "before" "LLeftThings$Tag;") ∈ xAll := xAll_in 295 (by decide +kernel) (by decide +kernel)
theorem k_259 : (Jvm.Cond.soleField "LeftThings$Tag" "before") ∈ xAll := xAll_in 296 (by decide +kernel) (by decide +kernel)
theorem k_260 : (Jvm.Cond.superclass "LeftThings$Tag" "java/lang/Object") ∈ xAll := xAll_in 297 (by decide +kernel) (by decide +kernel)
theorem k_508 : (Jvm.Cond.methodLink "LeftThings" (210 : Nat) ({ cls := "LeftThings", name := "sellUnfetched", desc := "()I" } : Jvm.MethodName)) ∈ xAll := xAll_in 298 (by decide +kernel) (by decide +kernel)
theorem k_509 : (Jvm.Cond.privateMethod ({ cls := "LeftThings", name := "sellUnfetched", desc := "()I" } : Jvm.MethodName)) ∈ xAll := xAll_in 299 (by decide +kernel) (by decide +kernel)
theorem k_510 : (Jvm.Cond.instanceMethod ({ cls := "LeftThings", name := "sellUnfetched", desc := "()I" } : Jvm.MethodName)) ∈ xAll := xAll_in 300 (by decide +kernel) (by decide +kernel)
theorem k_511 : (Jvm.Cond.code ({ cls := "LeftThings", name := "sellUnfetched", desc := "()I" } : Jvm.MethodName) prog_1_method_35_code (5 : Nat) (Option.some Jvm.ClassFile.FieldType.int)) ∈ xAll := xAll_in 301 (by decide +kernel) (by decide +kernel)
theorem k_512 : (Jvm.Cond.methodLink "LeftThings" (213 : Nat) ({ cls := "LeftThings", name := "driveVan", desc := "()V" } : Jvm.MethodName)) ∈ xAll := xAll_in 302 (by decide +kernel) (by decide +kernel)
theorem k_513 : (Jvm.Cond.privateMethod ({ cls := "LeftThings", name := "driveVan", desc := "()V" } : Jvm.MethodName)) ∈ xAll := xAll_in 303 (by decide +kernel) (by decide +kernel)
theorem k_514 : (Jvm.Cond.instanceMethod ({ cls := "LeftThings", name := "driveVan", desc := "()V" } : Jvm.MethodName)) ∈ xAll := xAll_in 304 (by decide +kernel) (by decide +kernel)
theorem k_515 : (Jvm.Cond.code ({ cls := "LeftThings", name := "driveVan", desc := "()V" } : Jvm.MethodName) prog_1_method_36_code (5 : Nat) (Option.none : Option Jvm.ClassFile.FieldType)) ∈ xAll := xAll_in 305 (by decide +kernel) (by decide +kernel)
theorem k_198 : (Jvm.Cond.methodLink "LeftThings" (67 : Nat) ({ cls := "LeftThings", name := "hasRoomFor", desc := "(II)Z" } : Jvm.MethodName)) ∈ xAll := xAll_in 306 (by decide +kernel) (by decide +kernel)
theorem k_199 : (Jvm.Cond.privateMethod ({ cls := "LeftThings", name := "hasRoomFor", desc := "(II)Z" } : Jvm.MethodName)) ∈ xAll := xAll_in 307 (by decide +kernel) (by decide +kernel)
theorem k_200 : (Jvm.Cond.instanceMethod ({ cls := "LeftThings", name := "hasRoomFor", desc := "(II)Z" } : Jvm.MethodName)) ∈ xAll := xAll_in 308 (by decide +kernel) (by decide +kernel)
theorem k_201 : (Jvm.Cond.code ({ cls := "LeftThings", name := "hasRoomFor", desc := "(II)Z" } : Jvm.MethodName) prog_1_method_27_code (3 : Nat) (Option.some Jvm.ClassFile.FieldType.boolean)) ∈ xAll := xAll_in 309 (by decide +kernel) (by decide +kernel)
theorem k_104 : (Jvm.Cond.methodLink "LeftThings" (42 : Nat) ({ cls := "LeftThings", name := "isCounter", desc := "(I)Z" } : Jvm.MethodName)) ∈ xAll := xAll_in 310 (by decide +kernel) (by decide +kernel)
theorem k_202 : (Jvm.Cond.methodLink "LeftThings" (171 : Nat) ({ cls := "LeftThings", name := "sizesAt", desc := "(I)I" } : Jvm.MethodName)) ∈ xAll := xAll_in 311 (by decide +kernel) (by decide +kernel)
theorem k_203 : (Jvm.Cond.privateMethod ({ cls := "LeftThings", name := "sizesAt", desc := "(I)I" } : Jvm.MethodName)) ∈ xAll := xAll_in 312 (by decide +kernel) (by decide +kernel)
theorem k_204 : (Jvm.Cond.instanceMethod ({ cls := "LeftThings", name := "sizesAt", desc := "(I)I" } : Jvm.MethodName)) ∈ xAll := xAll_in 313 (by decide +kernel) (by decide +kernel)
theorem k_205 : (Jvm.Cond.code ({ cls := "LeftThings", name := "sizesAt", desc := "(I)I" } : Jvm.MethodName) prog_1_method_26_code (5 : Nat) (Option.some Jvm.ClassFile.FieldType.int)) ∈ xAll := xAll_in 314 (by decide +kernel) (by decide +kernel)
theorem k_2291 : (Jvm.Cond.methodLink "LeftThingsLaw" (64 : Nat) ({ cls := "LeftThings", name := "day", desc := "()I" } : Jvm.MethodName)) ∈ xAll := xAll_in 315 (by decide +kernel) (by decide +kernel)
theorem k_81 : (Jvm.Cond.instanceMethod ({ cls := "LeftThings", name := "day", desc := "()I" } : Jvm.MethodName)) ∈ xAll := xAll_in 316 (by decide +kernel) (by decide +kernel)
theorem k_82 : (Jvm.Cond.selects "LeftThings" ({ cls := "LeftThings", name := "day", desc := "()I" } : Jvm.MethodName) ({ cls := "LeftThings", name := "day", desc := "()I" } : Jvm.MethodName)) ∈ xAll := xAll_in 317 (by decide +kernel) (by decide +kernel)
theorem k_83 : (Jvm.Cond.code ({ cls := "LeftThings", name := "day", desc := "()I" } : Jvm.MethodName) prog_1_method_12_code (1 : Nat) (Option.some Jvm.ClassFile.FieldType.int)) ∈ xAll := xAll_in 318 (by decide +kernel) (by decide +kernel)
theorem k_2295 : (Jvm.Cond.methodLink "LeftThingsLaw" (15 : Nat) ({ cls := "LeftThings", name := "things", desc := "()I" } : Jvm.MethodName)) ∈ xAll := xAll_in 319 (by decide +kernel) (by decide +kernel)
theorem k_85 : (Jvm.Cond.instanceMethod ({ cls := "LeftThings", name := "things", desc := "()I" } : Jvm.MethodName)) ∈ xAll := xAll_in 320 (by decide +kernel) (by decide +kernel)
theorem k_86 : (Jvm.Cond.selects "LeftThings" ({ cls := "LeftThings", name := "things", desc := "()I" } : Jvm.MethodName) ({ cls := "LeftThings", name := "things", desc := "()I" } : Jvm.MethodName)) ∈ xAll := xAll_in 321 (by decide +kernel) (by decide +kernel)
theorem k_87 : (Jvm.Cond.code ({ cls := "LeftThings", name := "things", desc := "()I" } : Jvm.MethodName) prog_1_method_13_code (1 : Nat) (Option.some Jvm.ClassFile.FieldType.int)) ∈ xAll := xAll_in 322 (by decide +kernel) (by decide +kernel)
theorem k_2299 : (Jvm.Cond.methodLink "LeftThingsLaw" (19 : Nat) ({ cls := "LeftThings", name := "where", desc := "(I)I" } : Jvm.MethodName)) ∈ xAll := xAll_in 323 (by decide +kernel) (by decide +kernel)
theorem k_520 : (Jvm.Cond.instanceMethod ({ cls := "LeftThings", name := "where", desc := "(I)I" } : Jvm.MethodName)) ∈ xAll := xAll_in 324 (by decide +kernel) (by decide +kernel)
theorem k_521 : (Jvm.Cond.selects "LeftThings" ({ cls := "LeftThings", name := "where", desc := "(I)I" } : Jvm.MethodName) ({ cls := "LeftThings", name := "where", desc := "(I)I" } : Jvm.MethodName)) ∈ xAll := xAll_in 325 (by decide +kernel) (by decide +kernel)
theorem k_522 : (Jvm.Cond.code ({ cls := "LeftThings", name := "where", desc := "(I)I" } : Jvm.MethodName) prog_1_method_14_code (2 : Nat) (Option.some Jvm.ClassFile.FieldType.int)) ∈ xAll := xAll_in 326 (by decide +kernel) (by decide +kernel)
theorem k_372 : (Jvm.Cond.methodLink "LeftThings" (85 : Nat) ({ cls := "LeftThings", name := "thingNumbered", desc := "(I)LLeftThings$Thing;" } : Jvm.MethodName)) ∈ xAll := xAll_in 327 (by decide +kernel) (by decide +kernel)
theorem k_373 : (Jvm.Cond.privateMethod ({ cls := "LeftThings", name := "thingNumbered", desc := "(I)LLeftThings$Thing;" } : Jvm.MethodName)) ∈ xAll := xAll_in 328 (by decide +kernel) (by decide +kernel)
theorem k_374 : (Jvm.Cond.instanceMethod ({ cls := "LeftThings", name := "thingNumbered", desc := "(I)LLeftThings$Thing;" } : Jvm.MethodName)) ∈ xAll := xAll_in 329 (by decide +kernel) (by decide +kernel)
theorem k_375 : (Jvm.Cond.code ({ cls := "LeftThings", name := "thingNumbered", desc := "(I)LLeftThings$Thing;" } : Jvm.MethodName) prog_1_method_25_code (2 : Nat) (Option.some (Jvm.ClassFile.FieldType.object "LeftThings$Thing"))) ∈ xAll := xAll_in 330 (by decide +kernel) (by decide +kernel)
theorem k_376 : (Jvm.Cond.classLink "LeftThings" (176 : Nat) "java/lang/IndexOutOfBoundsException") ∈ xAll := xAll_in 331 (by decide +kernel) (by decide +kernel)
theorem k_377 : (Jvm.Cond.instantiable "java/lang/IndexOutOfBoundsException" (6 : Nat)) ∈ xAll := xAll_in 332 (by decide +kernel) (by decide +kernel)
theorem k_378 : (Jvm.Cond.castable "java/lang/IndexOutOfBoundsException" "java/lang/IndexOutOfBoundsException") ∈ xAll := xAll_in 333 (by decide +kernel) (by decide +kernel)
theorem k_379 : (Jvm.Cond.selects "java/lang/IndexOutOfBoundsException" ({ cls := "java/lang/Throwable", name := "fillInStackTrace", desc := "(I)Ljava/lang/Throwable;" } : Jvm.MethodName) ({ cls := "java/lang/Throwable", name := "fillInStackTrace", desc := "(I)Ljava/lang/Throwable;" } : Jvm.MethodName)) ∈ xAll := xAll_in 334 (by decide +kernel) (by decide +kernel)
theorem k_380 : (Jvm.Cond.lays "java/lang/IndexOutOfBoundsException" "java/lang/Throwable" "cause" "Ljava/lang/Throwable;") ∈ xAll := xAll_in 335 (by decide +kernel) (by decide +kernel)
theorem k_381 : (Jvm.Cond.lays "java/lang/IndexOutOfBoundsException" "java/lang/Throwable" "stackTrace" "[Ljava/lang/StackTraceElement;") ∈ xAll := xAll_in 336 (by decide +kernel) (by decide +kernel)
theorem k_382 : (Jvm.Cond.lays "java/lang/IndexOutOfBoundsException" "java/lang/Throwable" "suppressedExceptions" "Ljava/util/List;") ∈ xAll := xAll_in 337 (by decide +kernel) (by decide +kernel)
theorem k_383 : (Jvm.Cond.lays "java/lang/IndexOutOfBoundsException" "java/lang/Throwable" "detailMessage" "Ljava/lang/String;") ∈ xAll := xAll_in 338 (by decide +kernel) (by decide +kernel)
theorem k_384 : (Jvm.Cond.lays "java/lang/IndexOutOfBoundsException" "java/lang/Throwable" "backtrace" "Ljava/lang/Object;") ∈ xAll := xAll_in 339 (by decide +kernel) (by decide +kernel)
theorem k_386 : (Jvm.Cond.methodLink "LeftThings" (180 : Nat) ({ cls := "java/lang/IndexOutOfBoundsException", name := "<init>", desc := "(Ljava/lang/String;)V" } : Jvm.MethodName)) ∈ xAll := xAll_in 341 (by decide +kernel) (by decide +kernel)
theorem k_387 : (Jvm.Cond.instanceMethod ({ cls := "java/lang/IndexOutOfBoundsException", name := "<init>", desc := "(Ljava/lang/String;)V" } : Jvm.MethodName)) ∈ xAll := xAll_in 342 (by decide +kernel) (by decide +kernel)
theorem k_388 : (Jvm.Cond.code ({ cls := "java/lang/IndexOutOfBoundsException", name := "<init>", desc := "(Ljava/lang/String;)V" } : Jvm.MethodName) prog_11_method_2_code (2 : Nat) (Option.none : Option Jvm.ClassFile.FieldType)) ∈ xAll := xAll_in 343 (by decide +kernel) (by decide +kernel)
theorem k_389 : (Jvm.Cond.methodLink "java/lang/IndexOutOfBoundsException" (7 : Nat) ({ cls := "java/lang/RuntimeException", name := "<init>", desc := "(Ljava/lang/String;)V" } : Jvm.MethodName)) ∈ xAll := xAll_in 344 (by decide +kernel) (by decide +kernel)
theorem k_390 : (Jvm.Cond.lays "java/lang/IndexOutOfBoundsException" "java/lang/Throwable" "depth" "I") ∈ xAll := xAll_in 345 (by decide +kernel) (by decide +kernel)
theorem k_391 : (Jvm.Cond.superclass "java/lang/IndexOutOfBoundsException" "java/lang/RuntimeException") ∈ xAll := xAll_in 346 (by decide +kernel) (by decide +kernel)
theorem k_2323 : (Jvm.Cond.methodLink "LeftThingsLaw" (67 : Nat) ({ cls := "LeftThings", name := "whereOn", desc := "(II)I" } : Jvm.MethodName)) ∈ xAll := xAll_in 347 (by decide +kernel) (by decide +kernel)
theorem k_527 : (Jvm.Cond.instanceMethod ({ cls := "LeftThings", name := "whereOn", desc := "(II)I" } : Jvm.MethodName)) ∈ xAll := xAll_in 348 (by decide +kernel) (by decide +kernel)
theorem k_528 : (Jvm.Cond.selects "LeftThings" ({ cls := "LeftThings", name := "whereOn", desc := "(II)I" } : Jvm.MethodName) ({ cls := "LeftThings", name := "whereOn", desc := "(II)I" } : Jvm.MethodName)) ∈ xAll := xAll_in 349 (by decide +kernel) (by decide +kernel)
theorem k_529 : (Jvm.Cond.code ({ cls := "LeftThings", name := "whereOn", desc := "(II)I" } : Jvm.MethodName) prog_1_method_15_code (4 : Nat) (Option.some Jvm.ClassFile.FieldType.int)) ∈ xAll := xAll_in 350 (by decide +kernel) (by decide +kernel)
theorem k_531 : (Jvm.Cond.methodLinkNest "LeftThings" (167 : Nat) ({ cls := "LeftThings$Thing", name := "placeAtBeginningOf", desc := "(I)I" } : Jvm.MethodName) "LeftThings") ∈ xAll := xAll_in 352 (by decide +kernel) (by decide +kernel)
theorem k_532 : (Jvm.Cond.privateMethod ({ cls := "LeftThings$Thing", name := "placeAtBeginningOf", desc := "(I)I" } : Jvm.MethodName)) ∈ xAll := xAll_in 353 (by decide +kernel) (by decide +kernel)
theorem k_533 : (Jvm.Cond.instanceMethod ({ cls := "LeftThings$Thing", name := "placeAtBeginningOf", desc := "(I)I" } : Jvm.MethodName)) ∈ xAll := xAll_in 354 (by decide +kernel) (by decide +kernel)
theorem k_534 : (Jvm.Cond.code ({ cls := "LeftThings$Thing", name := "placeAtBeginningOf", desc := "(I)I" } : Jvm.MethodName) prog_3_method_8_code (3 : Nat) (Option.some Jvm.ClassFile.FieldType.int)) ∈ xAll := xAll_in 355 (by decide +kernel) (by decide +kernel)
theorem k_2332 : (Jvm.Cond.methodLink "LeftThingsLaw" (32 : Nat) ({ cls := "LeftThings", name := "loan", desc := "(I)I" } : Jvm.MethodName)) ∈ xAll := xAll_in 356 (by decide +kernel) (by decide +kernel)
theorem k_553 : (Jvm.Cond.instanceMethod ({ cls := "LeftThings", name := "loan", desc := "(I)I" } : Jvm.MethodName)) ∈ xAll := xAll_in 357 (by decide +kernel) (by decide +kernel)
theorem k_554 : (Jvm.Cond.selects "LeftThings" ({ cls := "LeftThings", name := "loan", desc := "(I)I" } : Jvm.MethodName) ({ cls := "LeftThings", name := "loan", desc := "(I)I" } : Jvm.MethodName)) ∈ xAll := xAll_in 358 (by decide +kernel) (by decide +kernel)
theorem k_555 : (Jvm.Cond.code ({ cls := "LeftThings", name := "loan", desc := "(I)I" } : Jvm.MethodName) prog_1_method_18_code (2 : Nat) (Option.some Jvm.ClassFile.FieldType.int)) ∈ xAll := xAll_in 359 (by decide +kernel) (by decide +kernel)
theorem k_2336 : (Jvm.Cond.methodLink "LeftThingsLaw" (35 : Nat) ({ cls := "LeftThings", name := "taken", desc := "()I" } : Jvm.MethodName)) ∈ xAll := xAll_in 360 (by decide +kernel) (by decide +kernel)
theorem k_93 : (Jvm.Cond.instanceMethod ({ cls := "LeftThings", name := "taken", desc := "()I" } : Jvm.MethodName)) ∈ xAll := xAll_in 361 (by decide +kernel) (by decide +kernel)
theorem k_94 : (Jvm.Cond.selects "LeftThings" ({ cls := "LeftThings", name := "taken", desc := "()I" } : Jvm.MethodName) ({ cls := "LeftThings", name := "taken", desc := "()I" } : Jvm.MethodName)) ∈ xAll := xAll_in 362 (by decide +kernel) (by decide +kernel)
theorem k_95 : (Jvm.Cond.code ({ cls := "LeftThings", name := "taken", desc := "()I" } : Jvm.MethodName) prog_1_method_20_code (1 : Nat) (Option.some Jvm.ClassFile.FieldType.int)) ∈ xAll := xAll_in 363 (by decide +kernel) (by decide +kernel)
theorem k_2340 : (Jvm.Cond.methodLink "LeftThingsLaw" (71 : Nat) ({ cls := "LeftThingsLaw", name := "told", desc := "([II)I" } : Jvm.MethodName)) ∈ xAll := xAll_in 364 (by decide +kernel) (by decide +kernel)
theorem k_2341 : (Jvm.Cond.static ({ cls := "LeftThingsLaw", name := "told", desc := "([II)I" } : Jvm.MethodName)) ∈ xAll := xAll_in 365 (by decide +kernel) (by decide +kernel)
theorem k_2342 : (Jvm.Cond.code ({ cls := "LeftThingsLaw", name := "told", desc := "([II)I" } : Jvm.MethodName) method_2_code (2 : Nat) (Option.some Jvm.ClassFile.FieldType.int)) ∈ xAll := xAll_in 366 (by decide +kernel) (by decide +kernel)
theorem k_2343 : (Jvm.Cond.constant "LeftThingsLaw" (7 : Nat) (49003 : Int32)) ∈ xAll := xAll_in 367 (by decide +kernel) (by decide +kernel)
theorem k_2344 : (Jvm.Cond.constant "LeftThingsLaw" (8 : Nat) (2147483647 : Int32)) ∈ xAll := xAll_in 368 (by decide +kernel) (by decide +kernel)
theorem k_2345 : (Jvm.Cond.methodLink "LeftThingsLaw" (48 : Nat) ({ cls := "LeftThingsLaw", name := "purses", desc := "(LLeftThings;)I" } : Jvm.MethodName)) ∈ xAll := xAll_in 369 (by decide +kernel) (by decide +kernel)
theorem k_2346 : (Jvm.Cond.static ({ cls := "LeftThingsLaw", name := "purses", desc := "(LLeftThings;)I" } : Jvm.MethodName)) ∈ xAll := xAll_in 370 (by decide +kernel) (by decide +kernel)
theorem k_2347 : (Jvm.Cond.code ({ cls := "LeftThingsLaw", name := "purses", desc := "(LLeftThings;)I" } : Jvm.MethodName) method_3_code (3 : Nat) (Option.some Jvm.ClassFile.FieldType.int)) ∈ xAll := xAll_in 371 (by decide +kernel) (by decide +kernel)
theorem k_2348 : (Jvm.Cond.methodLink "LeftThingsLaw" (9 : Nat) ({ cls := "LeftThings", name := "purse", desc := "(I)I" } : Jvm.MethodName)) ∈ xAll := xAll_in 372 (by decide +kernel) (by decide +kernel)
theorem k_560 : (Jvm.Cond.instanceMethod ({ cls := "LeftThings", name := "purse", desc := "(I)I" } : Jvm.MethodName)) ∈ xAll := xAll_in 373 (by decide +kernel) (by decide +kernel)
theorem k_561 : (Jvm.Cond.selects "LeftThings" ({ cls := "LeftThings", name := "purse", desc := "(I)I" } : Jvm.MethodName) ({ cls := "LeftThings", name := "purse", desc := "(I)I" } : Jvm.MethodName)) ∈ xAll := xAll_in 374 (by decide +kernel) (by decide +kernel)
theorem k_562 : (Jvm.Cond.code ({ cls := "LeftThings", name := "purse", desc := "(I)I" } : Jvm.MethodName) prog_1_method_19_code (2 : Nat) (Option.some Jvm.ClassFile.FieldType.int)) ∈ xAll := xAll_in 375 (by decide +kernel) (by decide +kernel)
theorem k_2353 : (Jvm.Cond.methodLink "LeftThingsLaw" (82 : Nat) ({ cls := "LeftThingsLaw", name := "does", desc := "(LLeftThings;[III)Z" } : Jvm.MethodName)) ∈ xAll := xAll_in 377 (by decide +kernel) (by decide +kernel)
theorem k_2354 : (Jvm.Cond.static ({ cls := "LeftThingsLaw", name := "does", desc := "(LLeftThings;[III)Z" } : Jvm.MethodName)) ∈ xAll := xAll_in 378 (by decide +kernel) (by decide +kernel)
theorem k_2355 : (Jvm.Cond.code ({ cls := "LeftThingsLaw", name := "does", desc := "(LLeftThings;[III)Z" } : Jvm.MethodName) method_4_code (11 : Nat) (Option.some Jvm.ClassFile.FieldType.boolean)) ∈ xAll := xAll_in 379 (by decide +kernel) (by decide +kernel)
theorem k_2356 : (Jvm.Cond.methodLink "LeftThingsLaw" (22 : Nat) ({ cls := "LeftThings", name := "load", desc := "(I)I" } : Jvm.MethodName)) ∈ xAll := xAll_in 380 (by decide +kernel) (by decide +kernel)
theorem k_539 : (Jvm.Cond.instanceMethod ({ cls := "LeftThings", name := "load", desc := "(I)I" } : Jvm.MethodName)) ∈ xAll := xAll_in 381 (by decide +kernel) (by decide +kernel)
theorem k_540 : (Jvm.Cond.selects "LeftThings" ({ cls := "LeftThings", name := "load", desc := "(I)I" } : Jvm.MethodName) ({ cls := "LeftThings", name := "load", desc := "(I)I" } : Jvm.MethodName)) ∈ xAll := xAll_in 382 (by decide +kernel) (by decide +kernel)
theorem k_541 : (Jvm.Cond.code ({ cls := "LeftThings", name := "load", desc := "(I)I" } : Jvm.MethodName) prog_1_method_16_code (2 : Nat) (Option.some Jvm.ClassFile.FieldType.int)) ∈ xAll := xAll_in 383 (by decide +kernel) (by decide +kernel)
theorem k_2361 : (Jvm.Cond.methodLink "LeftThingsLaw" (25 : Nat) ({ cls := "LeftThings", name := "leave", desc := "(III)I" } : Jvm.MethodName)) ∈ xAll := xAll_in 385 (by decide +kernel) (by decide +kernel)
theorem k_191 : (Jvm.Cond.instanceMethod ({ cls := "LeftThings", name := "leave", desc := "(III)I" } : Jvm.MethodName)) ∈ xAll := xAll_in 386 (by decide +kernel) (by decide +kernel)
theorem k_192 : (Jvm.Cond.selects "LeftThings" ({ cls := "LeftThings", name := "leave", desc := "(III)I" } : Jvm.MethodName) ({ cls := "LeftThings", name := "leave", desc := "(III)I" } : Jvm.MethodName)) ∈ xAll := xAll_in 387 (by decide +kernel) (by decide +kernel)
theorem k_193 : (Jvm.Cond.code ({ cls := "LeftThings", name := "leave", desc := "(III)I" } : Jvm.MethodName) prog_1_method_4_code (5 : Nat) (Option.some Jvm.ClassFile.FieldType.int)) ∈ xAll := xAll_in 388 (by decide +kernel) (by decide +kernel)
theorem k_238 : (Jvm.Cond.methodLinkNest "LeftThings" (78 : Nat) ({ cls := "LeftThings$Thing", name := "<init>", desc := "(IIIII)V" } : Jvm.MethodName) "LeftThings") ∈ xAll := xAll_in 391 (by decide +kernel) (by decide +kernel)
theorem k_239 : (Jvm.Cond.instanceMethod ({ cls := "LeftThings$Thing", name := "<init>", desc := "(IIIII)V" } : Jvm.MethodName)) ∈ xAll := xAll_in 392 (by decide +kernel) (by decide +kernel)
theorem k_240 : (Jvm.Cond.code ({ cls := "LeftThings$Thing", name := "<init>", desc := "(IIIII)V" } : Jvm.MethodName) prog_3_method_1_code (6 : Nat) (Option.none : Option Jvm.ClassFile.FieldType)) ∈ xAll := xAll_in 393 (by decide +kernel) (by decide +kernel)
theorem k_241 : (Jvm.Cond.methodLink "LeftThings$Thing" (3 : Nat) ({ cls := "java/lang/Object", name := "<init>", desc := "()V" } : Jvm.MethodName)) ∈ xAll := xAll_in 394 (by decide +kernel) (by decide +kernel)
theorem k_261 : (Jvm.Cond.fieldLink "LeftThings$Thing" (27 : Nat) "LeftThings$Thing" "number" "I") ∈ xAll := xAll_in 395 (by decide +kernel) (by decide +kernel)
theorem k_263 : (Jvm.Cond.fieldLink "LeftThings$Thing" (30 : Nat) "LeftThings$Thing" "owner" "I") ∈ xAll := xAll_in 396 (by decide +kernel) (by decide +kernel)
theorem k_264 : (Jvm.Cond.fieldLinkNest "LeftThings" (127 : Nat) "LeftThings$Thing" "owner" "I" "LeftThings") ∈ xAll := xAll_in 397 (by decide +kernel) (by decide +kernel)
theorem k_265 : (Jvm.Cond.fieldLink "LeftThings$Thing" (33 : Nat) "LeftThings$Thing" "size" "I") ∈ xAll := xAll_in 398 (by decide +kernel) (by decide +kernel)
theorem k_266 : (Jvm.Cond.fieldLinkNest "LeftThings" (190 : Nat) "LeftThings$Thing" "size" "I" "LeftThings") ∈ xAll := xAll_in 399 (by decide +kernel) (by decide +kernel)
theorem k_267 : (Jvm.Cond.fieldLink "LeftThings$Thing" (36 : Nat) "LeftThings$Thing" "leftOn" "I") ∈ xAll := xAll_in 400 (by decide +kernel) (by decide +kernel)
theorem k_268 : (Jvm.Cond.fieldLinkNest "LeftThings" (220 : Nat) "LeftThings$Thing" "leftOn" "I" "LeftThings") ∈ xAll := xAll_in 401 (by decide +kernel) (by decide +kernel)
theorem k_269 : (Jvm.Cond.fieldLink "LeftThings$Thing" (39 : Nat) "LeftThings$Thing" "worth" "I") ∈ xAll := xAll_in 402 (by decide +kernel) (by decide +kernel)
theorem k_270 : (Jvm.Cond.fieldLinkNest "LeftThings" (122 : Nat) "LeftThings$Thing" "worth" "I" "LeftThings") ∈ xAll := xAll_in 403 (by decide +kernel) (by decide +kernel)
theorem k_271 : (Jvm.Cond.fieldLink "LeftThings$Thing" (42 : Nat) "LeftThings$Thing" "place" "I") ∈ xAll := xAll_in 404 (by decide +kernel) (by decide +kernel)
theorem k_272 : (Jvm.Cond.fieldLinkNest "LeftThings" (107 : Nat) "LeftThings$Thing" "place" "I" "LeftThings") ∈ xAll := xAll_in 405 (by decide +kernel) (by decide +kernel)
theorem k_273 : (Jvm.Cond.fieldLink "LeftThings$Thing" (50 : Nat) "LeftThings$Thing" "newestTag" "LLeftThings$Tag;") ∈ xAll := xAll_in 406 (by decide +kernel) (by decide +kernel)
theorem k_274 : (Jvm.Cond.fieldLink "LeftThings$Thing" (9 : Nat) "LeftThings$Thing" "wantedAt" "I") ∈ xAll := xAll_in 407 (by decide +kernel) (by decide +kernel)
theorem k_275 : (Jvm.Cond.fieldLinkNest "LeftThings" (112 : Nat) "LeftThings$Thing" "wantedAt" "I" "LeftThings") ∈ xAll := xAll_in 408 (by decide +kernel) (by decide +kernel)
theorem k_276 : (Jvm.Cond.fieldLink "LeftThings$Thing" (15 : Nat) "LeftThings$Thing" "feeSum" "I") ∈ xAll := xAll_in 409 (by decide +kernel) (by decide +kernel)
theorem k_277 : (Jvm.Cond.fieldLinkNest "LeftThings" (98 : Nat) "LeftThings$Thing" "feeSum" "I" "LeftThings") ∈ xAll := xAll_in 410 (by decide +kernel) (by decide +kernel)
theorem k_278 : (Jvm.Cond.fieldLink "LeftThings$Thing" (18 : Nat) "LeftThings$Thing" "loanSum" "I") ∈ xAll := xAll_in 411 (by decide +kernel) (by decide +kernel)
theorem k_279 : (Jvm.Cond.fieldLinkNest "LeftThings" (141 : Nat) "LeftThings$Thing" "loanSum" "I" "LeftThings") ∈ xAll := xAll_in 412 (by decide +kernel) (by decide +kernel)
theorem k_280 : (Jvm.Cond.fieldLink "LeftThings$Thing" (21 : Nat) "LeftThings$Thing" "lender" "I") ∈ xAll := xAll_in 413 (by decide +kernel) (by decide +kernel)
theorem k_281 : (Jvm.Cond.fieldLinkNest "LeftThings" (144 : Nat) "LeftThings$Thing" "lender" "I" "LeftThings") ∈ xAll := xAll_in 414 (by decide +kernel) (by decide +kernel)
theorem k_282 : (Jvm.Cond.fieldLink "LeftThings$Thing" (24 : Nat) "LeftThings$Thing" "repayBy" "I") ∈ xAll := xAll_in 415 (by decide +kernel) (by decide +kernel)
theorem k_283 : (Jvm.Cond.fieldLinkNest "LeftThings" (155 : Nat) "LeftThings$Thing" "repayBy" "I" "LeftThings") ∈ xAll := xAll_in 416 (by decide +kernel) (by decide +kernel)
theorem k_284 : (Jvm.Cond.laysFinal "LeftThings$Thing" "LeftThings$Thing" "number" "I") ∈ xAll := xAll_in 417 (by decide +kernel) (by decide +kernel)
theorem k_285 : (Jvm.Cond.soleField "LeftThings$Thing" "number") ∈ xAll := xAll_in 418 (by decide +kernel) (by decide +kernel)
theorem k_286 : (Jvm.Cond.laysFinal "LeftThings$Thing" "LeftThings$Thing" "owner" "I") ∈ xAll := xAll_in 419 (by decide +kernel) (by decide +kernel)
theorem k_287 : (Jvm.Cond.soleField "LeftThings$Thing" "owner") ∈ xAll := xAll_in 420 (by decide +kernel) (by decide +kernel)
theorem k_288 : (Jvm.Cond.laysFinal "LeftThings$Thing" "LeftThings$Thing" "size" "I") ∈ xAll := xAll_in 421 (by decide +kernel) (by decide +kernel)
theorem k_289 : (Jvm.Cond.soleField "LeftThings$Thing" "size") ∈ xAll := xAll_in 422 (by decide +kernel) (by decide +kernel)
theorem k_290 : (Jvm.Cond.laysFinal "LeftThings$Thing" "LeftThings$Thing" "leftOn" "I") ∈ xAll := xAll_in 423 (by decide +kernel) (by decide +kernel)
theorem k_291 : (Jvm.Cond.soleField "LeftThings$Thing" "leftOn") ∈ xAll := xAll_in 424 (by decide +kernel) (by decide +kernel)
theorem k_292 : (Jvm.Cond.lays "LeftThings$Thing" "LeftThings$Thing" "worth" "I") ∈ xAll := xAll_in 425 (by decide +kernel) (by decide +kernel)
theorem k_293 : (Jvm.Cond.soleField "LeftThings$Thing" "worth") ∈ xAll := xAll_in 426 (by decide +kernel) (by decide +kernel)
theorem k_294 : (Jvm.Cond.lays "LeftThings$Thing" "LeftThings$Thing" "place" "I") ∈ xAll := xAll_in 427 (by decide +kernel) (by decide +kernel)
theorem k_295 : (Jvm.Cond.soleField "LeftThings$Thing" "place") ∈ xAll := xAll_in 428 (by decide +kernel) (by decide +kernel)
theorem k_296 : (Jvm.Cond.lays "LeftThings$Thing" "LeftThings$Thing" "newestTag" "LLeftThings$Tag;") ∈ xAll := xAll_in 429 (by decide +kernel) (by decide +kernel)
theorem k_297 : (Jvm.Cond.soleField "LeftThings$Thing" "newestTag") ∈ xAll := xAll_in 430 (by decide +kernel) (by decide +kernel)
theorem k_298 : (Jvm.Cond.lays "LeftThings$Thing" "LeftThings$Thing" "wantedAt" "I") ∈ xAll := xAll_in 431 (by decide +kernel) (by decide +kernel)
theorem k_299 : (Jvm.Cond.soleField "LeftThings$Thing" "wantedAt") ∈ xAll := xAll_in 432 (by decide +kernel) (by decide +kernel)
theorem k_300 : (Jvm.Cond.lays "LeftThings$Thing" "LeftThings$Thing" "feeSum" "I") ∈ xAll := xAll_in 433 (by decide +kernel) (by decide +kernel)
theorem k_301 : (Jvm.Cond.soleField "LeftThings$Thing" "feeSum") ∈ xAll := xAll_in 434 (by decide +kernel) (by decide +kernel)
theorem k_302 : (Jvm.Cond.lays "LeftThings$Thing" "LeftThings$Thing" "loanSum" "I") ∈ xAll := xAll_in 435 (by decide +kernel) (by decide +kernel)
theorem k_303 : (Jvm.Cond.soleField "LeftThings$Thing" "loanSum") ∈ xAll := xAll_in 436 (by decide +kernel) (by decide +kernel)
theorem k_304 : (Jvm.Cond.lays "LeftThings$Thing" "LeftThings$Thing" "lender" "I") ∈ xAll := xAll_in 437 (by decide +kernel) (by decide +kernel)
theorem k_305 : (Jvm.Cond.soleField "LeftThings$Thing" "lender") ∈ xAll := xAll_in 438 (by decide +kernel) (by decide +kernel)
theorem k_306 : (Jvm.Cond.lays "LeftThings$Thing" "LeftThings$Thing" "repayBy" "I") ∈ xAll := xAll_in 439 (by decide +kernel) (by decide +kernel)
theorem k_307 : (Jvm.Cond.soleField "LeftThings$Thing" "repayBy") ∈ xAll := xAll_in 440 (by decide +kernel) (by decide +kernel)
theorem k_308 : (Jvm.Cond.superclass "LeftThings$Thing" "java/lang/Object") ∈ xAll := xAll_in 441 (by decide +kernel) (by decide +kernel)
theorem k_309 : (Jvm.Cond.methodLink "LeftThings" (81 : Nat) ({ cls := "java/util/ArrayList", name := "add", desc := "(Ljava/lang/Object;)Z" } : Jvm.MethodName)) ∈ xAll := xAll_in 442 (by decide +kernel) (by decide +kernel)
theorem k_310 : (Jvm.Cond.instanceMethod ({ cls := "java/util/ArrayList", name := "add", desc := "(Ljava/lang/Object;)Z" } : Jvm.MethodName)) ∈ xAll := xAll_in 443 (by decide +kernel) (by decide +kernel)
theorem k_311 : (Jvm.Cond.selects "java/util/ArrayList" ({ cls := "java/util/ArrayList", name := "add", desc := "(Ljava/lang/Object;)Z" } : Jvm.MethodName) ({ cls := "java/util/ArrayList", name := "add", desc := "(Ljava/lang/Object;)Z" } : Jvm.MethodName)) ∈ xAll := xAll_in 444 (by decide +kernel) (by decide +kernel)
theorem k_312 : (Jvm.Cond.code ({ cls := "java/util/ArrayList", name := "add", desc := "(Ljava/lang/Object;)Z" } : Jvm.MethodName) prog_20_method_25_code (2 : Nat) (Option.some Jvm.ClassFile.FieldType.boolean)) ∈ xAll := xAll_in 445 (by decide +kernel) (by decide +kernel)
theorem k_313 : (Jvm.Cond.methodLink "java/util/ArrayList" (131 : Nat) ({ cls := "java/util/ArrayList", name := "add", desc := "(Ljava/lang/Object;[Ljava/lang/Object;I)V" } : Jvm.MethodName)) ∈ xAll := xAll_in 446 (by decide +kernel) (by decide +kernel)
theorem k_314 : (Jvm.Cond.privateMethod ({ cls := "java/util/ArrayList", name := "add", desc := "(Ljava/lang/Object;[Ljava/lang/Object;I)V" } : Jvm.MethodName)) ∈ xAll := xAll_in 447 (by decide +kernel) (by decide +kernel)
theorem k_315 : (Jvm.Cond.instanceMethod ({ cls := "java/util/ArrayList", name := "add", desc := "(Ljava/lang/Object;[Ljava/lang/Object;I)V" } : Jvm.MethodName)) ∈ xAll := xAll_in 448 (by decide +kernel) (by decide +kernel)
theorem k_316 : (Jvm.Cond.code ({ cls := "java/util/ArrayList", name := "add", desc := "(Ljava/lang/Object;[Ljava/lang/Object;I)V" } : Jvm.MethodName) prog_20_method_24_code (4 : Nat) (Option.none : Option Jvm.ClassFile.FieldType)) ∈ xAll := xAll_in 449 (by decide +kernel) (by decide +kernel)
theorem k_317 : (Jvm.Cond.methodLink "java/util/ArrayList" (129 : Nat) ({ cls := "java/util/ArrayList", name := "grow", desc := "()[Ljava/lang/Object;" } : Jvm.MethodName)) ∈ xAll := xAll_in 450 (by decide +kernel) (by decide +kernel)
theorem k_318 : (Jvm.Cond.privateMethod ({ cls := "java/util/ArrayList", name := "grow", desc := "()[Ljava/lang/Object;" } : Jvm.MethodName)) ∈ xAll := xAll_in 451 (by decide +kernel) (by decide +kernel)
theorem k_319 : (Jvm.Cond.instanceMethod ({ cls := "java/util/ArrayList", name := "grow", desc := "()[Ljava/lang/Object;" } : Jvm.MethodName)) ∈ xAll := xAll_in 452 (by decide +kernel) (by decide +kernel)
theorem k_320 : (Jvm.Cond.code ({ cls := "java/util/ArrayList", name := "grow", desc := "()[Ljava/lang/Object;" } : Jvm.MethodName) prog_20_method_7_code (1 : Nat) (Option.some (Jvm.ClassFile.FieldType.array (Jvm.ClassFile.FieldType.object "java/lang/Object")))) ∈ xAll := xAll_in 453 (by decide +kernel) (by decide +kernel)
theorem k_321 : (Jvm.Cond.methodLink "java/util/ArrayList" (69 : Nat) ({ cls := "java/util/ArrayList", name := "grow", desc := "(I)[Ljava/lang/Object;" } : Jvm.MethodName)) ∈ xAll := xAll_in 454 (by decide +kernel) (by decide +kernel)
theorem k_322 : (Jvm.Cond.privateMethod ({ cls := "java/util/ArrayList", name := "grow", desc := "(I)[Ljava/lang/Object;" } : Jvm.MethodName)) ∈ xAll := xAll_in 455 (by decide +kernel) (by decide +kernel)
theorem k_323 : (Jvm.Cond.instanceMethod ({ cls := "java/util/ArrayList", name := "grow", desc := "(I)[Ljava/lang/Object;" } : Jvm.MethodName)) ∈ xAll := xAll_in 456 (by decide +kernel) (by decide +kernel)
theorem k_324 : (Jvm.Cond.code ({ cls := "java/util/ArrayList", name := "grow", desc := "(I)[Ljava/lang/Object;" } : Jvm.MethodName) prog_20_method_6_code (4 : Nat) (Option.some (Jvm.ClassFile.FieldType.array (Jvm.ClassFile.FieldType.object "java/lang/Object")))) ∈ xAll := xAll_in 457 (by decide +kernel) (by decide +kernel)
theorem k_325 : (Jvm.Cond.methodLink "java/util/ArrayList" (73 : Nat) ({ cls := "jdk/internal/util/ArraysSupport", name := "newLength", desc := "(III)I" } : Jvm.MethodName)) ∈ xAll := xAll_in 458 (by decide +kernel) (by decide +kernel)
theorem k_326 : (Jvm.Cond.static ({ cls := "jdk/internal/util/ArraysSupport", name := "newLength", desc := "(III)I" } : Jvm.MethodName)) ∈ xAll := xAll_in 459 (by decide +kernel) (by decide +kernel)
theorem k_327 : (Jvm.Cond.code ({ cls := "jdk/internal/util/ArraysSupport", name := "newLength", desc := "(III)I" } : Jvm.MethodName) prog_27_method_27_code (4 : Nat) (Option.some Jvm.ClassFile.FieldType.int)) ∈ xAll := xAll_in 460 (by decide +kernel) (by decide +kernel)
theorem k_328 : (Jvm.Cond.methodLink "jdk/internal/util/ArraysSupport" (194 : Nat) ({ cls := "java/lang/Math", name := "max", desc := "(II)I" } : Jvm.MethodName)) ∈ xAll := xAll_in 461 (by decide +kernel) (by decide +kernel)
theorem k_329 : (Jvm.Cond.static ({ cls := "java/lang/Math", name := "max", desc := "(II)I" } : Jvm.MethodName)) ∈ xAll := xAll_in 462 (by decide +kernel) (by decide +kernel)
theorem k_330 : (Jvm.Cond.code ({ cls := "java/lang/Math", name := "max", desc := "(II)I" } : Jvm.MethodName) prog_13_method_65_code (2 : Nat) (Option.some Jvm.ClassFile.FieldType.int)) ∈ xAll := xAll_in 463 (by decide +kernel) (by decide +kernel)
theorem k_331 : (Jvm.Cond.constant "jdk/internal/util/ArraysSupport" (200 : Nat) (2147483639 : Int32)) ∈ xAll := xAll_in 464 (by decide +kernel) (by decide +kernel)
theorem k_332 : (Jvm.Cond.methodLink "jdk/internal/util/ArraysSupport" (201 : Nat) ({ cls := "jdk/internal/util/ArraysSupport", name := "hugeLength", desc := "(II)I" } : Jvm.MethodName)) ∈ xAll := xAll_in 465 (by decide +kernel) (by decide +kernel)
theorem k_333 : (Jvm.Cond.static ({ cls := "jdk/internal/util/ArraysSupport", name := "hugeLength", desc := "(II)I" } : Jvm.MethodName)) ∈ xAll := xAll_in 466 (by decide +kernel) (by decide +kernel)
theorem k_334 : (Jvm.Cond.code ({ cls := "jdk/internal/util/ArraysSupport", name := "hugeLength", desc := "(II)I" } : Jvm.MethodName) prog_27_method_28_code (3 : Nat) (Option.some Jvm.ClassFile.FieldType.int)) ∈ xAll := xAll_in 467 (by decide +kernel) (by decide +kernel)
theorem k_335 : (Jvm.Cond.methodLink "java/util/ArrayList" (66 : Nat) ({ cls := "java/util/Arrays", name := "copyOf", desc := "([Ljava/lang/Object;I)[Ljava/lang/Object;" } : Jvm.MethodName)) ∈ xAll := xAll_in 468 (by decide +kernel) (by decide +kernel)
theorem k_336 : (Jvm.Cond.static ({ cls := "java/util/Arrays", name := "copyOf", desc := "([Ljava/lang/Object;I)[Ljava/lang/Object;" } : Jvm.MethodName)) ∈ xAll := xAll_in 469 (by decide +kernel) (by decide +kernel)
theorem k_337 : (Jvm.Cond.code ({ cls := "java/util/Arrays", name := "copyOf", desc := "([Ljava/lang/Object;I)[Ljava/lang/Object;" } : Jvm.MethodName) prog_21_method_119_code (2 : Nat) (Option.some (Jvm.ClassFile.FieldType.array (Jvm.ClassFile.FieldType.object "java/lang/Object")))) ∈ xAll := xAll_in 470 (by decide +kernel) (by decide +kernel)
theorem k_338 : (Jvm.Cond.methodLink "java/util/Arrays" (86 : Nat) ({ cls := "java/lang/Object", name := "getClass", desc := "()Ljava/lang/Class;" } : Jvm.MethodName)) ∈ xAll := xAll_in 471 (by decide +kernel) (by decide +kernel)
theorem k_339 : (Jvm.Cond.instanceMethod ({ cls := "java/lang/Object", name := "getClass", desc := "()Ljava/lang/Class;" } : Jvm.MethodName)) ∈ xAll := xAll_in 472 (by decide +kernel) (by decide +kernel)
theorem k_340 : (Jvm.Cond.sameMethod "java/lang/Object" "java/lang/Object" "getClass" "()Ljava/lang/Class;") ∈ xAll := xAll_in 473 (by decide +kernel) (by decide +kernel)
theorem k_341 : (Jvm.Cond.selects "LeftThings" ({ cls := "java/lang/Object", name := "getClass", desc := "()Ljava/lang/Class;" } : Jvm.MethodName) ({ cls := "java/lang/Object", name := "getClass", desc := "()Ljava/lang/Class;" } : Jvm.MethodName)) ∈ xAll := xAll_in 474 (by decide +kernel) (by decide +kernel)
theorem k_342 : (Jvm.Cond.selects "LeftThings$Tag" ({ cls := "java/lang/Object", name := "getClass", desc := "()Ljava/lang/Class;" } : Jvm.MethodName) ({ cls := "java/lang/Object", name := "getClass", desc := "()Ljava/lang/Class;" } : Jvm.MethodName)) ∈ xAll := xAll_in 475 (by decide +kernel) (by decide +kernel)
theorem k_343 : (Jvm.Cond.selects "LeftThings$Thing" ({ cls := "java/lang/Object", name := "getClass", desc := "()Ljava/lang/Class;" } : Jvm.MethodName) ({ cls := "java/lang/Object", name := "getClass", desc := "()Ljava/lang/Class;" } : Jvm.MethodName)) ∈ xAll := xAll_in 476 (by decide +kernel) (by decide +kernel)
theorem k_345 : (Jvm.Cond.selects "java/lang/IllegalArgumentException" ({ cls := "java/lang/Object", name := "getClass", desc := "()Ljava/lang/Class;" } : Jvm.MethodName) ({ cls := "java/lang/Object", name := "getClass", desc := "()Ljava/lang/Class;" } : Jvm.MethodName)) ∈ xAll := xAll_in 477 (by decide +kernel) (by decide +kernel)
theorem k_346 : (Jvm.Cond.selects "java/lang/IllegalStateException" ({ cls := "java/lang/Object", name := "getClass", desc := "()Ljava/lang/Class;" } : Jvm.MethodName) ({ cls := "java/lang/Object", name := "getClass", desc := "()Ljava/lang/Class;" } : Jvm.MethodName)) ∈ xAll := xAll_in 478 (by decide +kernel) (by decide +kernel)
theorem k_347 : (Jvm.Cond.selects "java/lang/IndexOutOfBoundsException" ({ cls := "java/lang/Object", name := "getClass", desc := "()Ljava/lang/Class;" } : Jvm.MethodName) ({ cls := "java/lang/Object", name := "getClass", desc := "()Ljava/lang/Class;" } : Jvm.MethodName)) ∈ xAll := xAll_in 479 (by decide +kernel) (by decide +kernel)
theorem k_348 : (Jvm.Cond.selects "java/util/ArrayList" ({ cls := "java/lang/Object", name := "getClass", desc := "()Ljava/lang/Class;" } : Jvm.MethodName) ({ cls := "java/lang/Object", name := "getClass", desc := "()Ljava/lang/Class;" } : Jvm.MethodName)) ∈ xAll := xAll_in 480 (by decide +kernel) (by decide +kernel)
theorem k_349 : (Jvm.Cond.native ({ cls := "java/lang/Object", name := "getClass", desc := "()Ljava/lang/Class;" } : Jvm.MethodName)) ∈ xAll := xAll_in 481 (by decide +kernel) (by decide +kernel)
theorem k_350 : (Jvm.Cond.methodLink "java/util/Arrays" (300 : Nat) ({ cls := "java/util/Arrays", name := "copyOf", desc := "([Ljava/lang/Object;ILjava/lang/Class;)[Ljava/lang/Object;" } : Jvm.MethodName)) ∈ xAll := xAll_in 482 (by decide +kernel) (by decide +kernel)
theorem k_351 : (Jvm.Cond.static ({ cls := "java/util/Arrays", name := "copyOf", desc := "([Ljava/lang/Object;ILjava/lang/Class;)[Ljava/lang/Object;" } : Jvm.MethodName)) ∈ xAll := xAll_in 483 (by decide +kernel) (by decide +kernel)
theorem k_352 : (Jvm.Cond.code ({ cls := "java/util/Arrays", name := "copyOf", desc := "([Ljava/lang/Object;ILjava/lang/Class;)[Ljava/lang/Object;" } : Jvm.MethodName) prog_21_method_120_code (4 : Nat) (Option.some (Jvm.ClassFile.FieldType.array (Jvm.ClassFile.FieldType.object "java/lang/Object")))) ∈ xAll := xAll_in 484 (by decide +kernel) (by decide +kernel)
theorem k_353 : (Jvm.Cond.classLink "java/util/Arrays" (110 : Nat) "[Ljava/lang/Object;") ∈ xAll := xAll_in 485 (by decide +kernel) (by decide +kernel)
theorem k_355 : (Jvm.Cond.classLink "java/util/Arrays" (2 : Nat) "java/lang/Object") ∈ xAll := xAll_in 487 (by decide +kernel) (by decide +kernel)
theorem k_356 : (Jvm.Cond.methodLink "java/util/Arrays" (304 : Nat) ({ cls := "java/lang/Math", name := "min", desc := "(II)I" } : Jvm.MethodName)) ∈ xAll := xAll_in 488 (by decide +kernel) (by decide +kernel)
theorem k_359 : (Jvm.Cond.methodLink "java/util/Arrays" (150 : Nat) ({ cls := "java/lang/System", name := "arraycopy", desc := "(Ljava/lang/Object;ILjava/lang/Object;II)V" } : Jvm.MethodName)) ∈ xAll := xAll_in 489 (by decide +kernel) (by decide +kernel)
theorem k_362 : (Jvm.Cond.methodLink "java/util/ArrayList" (79 : Nat) ({ cls := "java/lang/Math", name := "max", desc := "(II)I" } : Jvm.MethodName)) ∈ xAll := xAll_in 490 (by decide +kernel) (by decide +kernel)
theorem k_363 : (Jvm.Cond.classLink "java/util/ArrayList" (7 : Nat) "java/lang/Object") ∈ xAll := xAll_in 491 (by decide +kernel) (by decide +kernel)
theorem k_2468 : (Jvm.Cond.methodLink "LeftThingsLaw" (29 : Nat) ({ cls := "LeftThings", name := "fees", desc := "(I)I" } : Jvm.MethodName)) ∈ xAll := xAll_in 492 (by decide +kernel) (by decide +kernel)
theorem k_546 : (Jvm.Cond.instanceMethod ({ cls := "LeftThings", name := "fees", desc := "(I)I" } : Jvm.MethodName)) ∈ xAll := xAll_in 493 (by decide +kernel) (by decide +kernel)
theorem k_547 : (Jvm.Cond.selects "LeftThings" ({ cls := "LeftThings", name := "fees", desc := "(I)I" } : Jvm.MethodName) ({ cls := "LeftThings", name := "fees", desc := "(I)I" } : Jvm.MethodName)) ∈ xAll := xAll_in 494 (by decide +kernel) (by decide +kernel)
theorem k_548 : (Jvm.Cond.code ({ cls := "LeftThings", name := "fees", desc := "(I)I" } : Jvm.MethodName) prog_1_method_17_code (2 : Nat) (Option.some Jvm.ClassFile.FieldType.int)) ∈ xAll := xAll_in 495 (by decide +kernel) (by decide +kernel)
theorem k_2472 : (Jvm.Cond.methodLink "LeftThingsLaw" (38 : Nat) ({ cls := "LeftThings", name := "fetch", desc := "(I)I" } : Jvm.MethodName)) ∈ xAll := xAll_in 496 (by decide +kernel) (by decide +kernel)
theorem k_369 : (Jvm.Cond.instanceMethod ({ cls := "LeftThings", name := "fetch", desc := "(I)I" } : Jvm.MethodName)) ∈ xAll := xAll_in 497 (by decide +kernel) (by decide +kernel)
theorem k_370 : (Jvm.Cond.selects "LeftThings" ({ cls := "LeftThings", name := "fetch", desc := "(I)I" } : Jvm.MethodName) ({ cls := "LeftThings", name := "fetch", desc := "(I)I" } : Jvm.MethodName)) ∈ xAll := xAll_in 498 (by decide +kernel) (by decide +kernel)
theorem k_371 : (Jvm.Cond.code ({ cls := "LeftThings", name := "fetch", desc := "(I)I" } : Jvm.MethodName) prog_1_method_5_code (4 : Nat) (Option.some Jvm.ClassFile.FieldType.int)) ∈ xAll := xAll_in 499 (by decide +kernel) (by decide +kernel)
theorem k_2477 : (Jvm.Cond.methodLink "LeftThingsLaw" (41 : Nat) ({ cls := "LeftThings", name := "want", desc := "(II)I" } : Jvm.MethodName)) ∈ xAll := xAll_in 501 (by decide +kernel) (by decide +kernel)
theorem k_427 : (Jvm.Cond.instanceMethod ({ cls := "LeftThings", name := "want", desc := "(II)I" } : Jvm.MethodName)) ∈ xAll := xAll_in 502 (by decide +kernel) (by decide +kernel)
theorem k_428 : (Jvm.Cond.selects "LeftThings" ({ cls := "LeftThings", name := "want", desc := "(II)I" } : Jvm.MethodName) ({ cls := "LeftThings", name := "want", desc := "(II)I" } : Jvm.MethodName)) ∈ xAll := xAll_in 503 (by decide +kernel) (by decide +kernel)
theorem k_429 : (Jvm.Cond.code ({ cls := "LeftThings", name := "want", desc := "(II)I" } : Jvm.MethodName) prog_1_method_6_code (4 : Nat) (Option.some Jvm.ClassFile.FieldType.int)) ∈ xAll := xAll_in 504 (by decide +kernel) (by decide +kernel)
theorem k_2482 : (Jvm.Cond.methodLink "LeftThingsLaw" (45 : Nat) ({ cls := "LeftThings", name := "value", desc := "(II)I" } : Jvm.MethodName)) ∈ xAll := xAll_in 506 (by decide +kernel) (by decide +kernel)
theorem k_436 : (Jvm.Cond.instanceMethod ({ cls := "LeftThings", name := "value", desc := "(II)I" } : Jvm.MethodName)) ∈ xAll := xAll_in 507 (by decide +kernel) (by decide +kernel)
theorem k_437 : (Jvm.Cond.selects "LeftThings" ({ cls := "LeftThings", name := "value", desc := "(II)I" } : Jvm.MethodName) ({ cls := "LeftThings", name := "value", desc := "(II)I" } : Jvm.MethodName)) ∈ xAll := xAll_in 508 (by decide +kernel) (by decide +kernel)
theorem k_438 : (Jvm.Cond.code ({ cls := "LeftThings", name := "value", desc := "(II)I" } : Jvm.MethodName) prog_1_method_7_code (5 : Nat) (Option.some Jvm.ClassFile.FieldType.int)) ∈ xAll := xAll_in 509 (by decide +kernel) (by decide +kernel)
theorem k_2488 : (Jvm.Cond.methodLink "LeftThingsLaw" (75 : Nat) ({ cls := "LeftThingsLaw", name := "lends", desc := "(LLeftThings;[IIII)Z" } : Jvm.MethodName)) ∈ xAll := xAll_in 512 (by decide +kernel) (by decide +kernel)
theorem k_2489 : (Jvm.Cond.static ({ cls := "LeftThingsLaw", name := "lends", desc := "(LLeftThings;[IIII)Z" } : Jvm.MethodName)) ∈ xAll := xAll_in 513 (by decide +kernel) (by decide +kernel)
theorem k_2490 : (Jvm.Cond.code ({ cls := "LeftThingsLaw", name := "lends", desc := "(LLeftThings;[IIII)Z" } : Jvm.MethodName) method_5_code (9 : Nat) (Option.some Jvm.ClassFile.FieldType.boolean)) ∈ xAll := xAll_in 514 (by decide +kernel) (by decide +kernel)
theorem k_2491 : (Jvm.Cond.methodLink "LeftThingsLaw" (54 : Nat) ({ cls := "LeftThings", name := "repay", desc := "(I)I" } : Jvm.MethodName)) ∈ xAll := xAll_in 515 (by decide +kernel) (by decide +kernel)
theorem k_462 : (Jvm.Cond.instanceMethod ({ cls := "LeftThings", name := "repay", desc := "(I)I" } : Jvm.MethodName)) ∈ xAll := xAll_in 516 (by decide +kernel) (by decide +kernel)
theorem k_463 : (Jvm.Cond.selects "LeftThings" ({ cls := "LeftThings", name := "repay", desc := "(I)I" } : Jvm.MethodName) ({ cls := "LeftThings", name := "repay", desc := "(I)I" } : Jvm.MethodName)) ∈ xAll := xAll_in 517 (by decide +kernel) (by decide +kernel)
theorem k_464 : (Jvm.Cond.code ({ cls := "LeftThings", name := "repay", desc := "(I)I" } : Jvm.MethodName) prog_1_method_9_code (4 : Nat) (Option.some Jvm.ClassFile.FieldType.int)) ∈ xAll := xAll_in 518 (by decide +kernel) (by decide +kernel)
theorem k_2496 : (Jvm.Cond.methodLink "LeftThingsLaw" (57 : Nat) ({ cls := "LeftThings", name := "lend", desc := "(III)V" } : Jvm.MethodName)) ∈ xAll := xAll_in 520 (by decide +kernel) (by decide +kernel)
theorem k_445 : (Jvm.Cond.instanceMethod ({ cls := "LeftThings", name := "lend", desc := "(III)V" } : Jvm.MethodName)) ∈ xAll := xAll_in 521 (by decide +kernel) (by decide +kernel)
theorem k_446 : (Jvm.Cond.selects "LeftThings" ({ cls := "LeftThings", name := "lend", desc := "(III)V" } : Jvm.MethodName) ({ cls := "LeftThings", name := "lend", desc := "(III)V" } : Jvm.MethodName)) ∈ xAll := xAll_in 522 (by decide +kernel) (by decide +kernel)
theorem k_447 : (Jvm.Cond.code ({ cls := "LeftThings", name := "lend", desc := "(III)V" } : Jvm.MethodName) prog_1_method_8_code (5 : Nat) (Option.none : Option Jvm.ClassFile.FieldType)) ∈ xAll := xAll_in 523 (by decide +kernel) (by decide +kernel)
theorem k_450 : (Jvm.Cond.methodLinkNest "LeftThings" (132 : Nat) ({ cls := "LeftThings$Thing", name := "beginLoan", desc := "(II)V" } : Jvm.MethodName) "LeftThings") ∈ xAll := xAll_in 526 (by decide +kernel) (by decide +kernel)
theorem k_451 : (Jvm.Cond.privateMethod ({ cls := "LeftThings$Thing", name := "beginLoan", desc := "(II)V" } : Jvm.MethodName)) ∈ xAll := xAll_in 527 (by decide +kernel) (by decide +kernel)
theorem k_452 : (Jvm.Cond.instanceMethod ({ cls := "LeftThings$Thing", name := "beginLoan", desc := "(II)V" } : Jvm.MethodName)) ∈ xAll := xAll_in 528 (by decide +kernel) (by decide +kernel)
theorem k_453 : (Jvm.Cond.code ({ cls := "LeftThings$Thing", name := "beginLoan", desc := "(II)V" } : Jvm.MethodName) prog_3_method_5_code (3 : Nat) (Option.none : Option Jvm.ClassFile.FieldType)) ∈ xAll := xAll_in 529 (by decide +kernel) (by decide +kernel)
theorem k_2506 : (Jvm.Cond.methodLink "LeftThingsLaw" (61 : Nat) ({ cls := "LeftThings", name := "doubt", desc := "(I)I" } : Jvm.MethodName)) ∈ xAll := xAll_in 530 (by decide +kernel) (by decide +kernel)
theorem k_474 : (Jvm.Cond.instanceMethod ({ cls := "LeftThings", name := "doubt", desc := "(I)I" } : Jvm.MethodName)) ∈ xAll := xAll_in 531 (by decide +kernel) (by decide +kernel)
theorem k_475 : (Jvm.Cond.selects "LeftThings" ({ cls := "LeftThings", name := "doubt", desc := "(I)I" } : Jvm.MethodName) ({ cls := "LeftThings", name := "doubt", desc := "(I)I" } : Jvm.MethodName)) ∈ xAll := xAll_in 532 (by decide +kernel) (by decide +kernel)
theorem k_476 : (Jvm.Cond.code ({ cls := "LeftThings", name := "doubt", desc := "(I)I" } : Jvm.MethodName) prog_1_method_10_code (3 : Nat) (Option.some Jvm.ClassFile.FieldType.int)) ∈ xAll := xAll_in 533 (by decide +kernel) (by decide +kernel)
theorem k_2511 : (Jvm.Cond.methodLink "LeftThingsLaw" (86 : Nat) ({ cls := "LeftThingsLaw", name := "areSo", desc := "(LLeftThings;[I[I)Z" } : Jvm.MethodName)) ∈ xAll := xAll_in 535 (by decide +kernel) (by decide +kernel)
theorem k_2512 : (Jvm.Cond.static ({ cls := "LeftThingsLaw", name := "areSo", desc := "(LLeftThings;[I[I)Z" } : Jvm.MethodName)) ∈ xAll := xAll_in 536 (by decide +kernel) (by decide +kernel)
theorem k_2513 : (Jvm.Cond.code ({ cls := "LeftThingsLaw", name := "areSo", desc := "(LLeftThings;[I[I)Z" } : Jvm.MethodName) method_6_code (7 : Nat) (Option.some Jvm.ClassFile.FieldType.boolean)) ∈ xAll := xAll_in 537 (by decide +kernel) (by decide +kernel)
theorem k_762 : (Jvm.Cond.sameMethod "java/lang/Throwable" "java/lang/Throwable" "fillInStackTrace" "(I)Ljava/lang/Throwable;") ∈ xAll := xAll_in 538 (by decide +kernel) (by decide +kernel)
theorem k_763 : (Jvm.Cond.castable "LeftThings" "java/lang/Object") ∈ xAll := xAll_in 539 (by decide +kernel) (by decide +kernel)
theorem k_764 : (Jvm.Cond.castable "java/util/ArrayList" "java/lang/Object") ∈ xAll := xAll_in 540 (by decide +kernel) (by decide +kernel)
theorem k_766 : (Jvm.Cond.castable "java/lang/IllegalArgumentException" "java/lang/Object") ∈ xAll := xAll_in 541 (by decide +kernel) (by decide +kernel)
theorem k_770 : (Jvm.Cond.castable "java/lang/IndexOutOfBoundsException" "java/lang/Object") ∈ xAll := xAll_in 542 (by decide +kernel) (by decide +kernel)
theorem k_767 : (Jvm.Cond.castable "java/lang/IllegalStateException" "java/lang/Object") ∈ xAll := xAll_in 543 (by decide +kernel) (by decide +kernel)
theorem k_769 : (Jvm.Cond.castable "LeftThings$Tag" "java/lang/Object") ∈ xAll := xAll_in 544 (by decide +kernel) (by decide +kernel)
theorem k_768 : (Jvm.Cond.castable "LeftThings$Thing" "java/lang/Object") ∈ xAll := xAll_in 545 (by decide +kernel) (by decide +kernel)
theorem k_771 : (Jvm.Cond.castable "java/lang/Throwable" "java/lang/Object") ∈ xAll := xAll_in 546 (by decide +kernel) (by decide +kernel)
theorem k_772 : (Jvm.Cond.castable "java/lang/String" "java/lang/Object") ∈ xAll := xAll_in 547 (by decide +kernel) (by decide +kernel)
theorem k_773 : (Jvm.Cond.sameMethod "[Ljava/lang/Object;" "java/lang/Object" "getClass" "()Ljava/lang/Class;") ∈ xAll := xAll_in 548 (by decide +kernel) (by decide +kernel)
theorem k_774 : (Jvm.Cond.selects "[Ljava/lang/Object;" ({ cls := "java/lang/Object", name := "getClass", desc := "()Ljava/lang/Class;" } : Jvm.MethodName) ({ cls := "java/lang/Object", name := "getClass", desc := "()Ljava/lang/Class;" } : Jvm.MethodName)) ∈ xAll := xAll_in 549 (by decide +kernel) (by decide +kernel)
theorem k_775 : (Jvm.Cond.declares ({ cls := "java/lang/Object", name := "getClass", desc := "()Ljava/lang/Class;" } : Jvm.MethodName)) ∈ xAll := xAll_in 550 (by decide +kernel) (by decide +kernel)
theorem k_776 : (Jvm.Cond.castable "[I" "java/lang/Object") ∈ xAll := xAll_in 551 (by decide +kernel) (by decide +kernel)
theorem k_777 : (Jvm.Cond.castable "[B" "java/lang/Object") ∈ xAll := xAll_in 552 (by decide +kernel) (by decide +kernel)
theorem k_778 : (Jvm.Cond.castable "[Ljava/lang/Object;" "java/lang/Object") ∈ xAll := xAll_in 553 (by decide +kernel) (by decide +kernel)
theorem s_0 : Cond.selects (⟨"java/lang/Throwable", "fillInStackTrace", "(I)Ljava/lang/Throwable;"⟩ : MethodName).cls ⟨"java/lang/Throwable", "fillInStackTrace", "(I)Ljava/lang/Throwable;"⟩ ⟨"java/lang/Throwable", "fillInStackTrace", "(I)Ljava/lang/Throwable;"⟩ ∈ xAll := xAll_in 0 (by decide +kernel) (by decide +kernel)
theorem s_17 : Cond.selects (⟨"LeftThings", "endDay", "()I"⟩ : MethodName).cls ⟨"LeftThings", "endDay", "()I"⟩ ⟨"LeftThings", "endDay", "()I"⟩ ∈ xAll := xAll_in 1 (by decide +kernel) (by decide +kernel)
theorem s_18 : Cond.selects (⟨"LeftThings", "oweFees", "()V"⟩ : MethodName).cls ⟨"LeftThings", "oweFees", "()V"⟩ ⟨"LeftThings", "oweFees", "()V"⟩ ∈ xAll := xAll_in 2 (by decide +kernel) (by decide +kernel)
theorem s_7 : Cond.selects (⟨"LeftThings$Thing", "isAtCounter", "()Z"⟩ : MethodName).cls ⟨"LeftThings$Thing", "isAtCounter", "()Z"⟩ ⟨"LeftThings$Thing", "isAtCounter", "()Z"⟩ ∈ xAll := xAll_in 3 (by decide +kernel) (by decide +kernel)
theorem s_8 : Cond.selects (⟨"LeftThings$Thing", "hasLoan", "()Z"⟩ : MethodName).cls ⟨"LeftThings$Thing", "hasLoan", "()Z"⟩ ⟨"LeftThings$Thing", "hasLoan", "()Z"⟩ ∈ xAll := xAll_in 4 (by decide +kernel) (by decide +kernel)
theorem s_19 : Cond.selects (⟨"LeftThings", "sellCalled", "()I"⟩ : MethodName).cls ⟨"LeftThings", "sellCalled", "()I"⟩ ⟨"LeftThings", "sellCalled", "()I"⟩ ∈ xAll := xAll_in 5 (by decide +kernel) (by decide +kernel)
theorem s_16 : Cond.selects (⟨"LeftThings$Thing", "isCalled", "()Z"⟩ : MethodName).cls ⟨"LeftThings$Thing", "isCalled", "()Z"⟩ ⟨"LeftThings$Thing", "isCalled", "()Z"⟩ ∈ xAll := xAll_in 6 (by decide +kernel) (by decide +kernel)
theorem s_20 : Cond.selects (⟨"LeftThings", "sell", "(LLeftThings$Thing;)V"⟩ : MethodName).cls ⟨"LeftThings", "sell", "(LLeftThings$Thing;)V"⟩ ⟨"LeftThings", "sell", "(LLeftThings$Thing;)V"⟩ ∈ xAll := xAll_in 7 (by decide +kernel) (by decide +kernel)
theorem s_14 : Cond.selects (⟨"LeftThings", "putIntoPurse", "(II)V"⟩ : MethodName).cls ⟨"LeftThings", "putIntoPurse", "(II)V"⟩ ⟨"LeftThings", "putIntoPurse", "(II)V"⟩ ∈ xAll := xAll_in 8 (by decide +kernel) (by decide +kernel)
theorem s_15 : Cond.selects (⟨"LeftThings$Thing", "endLoan", "()V"⟩ : MethodName).cls ⟨"LeftThings$Thing", "endLoan", "()V"⟩ ⟨"LeftThings$Thing", "endLoan", "()V"⟩ ∈ xAll := xAll_in 9 (by decide +kernel) (by decide +kernel)
theorem s_9 : Cond.selects (⟨"LeftThings", "giveAway", "(LLeftThings$Thing;II)V"⟩ : MethodName).cls ⟨"LeftThings", "giveAway", "(LLeftThings$Thing;II)V"⟩ ⟨"LeftThings", "giveAway", "(LLeftThings$Thing;II)V"⟩ ∈ xAll := xAll_in 10 (by decide +kernel) (by decide +kernel)
theorem s_10 : Cond.selects (⟨"LeftThings", "dropEndedWishes", "()V"⟩ : MethodName).cls ⟨"LeftThings", "dropEndedWishes", "()V"⟩ ⟨"LeftThings", "dropEndedWishes", "()V"⟩ ∈ xAll := xAll_in 11 (by decide +kernel) (by decide +kernel)
theorem s_11 : Cond.selects (⟨"java/util/ArrayList", "fastRemove", "([Ljava/lang/Object;I)V"⟩ : MethodName).cls ⟨"java/util/ArrayList", "fastRemove", "([Ljava/lang/Object;I)V"⟩ ⟨"java/util/ArrayList", "fastRemove", "([Ljava/lang/Object;I)V"⟩ ∈ xAll := xAll_in 12 (by decide +kernel) (by decide +kernel)
theorem s_12 : Cond.selects (⟨"LeftThings$Thing", "moveTo", "(II)V"⟩ : MethodName).cls ⟨"LeftThings$Thing", "moveTo", "(II)V"⟩ ⟨"LeftThings$Thing", "moveTo", "(II)V"⟩ ∈ xAll := xAll_in 13 (by decide +kernel) (by decide +kernel)
theorem s_21 : Cond.selects (⟨"LeftThings", "sellUnfetched", "()I"⟩ : MethodName).cls ⟨"LeftThings", "sellUnfetched", "()I"⟩ ⟨"LeftThings", "sellUnfetched", "()I"⟩ ∈ xAll := xAll_in 14 (by decide +kernel) (by decide +kernel)
theorem s_22 : Cond.selects (⟨"LeftThings", "driveVan", "()V"⟩ : MethodName).cls ⟨"LeftThings", "driveVan", "()V"⟩ ⟨"LeftThings", "driveVan", "()V"⟩ ∈ xAll := xAll_in 15 (by decide +kernel) (by decide +kernel)
theorem s_1 : Cond.selects (⟨"LeftThings", "hasRoomFor", "(II)Z"⟩ : MethodName).cls ⟨"LeftThings", "hasRoomFor", "(II)Z"⟩ ⟨"LeftThings", "hasRoomFor", "(II)Z"⟩ ∈ xAll := xAll_in 16 (by decide +kernel) (by decide +kernel)
theorem s_2 : Cond.selects (⟨"LeftThings", "sizesAt", "(I)I"⟩ : MethodName).cls ⟨"LeftThings", "sizesAt", "(I)I"⟩ ⟨"LeftThings", "sizesAt", "(I)I"⟩ ∈ xAll := xAll_in 17 (by decide +kernel) (by decide +kernel)
theorem s_6 : Cond.selects (⟨"LeftThings", "thingNumbered", "(I)LLeftThings$Thing;"⟩ : MethodName).cls ⟨"LeftThings", "thingNumbered", "(I)LLeftThings$Thing;"⟩ ⟨"LeftThings", "thingNumbered", "(I)LLeftThings$Thing;"⟩ ∈ xAll := xAll_in 18 (by decide +kernel) (by decide +kernel)
theorem s_23 : Cond.selects (⟨"LeftThings$Thing", "placeAtBeginningOf", "(I)I"⟩ : MethodName).cls ⟨"LeftThings$Thing", "placeAtBeginningOf", "(I)I"⟩ ⟨"LeftThings$Thing", "placeAtBeginningOf", "(I)I"⟩ ∈ xAll := xAll_in 19 (by decide +kernel) (by decide +kernel)
theorem s_3 : Cond.selects (⟨"java/util/ArrayList", "add", "(Ljava/lang/Object;[Ljava/lang/Object;I)V"⟩ : MethodName).cls ⟨"java/util/ArrayList", "add", "(Ljava/lang/Object;[Ljava/lang/Object;I)V"⟩ ⟨"java/util/ArrayList", "add", "(Ljava/lang/Object;[Ljava/lang/Object;I)V"⟩ ∈ xAll := xAll_in 20 (by decide +kernel) (by decide +kernel)
theorem s_4 : Cond.selects (⟨"java/util/ArrayList", "grow", "()[Ljava/lang/Object;"⟩ : MethodName).cls ⟨"java/util/ArrayList", "grow", "()[Ljava/lang/Object;"⟩ ⟨"java/util/ArrayList", "grow", "()[Ljava/lang/Object;"⟩ ∈ xAll := xAll_in 21 (by decide +kernel) (by decide +kernel)
theorem s_5 : Cond.selects (⟨"java/util/ArrayList", "grow", "(I)[Ljava/lang/Object;"⟩ : MethodName).cls ⟨"java/util/ArrayList", "grow", "(I)[Ljava/lang/Object;"⟩ ⟨"java/util/ArrayList", "grow", "(I)[Ljava/lang/Object;"⟩ ∈ xAll := xAll_in 22 (by decide +kernel) (by decide +kernel)
theorem s_13 : Cond.selects (⟨"LeftThings$Thing", "beginLoan", "(II)V"⟩ : MethodName).cls ⟨"LeftThings$Thing", "beginLoan", "(II)V"⟩ ⟨"LeftThings$Thing", "beginLoan", "(II)V"⟩ ∈ xAll := xAll_in 23 (by decide +kernel) (by decide +kernel)
theorem xin_RJx4a65c : ∀ w ∈ u_ws RJx4a65c TJx4a65c 3, w ∈ xAll := xAll_list [74, 70, 72] (by decide +kernel) (by decide +kernel)
theorem xin_RX0 : ∀ w ∈ u_ws RX0 TX0 3, w ∈ xAll := xAll_list [291, 293, 295] (by decide +kernel) (by decide +kernel)
theorem xin_RX1 : ∀ w ∈ u_ws RX1 TX1 12, w ∈ xAll := xAll_list [417, 419, 421, 423, 425, 427, 429, 431, 433, 435, 437, 439] (by decide +kernel) (by decide +kernel)
theorem xin_RX2 : ∀ w ∈ u_ws RX2 TX2 7, w ∈ xAll := xAll_list [88, 90, 92, 94, 96, 98, 100] (by decide +kernel) (by decide +kernel)
end
section
section XHP
/-- what the rows ask of a class: its place, its fields' words, their types, their names -/
def xKl (C : String) (T : u_T) (N ci : Nat) (ty0 : Nat → FieldType) : Prop :=
  vwCl[ci]? = some (C, T, N) ∧ (∀ w ∈ u_ws C T N, w ∈ xAll) ∧ (∀ k, k < N → parseFieldDescriptor (T k).2.2.1 = some (ty0 k)) ∧ ∀ a, a < N → ∀ b, b < N → a ≠ b → (T a).2.1 ≠ (T b).2.1
theorem kl0 : xKl RJx4a65c TJx4a65c 3 0 tyJx4a65c := ⟨rfl, xin_RJx4a65c, tyJx4a65c_ok, nmJx4a65c⟩
theorem kl1 : xKl RX0 TX0 3 1 tyX0 := ⟨rfl, xin_RX0, tyX0_ok, nmX0⟩
theorem kl2 : xKl RX1 TX1 12 2 tyX1 := ⟨rfl, xin_RX1, tyX1_ok, nmX1⟩
theorem kl3 : xKl RX2 TX2 7 3 tyX2 := ⟨rfl, xin_RX2, tyX2_ok, nmX2⟩
variable {p : Program} {l : Launch} {e : Env} {R : Room} {s : State} {m : MethodId} {args : Array Value} {below : List Frame} {meth : Method} {c : Code} {G : xG} {cc : ByteArray} {nL : Nat} {own : String} {rt : Option FieldType} {Q : State → Prop} {P P' : xW → Prop} {k n pc : Nat} {lv : List (Nat × Value)} {st : List Value}
theorem x_getf (Γ : xC p s m meth c G cc nL own rt) {C ref : String} {T : u_T} {N ci idx a : Nat} {ty0 : Nat → FieldType} (K : xKl C T N ci ty0) (j : Nat) {v : Value} (hv : ∀ w, P w → ∃ k0 fs, w a = some (k0, .inr (ci, fs)) ∧ fs[j]? = some v) (hj : j < N)
    (hlink : Cond.fieldLink own idx ref (T j).2.1 (T j).2.2.1 ∈ xAll) (hsame : ref = (T j).1 ∨ Cond.sameField ref (T j).1 (T j).2.1 (T j).2.2.1 ∈ xAll) (hd : decode cc pc = .ok (.getfield idx, 3))
    (kk : xJ p l e R s m args below meth c G nL Q P k n (pc + 3) lv (v :: st)) : xJ p l e R s m args below meth c G nL Q P k n pc lv (.ref a :: st) := fun w H locs ls hp hh hs hl => by
  obtain ⟨k0, fs, ha, hf⟩ := hv w hp
  obtain ⟨hx, hb, hml, hown, hr, hlk, hE, hB⟩ := Γ
  refine va_get (Ts := xAll) (q0 := 0) hx hb (fun w hw => hE.w hw) K.2.1 hown hE.1 (hh.P ha) rfl K.1 j hj (hE.w hlink) ?_ hf hd (kk w H locs ls hp hh hs hl)
  rcases hsame with rfl | hsame
  · exact fun _ h9 => h9
  · exact u_same (hE.w (args := args) hsame)
theorem x_getfN (Γ : xC p s m meth c G cc nL own rt) {C host : String} {T : u_T} {N ci idx a : Nat} {ty0 : Nat → FieldType} (K : xKl C T N ci ty0) (j : Nat) {v : Value} (hv : ∀ w, P w → ∃ k0 fs, w a = some (k0, .inr (ci, fs)) ∧ fs[j]? = some v) (hj : j < N)
    (hlink : Cond.fieldLinkNest own idx (T j).1 (T j).2.1 (T j).2.2.1 host ∈ xAll) (hd : decode cc pc = .ok (.getfield idx, 3))
    (kk : xJ p l e R s m args below meth c G nL Q P k n (pc + 3) lv (v :: st)) : xJ p l e R s m args below meth c G nL Q P k n pc lv (.ref a :: st) := fun w H locs ls hp hh hs hl => by
  obtain ⟨k0, fs, ha, hf⟩ := hv w hp
  obtain ⟨hx, hb, hml, hown, hr, hlk, hE, hB⟩ := Γ
  exact va_getN (Ts := xAll) (q0 := 0) hx hb (fun w hw => hE.w hw) K.2.1 hown hE.1 (hh.P ha) rfl K.1 j hj (hE.w hlink) (fun _ h9 => h9) hf hd (kk w H locs ls hp hh hs hl)
theorem x_putf (Γ : xC p s m meth c G cc nL own rt) {C ref : String} {T : u_T} {N ci idx a : Nat} {ty0 : Nat → FieldType} (K : xKl C T N ci ty0) (j : Nat) {v : Value} (hv : ∀ w, P w → ∃ k0 fs, w a = some (k0, .inr (ci, fs)) ∧ j < fs.length ∧ P' (xu w a (k0, .inr (ci, fs.set j v)))) (hj : j < N)
    (hlink : Cond.fieldLink own idx ref (T j).2.1 (T j).2.2.1 ∈ xAll) (hsame : ref = (T j).1 ∨ Cond.sameField ref (T j).1 (T j).2.1 (T j).2.2.1 ∈ xAll) (hfin : (T j).2.2.2 = false) (hn : narrow (ty0 j) v = v) (hfit : fits (ty0 j) v = true) (hd : decode cc pc = .ok (.putfield idx, 3))
    (kk : xJ p l e R s m args below meth c G nL Q P' k n (pc + 3) lv st) : xJ p l e R s m args below meth c G nL Q P k n pc lv (v :: .ref a :: st) := fun w H locs ls hp hh hs hl => by
  obtain ⟨k0, fs, ha, hlen, hp'⟩ := hv w hp
  obtain ⟨hx, hb, hml, hown, hr, hlk, hE, hB⟩ := Γ
  obtain ⟨hc, hin, hty, hnm⟩ := K
  have hts : ∀ w ∈ xAll, w.before args s = true := fun w hw => hE.w hw
  have hap := va_apart (own := own) hts hin ty0 hty hnm hE.1 hc
  obtain ⟨r, h1, cell, q1, q2, q3, q4⟩ := (hh.2 a _ ha).2
  have hr : r = (C, T, N) := Option.some.inj (h1.symm.trans hc)
  subst hr
  obtain ⟨hS, hfc, kC, hkC, hkind⟩ := hE.1.1 ci _ hc
  obtain ⟨cf, kf, fi, f, hi, hsl⟩ := hS j hj
  have hlay := hts _ (hin _ (u_in_lay hj))
  unfold u_lay at hlay
  rw [if_neg (by rw [hfin]; decide)] at hlay
  have hst := (u_facts hfc hkC (u_lays hts hin hj) hi).1
  have h6 := u_store hfc hkC hkind hlay hi (hty j hj) hn hfit
  have hi2 : s.fieldFound? ref (T j).2.1 (T j).2.2.1 = some (cf, kf, fi, f) := by
    rcases hsame with rfl | hsame
    · exact hi
    · exact u_same (hE.w (args := args) hsame) _ hi
  refine W.putK hx hb (f := f) ⟨hown, hE.w hlink, ⟨_, _, _, hi2⟩, hst⟩ (by rw [q2]; exact h6) q1 q3 (by rw [hsl]; exact k2_hasslot (q4 j hj)) rfl rfl hd fun H' e1 e2 e3 => ?_
  rw [hsl] at e1 ⊢
  exact kk _ H' _ ls hp' (hh.set ha ⟨_, hc, t_OB.to (V := updV (vp_V fs) j v) ⟨_, e1, q2, q3, t_set q4 hap hj v⟩ (fun i _ => vp_updV_set hlen v i)⟩ e3 e2) (hs.put e2 e3 (hh.2 a _ ha).1) hl
theorem x_putfN (Γ : xC p s m meth c G cc nL own rt) {C host : String} {T : u_T} {N ci idx a : Nat} {ty0 : Nat → FieldType} (K : xKl C T N ci ty0) (j : Nat) {v : Value} (hv : ∀ w, P w → ∃ k0 fs, w a = some (k0, .inr (ci, fs)) ∧ j < fs.length ∧ P' (xu w a (k0, .inr (ci, fs.set j v)))) (hj : j < N)
    (hlink : Cond.fieldLinkNest own idx (T j).1 (T j).2.1 (T j).2.2.1 host ∈ xAll) (hfin : (T j).2.2.2 = false) (hn : narrow (ty0 j) v = v) (hfit : fits (ty0 j) v = true) (hd : decode cc pc = .ok (.putfield idx, 3))
    (kk : xJ p l e R s m args below meth c G nL Q P' k n (pc + 3) lv st) : xJ p l e R s m args below meth c G nL Q P k n pc lv (v :: .ref a :: st) := fun w H locs ls hp hh hs hl => by
  obtain ⟨k0, fs, ha, hlen, hp'⟩ := hv w hp
  obtain ⟨hx, hb, hml, hown, hr, hlk, hE, hB⟩ := Γ
  obtain ⟨hc, hin, hty, hnm⟩ := K
  have hts : ∀ w ∈ xAll, w.before args s = true := fun w hw => hE.w hw
  have hap := va_apart (own := own) hts hin ty0 hty hnm hE.1 hc
  obtain ⟨r, h1, cell, q1, q2, q3, q4⟩ := (hh.2 a _ ha).2
  have hr : r = (C, T, N) := Option.some.inj (h1.symm.trans hc)
  subst hr
  obtain ⟨hS, hfc, kC, hkC, hkind⟩ := hE.1.1 ci _ hc
  obtain ⟨cf, kf, fi, f, hi, hsl⟩ := hS j hj
  have hlay := hts _ (hin _ (u_in_lay hj))
  unfold u_lay at hlay
  rw [if_neg (by rw [hfin]; decide)] at hlay
  have hst := (u_facts hfc hkC (u_lays hts hin hj) hi).1
  have h6 := u_store hfc hkC hkind hlay hi (hty j hj) hn hfit
  refine va_WputK hx hb (f := f) hown (hE.w hlink) hi hst (by rw [q2]; exact h6) q1 q3 (by rw [hsl]; exact k2_hasslot (q4 j hj)) rfl rfl hd fun H' e1 e2 e3 => ?_
  rw [hsl] at e1 ⊢
  exact kk _ H' _ ls hp' (hh.set ha ⟨_, hc, t_OB.to (V := updV (vp_V fs) j v) ⟨_, e1, q2, q3, t_set q4 hap hj v⟩ (fun i _ => vp_updV_set hlen v i)⟩ e3 e2) (hs.put e2 e3 (hh.2 a _ ha).1) hl
theorem x_putfF (Γ : xC p s m meth c G cc nL own rt) (hin2 : meth.name = "<init>") {C : String} {T : u_T} {N ci idx a : Nat} {ty0 : Nat → FieldType} (K : xKl C T N ci ty0) (j : Nat) {v : Value} (hv : ∀ w, P w → ∃ k0 fs, w a = some (k0, .inr (ci, fs)) ∧ j < fs.length ∧ P' (xu w a (k0, .inr (ci, fs.set j v)))) (hj : j < N)
    (hlink : Cond.fieldLink own idx (T j).1 (T j).2.1 (T j).2.2.1 ∈ xAll) (hfin : (T j).2.2.2 = true) (hdecl : (T j).1 = own) (hn : narrow (ty0 j) v = v) (hfit : fits (ty0 j) v = true) (hd : decode cc pc = .ok (.putfield idx, 3))
    (kk : xJ p l e R s m args below meth c G nL Q P' k n (pc + 3) lv st) : xJ p l e R s m args below meth c G nL Q P k n pc lv (v :: .ref a :: st) := fun w H locs ls hp hh hs hl => by
  obtain ⟨k0, fs, ha, hlen, hp'⟩ := hv w hp
  obtain ⟨hx, hb, hml, hown, hr, hlk, hE, hB⟩ := Γ
  obtain ⟨hc, hin, hty, hnm⟩ := K
  have hts : ∀ w ∈ xAll, w.before args s = true := fun w hw => hE.w hw
  have hap := va_apart (own := own) hts hin ty0 hty hnm hE.1 hc
  obtain ⟨r, h1, cell, q1, q2, q3, q4⟩ := (hh.2 a _ ha).2
  have hr : r = (C, T, N) := Option.some.inj (h1.symm.trans hc)
  subst hr
  obtain ⟨hS, hfc, kC, hkC, hkind⟩ := hE.1.1 ci _ hc
  obtain ⟨cf, kf, fi, f, hi, hsl⟩ := hS j hj
  have hlay := hts _ (hin _ (u_in_lay hj))
  unfold u_lay at hlay
  rw [if_pos hfin] at hlay
  have hst := (u_facts hfc hkC (u_lays hts hin hj) hi).1
  have hcf : m.cls = cf := by
    obtain ⟨_, _, c', _, _, _, -, -, hf', -, -, -, hown2, -⟩ := Cond.laysFinal_spec hlay
    have e1 : c' = cf := by have := hi.symm.trans hf'; simp at this; exact this.1.symm
    rw [hdecl] at hown2
    rw [← e1]; exact Option.some.inj (hown.symm.trans hown2)
  have h6 := u_fits hfc hkC hkind (Or.inr hlay) hi (hty j hj) hn hfit
  refine W.putFinK hx hb hown (hE.w hlink) hi hst hcf hin2 (by rw [q2]; exact h6) q1 q3 (by rw [hsl]; exact k2_hasslot (q4 j hj)) rfl rfl hd fun H' e1 e2 e3 => ?_
  rw [hsl] at e1 ⊢
  exact kk _ H' _ ls hp' (hh.set ha ⟨_, hc, t_OB.to (V := updV (vp_V fs) j v) ⟨_, e1, q2, q3, t_set q4 hap hj v⟩ (fun i _ => vp_updV_set hlen v i)⟩ e3 e2) (hs.put e2 e3 (hh.2 a _ ha).1) hl
/-! arrays -/
theorem x_iald (Γ : xC p s m meth c G cc nL own rt) {a N : Nat} {f : Nat → Int32} {i : Int32} (hv : ∀ w, P w → ∃ k0, w a = some (k0, .inl (G.2 1, N, .inl f))) (hin : vp_in i N) {x : Int32} (he : f i.toNatClampNeg = x) (hd : decode cc pc = .ok (.iaload, 1))
    (kk : xJ p l e R s m args below meth c G nL Q P k n (pc + 1) lv (.int x :: st)) : xJ p l e R s m args below meth c G nL Q P k n pc lv (.int i :: .ref a :: st) := fun w H locs ls hp hh hs hl => by
  obtain ⟨k0, ha⟩ := hv w hp
  subst he
  exact va_iald Γ.1 Γ.2.1 Γ.2.2.2.2.2.2.1.1 (hh.P ha) 0 0 rfl rfl hin hd (kk w H locs ls hp hh hs hl)
theorem x_aald (Γ : xC p s m meth c G cc nL own rt) {a N b : Nat} {f : Nat → Option Nat} {i : Int32} (hv : ∀ w, P w → ∃ k0, w a = some (k0, .inl (G.2 3, N, .inr (.inr (.inr (.inr f)))))) (hin : vp_in i N) (he : f i.toNatClampNeg = some b) (hd : decode cc pc = .ok (.aaload, 1))
    (kk : xJ p l e R s m args below meth c G nL Q P k n (pc + 1) lv (.ref b :: st)) : xJ p l e R s m args below meth c G nL Q P k n pc lv (.int i :: .ref a :: st) := fun w H locs ls hp hh hs hl => by
  obtain ⟨k0, ha⟩ := hv w hp
  have h := kk w H locs ls hp hh hs hl
  refine va_aldq Γ.1 Γ.2.1 Γ.2.2.2.2.2.2.1.1 (hh.P ha) 0 2 rfl rfl hin hd ?_
  rw [he]
  exact h
theorem x_alen (Γ : xC p s m meth c G cc nL own rt) {a N : Nat} (hv : ∀ w, P w → ∃ k0 x, (w a = some (k0, .inl (G.2 1, N, x)) ∨ w a = some (k0, .inl (G.2 2, N, x)) ∨ w a = some (k0, .inl (G.2 3, N, x)))) (hd : decode cc pc = .ok (.arraylength, 1))
    (kk : xJ p l e R s m args below meth c G nL Q P k n (pc + 1) lv (.int (nI N) :: st)) : xJ p l e R s m args below meth c G nL Q P k n pc lv (.ref a :: st) := fun w H locs ls hp hh hs hl => by
  obtain ⟨k0, x, ha | ha | ha⟩ := hv w hp
  · exact va_alen Γ.1 Γ.2.1 Γ.2.2.2.2.2.2.1.1 (hh.P ha) 0 0 rfl rfl rfl hd (kk w H locs ls hp hh hs hl)
  · exact va_alen Γ.1 Γ.2.1 Γ.2.2.2.2.2.2.1.1 (hh.P ha) 0 1 rfl rfl rfl hd (kk w H locs ls hp hh hs hl)
  · exact va_alen Γ.1 Γ.2.1 Γ.2.2.2.2.2.2.1.1 (hh.P ha) 0 2 rfl rfl rfl hd (kk w H locs ls hp hh hs hl)
theorem x_iast (Γ : xC p s m meth c G cc nL own rt) {a N : Nat} {f : Nat → Int32} {i x : Int32} (hv : ∀ w, P w → ∃ k0, w a = some (k0, .inl (G.2 1, N, .inl f)) ∧ P' (xu w a (k0, .inl (G.2 1, N, .inl (upd f i.toNatClampNeg x))))) (hin : vp_in i N) (hd : decode cc pc = .ok (.iastore, 1))
    (kk : xJ p l e R s m args below meth c G nL Q P' k n (pc + 1) lv st) : xJ p l e R s m args below meth c G nL Q P k n pc lv (.int x :: .int i :: .ref a :: st) := fun w H locs ls hp hh hs hl => by
  obtain ⟨k0, ha, hp'⟩ := hv w hp
  obtain ⟨hx, hb, hml, hown, hr, hlk, hE, hB⟩ := Γ
  refine W.iast hx hb (hh.2 a _ ha).2 ((hE.1.2 0 _ rfl).1 N (fun j => .int (f j))) (fun q => by cases q) (by show ¬ (i < 0 ∨ (arrV _ _ _).slots.size ≤ _); rw [arrV_size]; exact hin) rfl rfl hd fun H1 e z oq => ?_
  refine kk _ H1 _ ls hp' (hh.set ha ?_ oq z) (hs.put z oq (hh.2 a _ ha).1) hl
  show H1[a]? = some (vp_cell _ _)
  rw [e]
  rw [vp_cell_i, vp_cell_i, arrV_store]
  congr 2
  funext q
  by_cases hq : q = i.toNatClampNeg
  · subst hq
    simp [updV, upd]
  · simp [updV, upd, hq]
theorem xAny (hE : xE G s s.heap) {w : xW} {H : Heap} (hh : xH G w H) {v k1 ci : Nat} {fs : List Value} {q : vw_C} (hv : w v = some (k1, .inr (ci, fs))) (hc : vwCl[ci]? = some q) (hca : Cond.castable q.1 "java/lang/Object" ∈ xAll) : va_Any "java/lang/Object" s H v := by
  refine va_rAny hE.1 (hh.P hv) (q0 := 0) rfl hc (fun comp c0 h1 h2 => ?_)
  obtain ⟨a0, b0, f1, f2, f3⟩ := Cond.castable_spec (hE.w (args := #[]) hca)
  cases h2.symm.trans f1
  cases h1.symm.trans f2
  exact f3
theorem x_aast (Γ : xC p s m meth c G cc nL own rt) {a N v : Nat} {f : Nat → Option Nat} {i : Int32} (hv : ∀ w, P w → ∃ k0, w a = some (k0, .inl (G.2 3, N, .inr (.inr (.inr (.inr f))))) ∧ P' (xu w a (k0, .inl (G.2 3, N, .inr (.inr (.inr (.inr (va_up f i.toNatClampNeg (some v)))))))))
    (hel : ∀ w, P w → ∃ k1 ci fs, w v = some (k1, .inr (ci, fs)) ∧ ∃ q, vwCl[ci]? = some q ∧ Cond.castable q.1 "java/lang/Object" ∈ xAll) (hin : vp_in i N) (hd : decode cc pc = .ok (.aastore, 1))
    (kk : xJ p l e R s m args below meth c G nL Q P' k n (pc + 1) lv st) : xJ p l e R s m args below meth c G nL Q P k n pc lv (.ref v :: .int i :: .ref a :: st) := fun w H locs ls hp hh hs hl => by
  obtain ⟨k0, ha, hp'⟩ := hv w hp
  obtain ⟨hx, hb, hml, hown, hr, hlk, hE, hB⟩ := Γ
  obtain ⟨k1, ci, fs, hv1, q, hq, hca⟩ := hel w hp
  obtain ⟨cellV, g1, g3, ⟨kC, hkC⟩, hasg⟩ := xAny hE hh hv1 hq hca
  have hlt : i.toNatClampNeg < N := Nat.not_le.mp fun q => hin (Or.inr q)
  have h0 : ¬ i < 0 := fun q => hin (Or.inl q)
  obtain ⟨kA, comp, k1, k2, k3, -⟩ := (hE.1.2 2 _ rfl).2
  obtain ⟨kE, hkE, -⟩ := Vm.findClass_spec k3
  refine W.aast hx hb (hh.2 a _ ha).2 (fun q h => by cases h) (fun h => by cases h) k1 k2 rfl hkE ⟨h0, by show _ < (arrV _ _ _).slots.size; rw [arrV_size]; exact hlt⟩ g1 (fun q h => by rw [h] at g3; cases g3) hkC (hasg _ k3) rfl rfl hd fun H1 e z oq => ?_
  refine kk _ H1 _ ls hp' (hh.set ha ?_ oq z) (hs.put z oq (hh.2 a _ ha).1) hl
  show H1[a]? = some (vp_cell _ _)
  rw [e]
  rw [vp_cell_q, vp_cell_q, arrV_store]
  congr 2
  funext q
  by_cases hq : q = i.toNatClampNeg
  · subst hq
    simp [updV, va_up, va_rf]
  · simp [updV, va_up, hq]
theorem x_aastN (Γ : xC p s m meth c G cc nL own rt) {a N : Nat} {f : Nat → Option Nat} {i : Int32} (hv : ∀ w, P w → ∃ k0, w a = some (k0, .inl (G.2 3, N, .inr (.inr (.inr (.inr f))))) ∧ P' (xu w a (k0, .inl (G.2 3, N, .inr (.inr (.inr (.inr (va_up f i.toNatClampNeg none)))))))) (hin : vp_in i N) (hd : decode cc pc = .ok (.aastore, 1))
    (kk : xJ p l e R s m args below meth c G nL Q P' k n (pc + 1) lv st) : xJ p l e R s m args below meth c G nL Q P k n pc lv (.null :: .int i :: .ref a :: st) := fun w H locs ls hp hh hs hl => by
  obtain ⟨k0, ha, hp'⟩ := hv w hp
  obtain ⟨hx, hb, hml, hown, hr, hlk, hE, hB⟩ := Γ
  refine va_WaastN (C := "java/lang/Object") hx hb (hh.2 a _ ha).2 ((hE.1.2 2 _ rfl).1 N (fun j => va_rf (f j))) (fun h => by cases h) (by show ¬ (i < 0 ∨ (arrV _ _ _).slots.size ≤ _); rw [arrV_size]; exact hin) rfl rfl hd fun H1 e z oq => ?_
  refine kk _ H1 _ ls hp' (hh.set ha ?_ oq z) (hs.put z oq (hh.2 a _ ha).1) hl
  show H1[a]? = some (vp_cell _ _)
  rw [e]
  rw [vp_cell_q, vp_cell_q, arrV_store]
  congr 2
  funext q
  by_cases hq : q = i.toNatClampNeg
  · subst hq
    simp [updV, va_up, va_rf]
  · simp [updV, va_up, hq]
/-! makings -/
theorem x_new (Γ : xC p s m meth c G cc nL own rt) {C : String} {T : u_T} {N ci idx : Nat} {ty0 : Nat → FieldType} (K : xKl C T N ci ty0) (fs : List Value) (col : Nat) {F : Nat → xW → Prop} (hfs : ∀ j, j < N → defaultValue (ty0 j) = vp_V fs j) (hcl : Cond.classLink own idx C ∈ xAll) (hinst : Cond.instantiable C N ∈ xAll) (hini : Cond.initialized C ∈ xAll)
    (hv : ∀ w a, P w → w a = none → F a (xu w a (col, .inr (ci, fs)))) (hR : k + 1 ≤ R.cells ∧ n + N ≤ R.slots) (hd : decode cc pc = .ok (.new idx, 3))
    (kk : ∀ a, xJ p l e R s m args below meth c G nL Q (F a) (k + 1) (n + N) (pc + 3) lv (.ref a :: st)) : xJ p l e R s m args below meth c G nL Q P k n pc lv st := fun w H locs ls hp hh hs hl => by
  obtain ⟨hx, hb, hml, hown, hr, hlk, hE, hB⟩ := Γ
  obtain ⟨hc, hin, hty, hnm⟩ := K
  have hts : ∀ w ∈ xAll, w.before args s = true := fun w hw => hE.w hw
  have hKn := hE.1.1 ci _ hc
  refine W.newcK hx hb hown (hE.w hcl) (hE.w hinst) (hE.w hini) rfl hd hR.1 hR.2 hKn.2.1 rfl fun H1 kC hkC e1 z1 o1 => ?_
  exact kk H.size _ H1 locs ls (hv w H.size hp hh.none) (hh.new ⟨_, hc, (u_born ty0 hts hin hKn hkC e1 hty).to hfs⟩ z1 o1) ⟨Nat.le_trans hs.1 (by omega), fun x h1 h2 => (o1 x (Nat.lt_of_lt_of_le h1 hs.1)).trans (hs.2.1 x h1 h2), hs.2.2⟩ hl
theorem x_newI (Γ : xC p s m meth c G cc nL own rt) (col : Nat) {F : Nat → xW → Prop} {i : Int32} {N : Nat} (hi : i = nI N) (hN : N < 100000) (hv : ∀ w a, P w → w a = none → F a (xu w a (col, .inl (G.2 1, N, .inl (fun _ => 0))))) (hR : k + 1 ≤ R.cells ∧ n + N ≤ R.slots) (hd : decode cc pc = .ok (.newarray .int, 2))
    (kk : ∀ a, xJ p l e R s m args below meth c G nL Q (F a) (k + 1) (n + N) (pc + 2) lv (.ref a :: st)) : xJ p l e R s m args below meth c G nL Q P k n pc lv (.int i :: st) := fun w H locs ls hp hh hs hl => by
  obtain ⟨hx, hb, hml, hown, hr, hlk, hE, hB⟩ := Γ
  subst hi
  refine va_newaK (atype := .int) hx hb (word_at (State.WarmedH.refl s) (Or.inr ⟨_, rfl⟩) hE.2.2.1) rfl hd rfl (nI_pos (by omega)) (nI_clamp (by omega)) (show N * 4 ≤ 536870912 by omega) hR.1 hR.2 rfl fun H1 cA e1 z1 o1 hAr hNm => ?_
  have hcA : cA = G.2 1 := Option.some.inj (hNm.symm.trans (hE.1.2 0 _ rfl).2)
  subst hcA
  exact kk H.size _ H1 locs ls (hv w H.size hp hh.none) (hh.new e1 z1 o1) ⟨Nat.le_trans hs.1 (by omega), fun x h1 h2 => (o1 x (Nat.lt_of_lt_of_le h1 hs.1)).trans (hs.2.1 x h1 h2), hs.2.2⟩ hl
theorem x_newA (Γ : xC p s m meth c G cc nL own rt) (col : Nat) {F : Nat → xW → Prop} {i : Int32} {N idx : Nat} (hi : i = nI N) (hN : N < 100000) (hcl : Cond.classLink own idx "java/lang/Object" ∈ xAll) (hv : ∀ w a, P w → w a = none → F a (xu w a (col, .inl (G.2 3, N, .inr (.inr (.inr (.inr (fun _ => none)))))))) (hR : k + 1 ≤ R.cells ∧ n + N ≤ R.slots) (hd : decode cc pc = .ok (.anewarray idx, 3))
    (kk : ∀ a, xJ p l e R s m args below meth c G nL Q (F a) (k + 1) (n + N) (pc + 3) lv (.ref a :: st)) : xJ p l e R s m args below meth c G nL Q P k n pc lv (.int i :: st) := fun w H locs ls hp hh hs hl => by
  obtain ⟨hx, hb, hml, hown, hr, hlk, hE, hB⟩ := Γ
  subst hi
  have hcl0 : (nI N).toNatClampNeg = N := nI_clamp (by omega)
  refine W.anew hx hb hown (hE.w hcl) (va_AO.use hE.2.2.2.2.1) rfl hd rfl (nI_pos (by omega)) (by rw [hcl0]; omega) hR.1 (by rw [hcl0]; exact hR.2) fun cA kA comp f1 f2 f3 f4 => ?_
  rw [hcl0]
  generalize hH1 : H.push ({ cls := cA, slots := Array.replicate N .null, vm := .none } : Cell) = H1
  have z1 : H1.size = H.size + 1 := by rw [← hH1, Array.size_push]
  have e1 : H1[H.size]? = some (arrV cA N (fun _ => .null)) := by rw [← hH1, Array.getElem?_push_size, ← arrV_new]
  have o1 : ∀ q : Nat, q < H.size → H1[q]? = H[q]? := fun q hq => by rw [← hH1, Array.getElem?_push, if_neg (Nat.ne_of_lt hq)]
  have hcA : cA = G.2 3 := by
    obtain ⟨kA', comp', k1, k2, k3, k4⟩ := (hE.1.2 2 _ rfl).2
    exact Option.some.inj (f1.symm.trans k4)
  subst hcA
  refine kk H.size _ H1 locs ls (hv w H.size hp hh.none) (hh.new ?_ z1 o1) ⟨Nat.le_trans hs.1 (by omega), fun x h1 h2 => (o1 x (Nat.lt_of_lt_of_le h1 hs.1)).trans (hs.2.1 x h1 h2), hs.2.2⟩ hl
  show H1[H.size]? = some (vp_cell _ _)
  rw [vp_cell_q]
  exact e1
end XHP
end
section
theorem at_IAE : ∀ w ∈ vx_atS RX2 53 "java/lang/IllegalArgumentException" ["java/lang/RuntimeException", "java/lang/Exception"], w ∈ xAll := xAll_list [30, 129, 138, 142, 145, 147, 130, 131, 49, 50, 132, 137, 143, 163, 119, 164, 121, 165, 123, 133, 135, 125, 159, 160, 162, 125, 150, 151, 152, 153, 111, 153, 154, 155, 156, 113, 156, 157, 158, 159, 115, 149, 108, 109, 116, 117, 118, 120, 122, 124, 128, 127, 126] (by decide +kernel) (by decide +kernel)
theorem at_ISE : ∀ w ∈ vx_atS RX2 75 "java/lang/IllegalStateException" ["java/lang/RuntimeException", "java/lang/Exception"], w ∈ xAll := xAll_list [30, 129, 138, 142, 145, 147, 130, 131, 49, 50, 132, 137, 143, 163, 119, 164, 121, 165, 123, 133, 135, 125, 159, 160, 162, 125, 186, 187, 188, 153, 111, 153, 154, 155, 156, 113, 156, 157, 158, 159, 115, 185, 176, 177, 178, 140, 179, 180, 181, 182, 128, 127, 183] (by decide +kernel) (by decide +kernel)
theorem at_IOE : ∀ w ∈ vx_atS RX2 180 "java/lang/IndexOutOfBoundsException" ["java/lang/RuntimeException", "java/lang/Exception"], w ∈ xAll := xAll_list [30, 129, 138, 142, 145, 147, 130, 131, 49, 50, 132, 137, 143, 163, 119, 164, 121, 165, 123, 133, 135, 125, 159, 160, 162, 125, 342, 343, 344, 153, 111, 153, 154, 155, 156, 113, 156, 157, 158, 159, 115, 341, 332, 333, 334, 141, 335, 336, 337, 338, 128, 127, 339] (by decide +kernel) (by decide +kernel)
section XCL
theorem xMet_of {α : Type} {l : Launch} {G : xG} {y : MethodName} {cc : ByteArray} {maxL : Nat} {rt : Option FieldType} {rm : Room} {av : List Value} {w : xW} {emb : α → Option Value} {post : α → xW → Prop} (hy : plainName y.cls = true) (hn : (lg_sl av).length ≤ maxL)
    (body : ∀ p e s m below meth c, xC p s m meth c G cc maxL y.cls rt → meth.name = y.name → xJ p l e rm s m av.toArray below meth c G maxL (MQ below (xQ G emb post) av.toArray s rm.cells rm.slots (xA G)) (fun w' => w' = w) 0 0 0 (lv_args 0 av) []) : xMet l G y cc maxL rt rm av w emb post := by
  refine Met.ofW (cc := cc) (maxL := maxL) (ret := rt) hy rfl ?_
  intro p e s m args below meth c s₁ B hml hv
  obtain ⟨rfl, hE, hH⟩ := hv
  rw [lg_entry_eq]
  exact body p e s m below meth c ⟨B.exec, B.bytes, hml, findClass_of_methodNamed B.named, B.returns, B.notSynchronized, hE, hH.1⟩ (name_of_methodNamed B.named B.method).1 w s.heap [] _ rfl hH va_S.rf (lv_entry av hn)
theorem xMet_ofF {α : Type} {l : Launch} {G : xG} {y : MethodName} {cc : ByteArray} {maxL : Nat} {rt : Option FieldType} {rm : Room} {av : List Value} {w : xW} {emb : α → Option Value} {post : α → xW → Prop} (hy : plainFor y = true) (hn : (lg_sl av).length ≤ maxL)
    (body : ∀ p e s m below meth c, xC p s m meth c G cc maxL y.cls rt → meth.name = y.name → xJ p l e rm s m av.toArray below meth c G maxL (MQ below (xQ G emb post) av.toArray s rm.cells rm.slots (xA G)) (fun w' => w' = w) 0 0 0 (lv_args 0 av) []) : xMet l G y cc maxL rt rm av w emb post := by
  refine va_MetF (cc := cc) (maxL := maxL) (ret := rt) hy rfl ?_
  intro p e s m args below meth c s₁ B hml hv
  obtain ⟨rfl, hE, hH⟩ := hv
  rw [lg_entry_eq]
  exact body p e s m below meth c ⟨B.exec, B.bytes, hml, findClass_of_methodNamed B.named, B.returns, B.notSynchronized, hE, hH.1⟩ (name_of_methodNamed B.named B.method).1 w s.heap [] _ rfl hH va_S.rf (lv_entry av hn)
theorem xMetX_of {α : Type} {l : Launch} {G : xG} {y : MethodName} {cc : ByteArray} {maxL : Nat} {rt : Option FieldType} {rm : Room} {av : List Value} {w : xW} {emb : α → Option Value} {post : α → xW → Prop} {px : String → xW → Prop} (hy : plainName y.cls = true) (hn : (lg_sl av).length ≤ maxL)
    (body : ∀ p e s m below meth c, xC p s m meth c G cc maxL y.cls rt → (∀ x ∈ c.exceptionTable.toList, False) → xJ p l e rm s m av.toArray below meth c G maxL (vx_MQ below (xQ G emb post) (xX G px) av.toArray s rm.cells rm.slots (xA G)) (fun w' => w' = w) 0 0 0 (lv_args 0 av) []) : xMetX l G y cc maxL rt rm av w emb post px := by
  refine vx_ofW (cc := cc) (maxL := maxL) (ret := rt) hy rfl ?_
  intro p e s m args below meth c s₁ B hml ht hv
  obtain ⟨rfl, hE, hH⟩ := hv
  rw [lg_entry_eq]
  exact body p e s m below meth c ⟨B.exec, B.bytes, hml, findClass_of_methodNamed B.named, B.returns, B.notSynchronized, hE, hH.1⟩ ht w s.heap [] _ rfl hH va_S.rf (lv_entry av hn)
variable {p : Program} {l : Launch} {e : Env} {R : Room} {s : State} {m : MethodId} {args : Array Value} {below : List Frame} {meth : Method} {c : Code} {G : xG} {cc : ByteArray} {nL : Nat} {own : String} {rt : Option FieldType} {Q : State → Prop} {P P' : xW → Prop} {k n pc : Nat} {lv : List (Nat × Value)} {st : List Value}
/-! returns -/
theorem x_iret (Γ : xC p s m meth c G cc nL own rt) {post : Int32 → xW → Prop} {kc nc : Nat} {ty : FieldType} {v : Int32} (hrt : rt = some ty) (hn : narrow ty (.int v) = .int v) (hp : ∀ w, P w → post v w) (hk : k ≤ kc ∧ n ≤ nc) (hd : decode cc pc = .ok (.ireturn, 1)) :
    xJ p l e R s m args below meth c G nL (MQ below (xQ G embI post) args s kc nc (xA G)) P k n pc lv [.int v] := fun w H locs ls hpw hh hs hl => by
  obtain ⟨hx, hb, hml, hown, hr, hlk, hE, hB⟩ := Γ
  exact W.widen hk.1 hk.2 (W.zret hx hb (hr.trans hrt) hn (fun t ht hW => ⟨⟨v, w, rfl, hp w hpw, by rw [ht]; exact hh⟩, hs.F ht⟩) hs.2.2 hd hlk)
theorem x_vret (Γ : xC p s m meth c G cc nL own rt) {post : Unit → xW → Prop} {kc nc : Nat} (hrt : rt = none) (hp : ∀ w, P w → post () w) (hk : k ≤ kc ∧ n ≤ nc) (hd : decode cc pc = .ok (.return_, 1)) :
    xJ p l e R s m args below meth c G nL (MQ below (xQ G embV post) args s kc nc (xA G)) P k n pc lv [] := fun w H locs ls hpw hh hs hl => by
  obtain ⟨hx, hb, hml, hown, hr, hlk, hE, hB⟩ := Γ
  exact W.widen hk.1 hk.2 (W.vret hx hb (hr.trans hrt) (fun t ht hW => ⟨⟨(), w, rfl, hp w hpw, by rw [ht]; exact hh⟩, hs.F ht⟩) hs.2.2 hd hlk)
theorem x_aret (Γ : xC p s m meth c G cc nL own rt) {post : Nat → xW → Prop} {kc nc : Nat} {ty : FieldType} {v : Nat} (hrt : rt = some ty) (hty : (∃ n, ty = .object n) ∨ ∃ t, ty = .array t) (hp : ∀ w, P w → post v w) (hk : k ≤ kc ∧ n ≤ nc) (hd : decode cc pc = .ok (.areturn, 1)) :
    xJ p l e R s m args below meth c G nL (MQ below (xQ G embA post) args s kc nc (xA G)) P k n pc lv [.ref v] := fun w H locs ls hpw hh hs hl => by
  obtain ⟨hx, hb, hml, hown, hr, hlk, hE, hB⟩ := Γ
  exact W.widen hk.1 hk.2 (W.aret hx hb (hr.trans hrt) hty (Or.inr ⟨_, rfl⟩) (fun t ht hW => ⟨⟨v, w, rfl, hp w hpw, by rw [ht]; exact hh⟩, hs.F ht⟩) hs.2.2 hd hlk)
theorem x_ends {Qc : Array Value → State → Outcome → State → Prop} {XC : String → State → State → Prop} {kc nc : Nat} {free : Addr → Prop} (kk : xJ p l e R s m args below meth c G nL (MQ below Qc args s kc nc free) P k n pc lv st) : xJ p l e R s m args below meth c G nL (vx_MQ below Qc XC args s kc nc free) P k n pc lv st :=
  fun w H locs ls hp hh hs hl => vx_ret (kk w H locs ls hp hh hs hl)
/-! calls -/
theorem x_call {α : Type} {emb : α → Option Value} {post : xW → α → xW → Prop} {mc ms : Nat} {st0 : List Value} {a : Array Value} (hr : ∀ w H locs ls, P w → xH G w H → va_S (xA G) s.heap H locs → lv_has ls nL lv → va_Run p l e R s m args below meth c H locs k n mc ms (F0 m pc ls st0) st (xQ G emb (post w) a) (xA G))
    (kk : ∀ v, xJ p l e R s m args below meth c G nL Q (fun w' => ∃ w, P w ∧ post w v w') (k + mc) (n + ms) (pc + 3) lv ((emb v).toList ++ st)) : xJ p l e R s m args below meth c G nL Q P k n pc lv st0 := fun w H locs ls hp hh hs hl => by
  intro T hT X
  obtain ⟨v, st₀, t, T', L, h0, X', hL, e1, e2, ⟨⟨u, w', hv, hpo, hh'⟩, hF⟩, st9⟩ := hr w H locs ls hp hh hs hl T hT X
  cases hv
  obtain ⟨k1, k2, k3⟩ := vx_keep h0 e1 hs (fun _ _ h => h) (fun _ h => h) hL hF
  obtain ⟨t2, a1, b1⟩ := kk u w' T'.heap (locs ++ L) ls ⟨w, hp, hpo⟩ (by rw [e1]; exact hh') k3 hl T' rfl X'
  exact ⟨t2, st9 t2 a1, b1⟩
theorem x_callX {α : Type} {emb : α → Option Value} {post : xW → α → xW → Prop} {px : xW → String → xW → Prop} {PX : String → xW → Prop} {Qc : Array Value → State → Outcome → State → Prop} {kc nc : Nat} {mc ms : Nat} {st0 : List Value} {a : Array Value} (hlk : meth.locks = false) (hout : ∀ x ∈ c.exceptionTable.toList, False) (hx : ∀ w E w', P w → px w E w' → PX E w') (hk : k + mc ≤ kc ∧ n + ms ≤ nc)
    (hr : ∀ w H locs ls, P w → xH G w H → va_S (xA G) s.heap H locs → lv_has ls nL lv → vx_Run p l e R s m args below meth c H locs k n mc ms (F0 m pc ls st0) st (xQ G emb (post w) a) (xX G (px w)) (xA G))
    (kk : ∀ v, xJ p l e R s m args below meth c G nL (vx_MQ below Qc (xX G PX) args s kc nc (xA G)) (fun w' => ∃ w, P w ∧ post w v w') (k + mc) (n + ms) (pc + 3) lv ((emb v).toList ++ st)) : xJ p l e R s m args below meth c G nL (vx_MQ below Qc (xX G PX) args s kc nc (xA G)) P k n pc lv st0 := fun w H locs ls hp hh hs hl => by
  intro T hT X
  rcases hr w H locs ls hp hh hs hl T hT X with ⟨v, st₀, t, T', L, h0, X', hL, e1, e2, ⟨⟨u, w', hv, hpo, hh'⟩, hF⟩, st9⟩ | ⟨q, st₀, t, T', L, E, ce, h0, X', hL, e1, e2, ⟨⟨w', hpx, hh'⟩, hF⟩, hce, hcv, hcl, st9⟩
  · cases hv
    obtain ⟨k1, k2, k3⟩ := vx_keep h0 e1 hs (fun _ _ h => h) (fun _ h => h) hL hF
    obtain ⟨t2, a1, b1⟩ := kk u w' T'.heap (locs ++ L) ls ⟨w, hp, hpo⟩ (by rw [e1]; exact hh') k3 hl T' rfl X'
    exact ⟨t2, st9 t2 a1, b1⟩
  · obtain ⟨k1, k2, k3⟩ := vx_keep h0 e1 hs (fun _ _ h => h) (fun _ h => h) hL hF
    obtain ⟨t2, a1, b1⟩ := vx_out (p := p) (l := l) (e := e) (R := R) (s := s) (m := m) (args := args) (below := below) (meth := meth) (c := c) (H := T'.heap) (locs := locs ++ L) (cells := k + mc) (slots := n + ms) (Qc := Qc) (XC := xX G PX) (free := xA G) (ls := ls) (rest := st) (pc := pc) (fun x hx => (hout x hx).elim) hlk (by rw [e1]; exact hce) hcv hcl
      (fun t' ht' _ => ⟨⟨w', hx w E w' hp hpx, by rw [ht', e1]; exact hh'⟩, k3.F ht'⟩) k3.2.2 hk.1 hk.2 T' rfl X'
    exact ⟨t2, st9.trans a1, b1⟩
theorem xCallB (Γ : xC p s m meth c G cc nL own rt) {y : MethodName} {bytes : ByteArray} {maxL N idx : Nat} {ret : Option FieldType} {rm : Room} (hcode : Cond.code y bytes maxL ret ∈ xAll) (hini : Cond.initialized y.cls ∈ xAll) (hlink : Cond.methodLink own idx y ∈ xAll)
    (hd : y.cls ≠ "java/lang/invoke/MethodHandle" ∧ y.cls ≠ "java/lang/invoke/VarHandle" ∧ (parseMethodDescriptor y.desc).map (fun d => d.parameters.length) = some N) (hR : rm.frames + 1 ≤ R.frames ∧ 8 + (maxL + 11) + rm.locals ≤ R.locals) :
    CallB R s args own idx y bytes maxL ret [.code y bytes maxL ret] rm rm.cells rm.slots N := by
  obtain ⟨hx, hb, hml, hown, hr, hlk, hE, hB⟩ := Γ
  refine ⟨rfl, rfl, hR.1, hR.2, fun w hw a' U hW => ?_, List.mem_cons_self, hE.w hcode, hE.w hini, ⟨hd.1, hd.2.1⟩, fun sig h => ?_, hE.w hlink⟩
  · rcases List.mem_singleton.mp hw with rfl
    exact va_Nw.use (xAll_tb hcode) (xNw_warm (xAll_ok hcode) hW (hE.2.1 _ hcode))
  · have h2 := hd.2.2
    rw [h] at h2
    exact (Option.some.inj h2).symm
theorem xCN (Γ : xC p s m meth c G cc nL own rt) {y : MethodName} {host : String} {bytes : ByteArray} {maxL N idx : Nat} {ret : Option FieldType} {rm : Room} (hcode : Cond.code y bytes maxL ret ∈ xAll) (hini : Cond.initialized y.cls ∈ xAll) (hlink : Cond.methodLinkNest own idx y host ∈ xAll)
    (hd : y.cls ≠ "java/lang/invoke/MethodHandle" ∧ y.cls ≠ "java/lang/invoke/VarHandle" ∧ (parseMethodDescriptor y.desc).map (fun d => d.parameters.length) = some N) (hR : rm.frames + 1 ≤ R.frames ∧ 8 + (maxL + 11) + rm.locals ≤ R.locals) :
    va_CN R s args own idx y host bytes maxL ret [.code y bytes maxL ret] rm rm.cells rm.slots N := by
  obtain ⟨hx, hb, hml, hown, hr, hlk, hE, hB⟩ := Γ
  refine ⟨⟨rfl, rfl, hR.1, hR.2, fun w hw a' U hW => ?_, List.mem_cons_self⟩, hE.w hcode, hE.w hini, ⟨hd.1, hd.2.1⟩, fun sig h => ?_, hE.w hlink⟩
  · rcases List.mem_singleton.mp hw with rfl
    exact va_Nw.use (xAll_tb hcode) (xNw_warm (xAll_ok hcode) hW (hE.2.1 _ hcode))
  · have h2 := hd.2.2
    rw [h] at h2
    exact (Option.some.inj h2).symm
theorem xFix (Γ : xC p s m meth c G cc nL own rt) : CallFix p m c cc nL s args xAll own := ⟨Γ.1, Γ.2.1, Γ.2.2.1, Γ.2.2.2.1, fun w hw => Γ.2.2.2.2.2.2.1.w hw⟩
theorem xPre (Γ : xC p s m meth c G cc nL own rt) {w : xW} {H : Heap} {locs : List Loc} (hh : xH G w H) (hs : va_S (xA G) s.heap H locs) (As : List Value) : PreS s H (xPc G As w) As :=
  ⟨xPc.blind, fun U hU hW => ⟨rfl, Γ.2.2.2.2.2.2.1.next hW (fun a h1 h2 => by rw [hU]; exact hs.2.1 a h1 h2), by rw [hU]; exact hh⟩⟩
theorem xPreV (Γ : xC p s m meth c G cc nL own rt) {w : xW} {H : Heap} {locs : List Loc} (hh : xH G w H) (hs : va_S (xA G) s.heap H locs) {b k0 ci : Nat} {fs : List Value} {C : String} {T : u_T} {N : Nat} (hb : w b = some (k0, .inr (ci, fs))) (hc : vwCl[ci]? = some (C, T, N)) (As : List Value) : PreV s H C b (xPc G (.ref b :: As) w) As :=
  ⟨xPc.blind, va_recv Γ.2.2.2.2.2.2.1.1 (hh.P hb) (q0 := 0) hc rfl, (xPre Γ hh hs _).2⟩
theorem x_invV {α : Type} {emb : α → Option Value} (Γ : xC p s m meth c G cc nL own rt) {y : MethodName} {bytes : ByteArray} {maxL idx b ci : Nat} {ret : Option FieldType} {rm : Room} {T : u_T} {N : Nat} {st0 : List Value} (As : List Value) (post : xW → α → xW → Prop) (hst : st0 = As.reverse ++ .ref b :: st)
    (hM : ∀ w, P w → xMet l G y bytes maxL ret rm (.ref b :: As) w emb (post w)) (hb : ∀ w, P w → ∃ k0 fs, w b = some (k0, .inr (ci, fs))) (hc : vwCl[ci]? = some (y.cls, T, N))
    (hcode : Cond.code y bytes maxL ret ∈ xAll) (hini : Cond.initialized y.cls ∈ xAll) (hlink : Cond.methodLink own idx y ∈ xAll) (hin : Cond.instanceMethod y ∈ xAll) (hsel : Cond.selects y.cls y y ∈ xAll)
    (hdd : y.cls ≠ "java/lang/invoke/MethodHandle" ∧ y.cls ≠ "java/lang/invoke/VarHandle" ∧ (parseMethodDescriptor y.desc).map (fun d => d.parameters.length) = some As.length) (hR : rm.frames + 1 ≤ R.frames ∧ 8 + (maxL + 11) + rm.locals ≤ R.locals) (hf : k + rm.cells ≤ R.cells ∧ n + rm.slots ≤ R.slots) (hW : (st.map fun v => v.category).sum ≤ 8) (hd : decode cc pc = .ok (.invokevirtual idx, 3))
    (kk : ∀ v, xJ p l e R s m args below meth c G nL Q (fun w' => ∃ w, P w ∧ post w v w') (k + rm.cells) (n + rm.slots) (pc + 3) lv ((emb v).toList ++ st)) : xJ p l e R s m args below meth c G nL Q P k n pc lv st0 := by
  subst hst
  refine x_call (emb := emb) (post := post) (mc := rm.cells) (ms := rm.slots) (a := (.ref b :: As).toArray) (fun w H locs ls hp hh hs hl => ?_) kk
  obtain ⟨k0, fs, hbw⟩ := hb w hp
  exact va_runV (As := As) (rest := st) (xFix Γ) (hM w hp) ⟨xCallB Γ hcode hini hlink hdd hR, Γ.2.2.2.2.2.2.1.w hin, Γ.2.2.2.2.2.2.1.w hsel⟩ (xPreV Γ hh hs hbw hc As) rfl rfl hl.1 rfl (lv_room hW) hd hf
theorem x_invVN {α : Type} {emb : α → Option Value} (Γ : xC p s m meth c G cc nL own rt) {y : MethodName} {host : String} {bytes : ByteArray} {maxL idx b ci : Nat} {ret : Option FieldType} {rm : Room} {T : u_T} {N : Nat} {st0 : List Value} (As : List Value) (post : xW → α → xW → Prop) (hst : st0 = As.reverse ++ .ref b :: st)
    (hM : ∀ w, P w → xMet l G y bytes maxL ret rm (.ref b :: As) w emb (post w)) (hb : ∀ w, P w → ∃ k0 fs, w b = some (k0, .inr (ci, fs))) (hc : vwCl[ci]? = some (y.cls, T, N))
    (hcode : Cond.code y bytes maxL ret ∈ xAll) (hini : Cond.initialized y.cls ∈ xAll) (hlink : Cond.methodLinkNest own idx y host ∈ xAll) (hin : Cond.instanceMethod y ∈ xAll) (hsel : Cond.selects y.cls y y ∈ xAll)
    (hdd : y.cls ≠ "java/lang/invoke/MethodHandle" ∧ y.cls ≠ "java/lang/invoke/VarHandle" ∧ (parseMethodDescriptor y.desc).map (fun d => d.parameters.length) = some As.length) (hR : rm.frames + 1 ≤ R.frames ∧ 8 + (maxL + 11) + rm.locals ≤ R.locals) (hf : k + rm.cells ≤ R.cells ∧ n + rm.slots ≤ R.slots) (hW : (st.map fun v => v.category).sum ≤ 8) (hd : decode cc pc = .ok (.invokevirtual idx, 3))
    (kk : ∀ v, xJ p l e R s m args below meth c G nL Q (fun w' => ∃ w, P w ∧ post w v w') (k + rm.cells) (n + rm.slots) (pc + 3) lv ((emb v).toList ++ st)) : xJ p l e R s m args below meth c G nL Q P k n pc lv st0 := by
  subst hst
  refine x_call (emb := emb) (post := post) (mc := rm.cells) (ms := rm.slots) (a := (.ref b :: As).toArray) (fun w H locs ls hp hh hs hl => ?_) kk
  obtain ⟨k0, fs, hbw⟩ := hb w hp
  exact va_runVN (As := As) (rest := st) (xFix Γ) (hM w hp) ⟨xCN Γ hcode hini hlink hdd hR, Γ.2.2.2.2.2.2.1.w hin, Γ.2.2.2.2.2.2.1.w hsel⟩ (xPreV Γ hh hs hbw hc As) rfl rfl hl.1 rfl (lv_room hW) hd hf
theorem x_invS {α : Type} {emb : α → Option Value} (Γ : xC p s m meth c G cc nL own rt) {y : MethodName} {bytes : ByteArray} {maxL idx : Nat} {ret : Option FieldType} {rm : Room} {st0 : List Value} (As : List Value) (post : xW → α → xW → Prop) (hst : st0 = As.reverse ++ st)
    (hM : ∀ w, P w → xMet l G y bytes maxL ret rm As w emb (post w))
    (hcode : Cond.code y bytes maxL ret ∈ xAll) (hini : Cond.initialized y.cls ∈ xAll) (hlink : Cond.methodLink own idx y ∈ xAll) (hin : Cond.static y ∈ xAll)
    (hdd : y.cls ≠ "java/lang/invoke/MethodHandle" ∧ y.cls ≠ "java/lang/invoke/VarHandle" ∧ (parseMethodDescriptor y.desc).map (fun d => d.parameters.length) = some As.length) (hR : rm.frames + 1 ≤ R.frames ∧ 8 + (maxL + 11) + rm.locals ≤ R.locals) (hf : k + rm.cells ≤ R.cells ∧ n + rm.slots ≤ R.slots) (hW : (st.map fun v => v.category).sum ≤ 8) (hd : decode cc pc = .ok (.invokestatic idx, 3))
    (kk : ∀ v, xJ p l e R s m args below meth c G nL Q (fun w' => ∃ w, P w ∧ post w v w') (k + rm.cells) (n + rm.slots) (pc + 3) lv ((emb v).toList ++ st)) : xJ p l e R s m args below meth c G nL Q P k n pc lv st0 := by
  subst hst
  exact x_call (emb := emb) (post := post) (mc := rm.cells) (ms := rm.slots) (a := As.toArray) (fun w H locs ls hp hh hs hl => va_runS (As := As) (rest := st) (xFix Γ) (hM w hp) ⟨xCallB Γ hcode hini hlink hdd hR, Γ.2.2.2.2.2.2.1.w hin⟩ (xPre Γ hh hs As) rfl rfl hl.1 rfl (lv_room hW) hd hf) kk
theorem x_invSN {α : Type} {emb : α → Option Value} (Γ : xC p s m meth c G cc nL own rt) {y : MethodName} {host : String} {bytes : ByteArray} {maxL idx : Nat} {ret : Option FieldType} {rm : Room} {st0 : List Value} (As : List Value) (post : xW → α → xW → Prop) (hst : st0 = As.reverse ++ st)
    (hM : ∀ w, P w → xMet l G y bytes maxL ret rm As w emb (post w))
    (hcode : Cond.code y bytes maxL ret ∈ xAll) (hini : Cond.initialized y.cls ∈ xAll) (hlink : Cond.methodLinkNest own idx y host ∈ xAll) (hin : Cond.static y ∈ xAll)
    (hdd : y.cls ≠ "java/lang/invoke/MethodHandle" ∧ y.cls ≠ "java/lang/invoke/VarHandle" ∧ (parseMethodDescriptor y.desc).map (fun d => d.parameters.length) = some As.length) (hR : rm.frames + 1 ≤ R.frames ∧ 8 + (maxL + 11) + rm.locals ≤ R.locals) (hf : k + rm.cells ≤ R.cells ∧ n + rm.slots ≤ R.slots) (hW : (st.map fun v => v.category).sum ≤ 8) (hd : decode cc pc = .ok (.invokestatic idx, 3))
    (kk : ∀ v, xJ p l e R s m args below meth c G nL Q (fun w' => ∃ w, P w ∧ post w v w') (k + rm.cells) (n + rm.slots) (pc + 3) lv ((emb v).toList ++ st)) : xJ p l e R s m args below meth c G nL Q P k n pc lv st0 := by
  subst hst
  exact x_call (emb := emb) (post := post) (mc := rm.cells) (ms := rm.slots) (a := As.toArray) (fun w H locs ls hp hh hs hl => va_runSN (As := As) (rest := st) (xFix Γ) (hM w hp) ⟨xCN Γ hcode hini hlink hdd hR, Γ.2.2.2.2.2.2.1.w hin, trivial⟩ (xPre Γ hh hs As) rfl rfl hl.1 rfl (lv_room hW) hd hf) kk
theorem x_invI (Γ : xC p s m meth c G cc nL own rt) {y : MethodName} {bytes : ByteArray} {maxL idx b : Nat} {rm : Room} {st0 : List Value} (As : List Value) (post : xW → Unit → xW → Prop) (hst : st0 = As.reverse ++ .ref b :: st)
    (hM : ∀ w, P w → xMet l G y bytes maxL none rm (.ref b :: As) w embV (post w)) (hnm : y.name = "<init>")
    (hcode : Cond.code y bytes maxL none ∈ xAll) (hini : Cond.initialized y.cls ∈ xAll) (hlink : Cond.methodLink own idx y ∈ xAll) (hin : Cond.instanceMethod y ∈ xAll)
    (hdd : y.cls ≠ "java/lang/invoke/MethodHandle" ∧ y.cls ≠ "java/lang/invoke/VarHandle" ∧ (parseMethodDescriptor y.desc).map (fun d => d.parameters.length) = some As.length) (hR : rm.frames + 1 ≤ R.frames ∧ 8 + (maxL + 11) + rm.locals ≤ R.locals) (hf : k + rm.cells ≤ R.cells ∧ n + rm.slots ≤ R.slots) (hW : (st.map fun v => v.category).sum ≤ 8) (hd : decode cc pc = .ok (.invokespecial idx, 3))
    (kk : ∀ v, xJ p l e R s m args below meth c G nL Q (fun w' => ∃ w, P w ∧ post w v w') (k + rm.cells) (n + rm.slots) (pc + 3) lv st) : xJ p l e R s m args below meth c G nL Q P k n pc lv st0 := by
  subst hst
  exact x_call (emb := embV) (post := post) (mc := rm.cells) (ms := rm.slots) (a := (.ref b :: As).toArray) (fun w H locs ls hp hh hs hl => va_runI (As := As) (rest := st) (xFix Γ) (hM w hp) ⟨xCallB Γ hcode hini hlink hdd hR, hnm, Γ.2.2.2.2.2.2.1.w hin⟩ (xPre Γ hh hs (.ref b :: As)) rfl rfl hl.1 rfl (lv_room hW) hd hf) kk
theorem x_invIN (Γ : xC p s m meth c G cc nL own rt) {y : MethodName} {host : String} {bytes : ByteArray} {maxL idx b : Nat} {rm : Room} {st0 : List Value} (As : List Value) (post : xW → Unit → xW → Prop) (hst : st0 = As.reverse ++ .ref b :: st)
    (hM : ∀ w, P w → xMet l G y bytes maxL none rm (.ref b :: As) w embV (post w)) (hnm : y.name = "<init>")
    (hcode : Cond.code y bytes maxL none ∈ xAll) (hini : Cond.initialized y.cls ∈ xAll) (hlink : Cond.methodLinkNest own idx y host ∈ xAll) (hin : Cond.instanceMethod y ∈ xAll)
    (hdd : y.cls ≠ "java/lang/invoke/MethodHandle" ∧ y.cls ≠ "java/lang/invoke/VarHandle" ∧ (parseMethodDescriptor y.desc).map (fun d => d.parameters.length) = some As.length) (hR : rm.frames + 1 ≤ R.frames ∧ 8 + (maxL + 11) + rm.locals ≤ R.locals) (hf : k + rm.cells ≤ R.cells ∧ n + rm.slots ≤ R.slots) (hW : (st.map fun v => v.category).sum ≤ 8) (hd : decode cc pc = .ok (.invokespecial idx, 3))
    (kk : ∀ v, xJ p l e R s m args below meth c G nL Q (fun w' => ∃ w, P w ∧ post w v w') (k + rm.cells) (n + rm.slots) (pc + 3) lv st) : xJ p l e R s m args below meth c G nL Q P k n pc lv st0 := by
  subst hst
  exact x_call (emb := embV) (post := post) (mc := rm.cells) (ms := rm.slots) (a := (.ref b :: As).toArray) (fun w H locs ls hp hh hs hl => va_runIN (As := As) (rest := st) (xFix Γ) (hM w hp) ⟨xCN Γ hcode hini hlink hdd hR, hnm, Γ.2.2.2.2.2.2.1.w hin⟩ (xPre Γ hh hs (.ref b :: As)) rfl rfl hl.1 rfl (lv_room hW) hd hf) kk
theorem x_invVX {α : Type} {emb : α → Option Value} (Γ : xC p s m meth c G cc nL own rt) {PX : String → xW → Prop} {Qc : Array Value → State → Outcome → State → Prop} {kc nc : Nat} {y : MethodName} {bytes : ByteArray} {maxL idx b ci : Nat} {ret : Option FieldType} {rm : Room} {T : u_T} {N : Nat} {st0 : List Value} (As : List Value) (post : xW → α → xW → Prop) (px : xW → String → xW → Prop) (hst : st0 = As.reverse ++ .ref b :: st)
    (hM : ∀ w, P w → xMetX l G y bytes maxL ret rm (.ref b :: As) w emb (post w) (px w)) (hout : ∀ x ∈ c.exceptionTable.toList, False) (hx : ∀ w E w', P w → px w E w' → PX E w') (hk : k + rm.cells ≤ kc ∧ n + rm.slots ≤ nc) (hb : ∀ w, P w → ∃ k0 fs, w b = some (k0, .inr (ci, fs))) (hc : vwCl[ci]? = some (y.cls, T, N))
    (hcode : Cond.code y bytes maxL ret ∈ xAll) (hini : Cond.initialized y.cls ∈ xAll) (hlink : Cond.methodLink own idx y ∈ xAll) (hin : Cond.instanceMethod y ∈ xAll) (hsel : Cond.selects y.cls y y ∈ xAll)
    (hdd : y.cls ≠ "java/lang/invoke/MethodHandle" ∧ y.cls ≠ "java/lang/invoke/VarHandle" ∧ (parseMethodDescriptor y.desc).map (fun d => d.parameters.length) = some As.length) (hR : rm.frames + 1 ≤ R.frames ∧ 8 + (maxL + 11) + rm.locals ≤ R.locals) (hf : k + rm.cells ≤ R.cells ∧ n + rm.slots ≤ R.slots) (hW : (st.map fun v => v.category).sum ≤ 8) (hd : decode cc pc = .ok (.invokevirtual idx, 3))
    (kk : ∀ v, xJ p l e R s m args below meth c G nL (vx_MQ below Qc (xX G PX) args s kc nc (xA G)) (fun w' => ∃ w, P w ∧ post w v w') (k + rm.cells) (n + rm.slots) (pc + 3) lv ((emb v).toList ++ st)) : xJ p l e R s m args below meth c G nL (vx_MQ below Qc (xX G PX) args s kc nc (xA G)) P k n pc lv st0 := by
  subst hst
  refine x_callX (emb := emb) (post := post) (px := px) (mc := rm.cells) (ms := rm.slots) (a := (.ref b :: As).toArray) Γ.2.2.2.2.2.1 hout hx hk (fun w H locs ls hp hh hs hl => ?_) kk
  obtain ⟨k0, fs, hbw⟩ := hb w hp
  exact vx_runV (As := As) (rest := st) (xFix Γ) (hM w hp) ⟨xCallB Γ hcode hini hlink hdd hR, Γ.2.2.2.2.2.2.1.w hin, Γ.2.2.2.2.2.2.1.w hsel⟩ (xPreV Γ hh hs hbw hc As) rfl rfl hl.1 rfl (lv_room hW) hd hf
/-! throw new E("text") in the class LeftThings -/
theorem x_throw {cc : ByteArray} (Γ : xC p s m meth c G cc nL RX2 rt) (hflag : l.stackTraces = false) {PX : String → xW → Prop} {Qc : Array Value → State → Outcome → State → Prop} {kc nc : Nat} {cls text : String} {ik is ic : Nat} (hcls : Bundle.fit cls = true) (hk : Cond.classLink RX2 ik cls ∈ xAll) (hini : Cond.initialized cls ∈ xAll) (hstr : (is, text) ∈ xStr)
    (hat : ∀ w ∈ vx_atS RX2 ic cls ["java/lang/RuntimeException", "java/lang/Exception"], w ∈ xAll) (d0 : decode cc pc = .ok (.new ik, 3)) (d3 : decode cc (pc + 3) = .ok (.dup, 1)) (d4 : decode cc (pc + 4) = .ok (.ldc is, 2)) (d6 : decode cc (pc + 6) = .ok (.invokespecial ic, 3)) (d9 : decode cc (pc + 9) = .ok (.athrow, 1))
    (hout : ∀ x ∈ c.exceptionTable.toList, False) (hRf : 5 < R.frames ∧ (st.map fun v => v.category).sum + 82 ≤ R.locals) (hR : k + 1 ≤ R.cells ∧ n + 6 ≤ R.slots) (hx : ∀ w, P w → PX cls w) (hkc : k + 1 ≤ kc ∧ n + 6 ≤ nc) :
    xJ p l e R s m args below meth c G nL (vx_MQ below Qc (xX G PX) args s kc nc (xA G)) P k n pc lv st := fun w H locs ls hp hh hs hl => by
  obtain ⟨hx0, hb, hml, hown, hr, hlk, hE, hB⟩ := Γ
  have hE' := hE
  obtain ⟨h1, h2, h3, h4, h5, h6, h7, h8, h9, h10, h11, h12⟩ := hE'
  refine vx_throwS (names := ["java/lang/RuntimeException", "java/lang/Exception"]) (ik := ik) (is := is) (ic := ic) (own := RX2) (cls := cls) (text := text) (sa := G.2 (1000 + is)) (A := xA G) hx0 hb hflag hown hcls (by decide) (hE.w hk) (hE.w hini) (h10 _ hstr) (fun w hw => hE.w (hat w hw)) (fun w hw => ?_) h6 h7 hs (hl.1.trans hml.symm) d0 d3 d4 d6 d9 (fun x hx => (hout x hx).elim) hRf.1 (by have := hRf.2; simp only [List.length_cons, List.length_nil]; omega) hR.1 hR.2 hlk (fun t ht1 ht2 ht3 => ⟨⟨w, hx w hp, hh.grow ht2 ht3⟩, ?_⟩) hs.2.2 hkc.1 hkc.2
  · have h0 : w.onTables = true := by
      rcases List.mem_cons.mp hw with rfl | hw
      · rfl
      · rcases List.mem_cons.mp hw with rfl | hw
        · rfl
        · exact xAll_tb (hat w hw)
    simp only [vx_ot, h0, Bool.true_or]
  · exact ⟨Nat.le_trans hs.1 ht2, fun q h1 h2 => (ht3 q (Nat.lt_of_lt_of_le h1 hs.1)).trans (hs.2.1 q h1 h2)⟩
/-! the rest -/
theorem x_obj (Γ : xC p s m meth c G cc nL own rt) {idx a : Nat} (hlink : Cond.methodLink own idx Lib.objectInit ∈ xAll) (hR : 1 ≤ R.frames ∧ (st.map fun v => v.category).sum + 12 ≤ R.locals) (hd : decode cc pc = .ok (.invokespecial idx, 3))
    (kk : xJ p l e R s m args below meth c G nL Q P k n (pc + 3) lv st) : xJ p l e R s m args below meth c G nL Q P k n pc lv (.ref a :: st) := fun w H locs ls hp hh hs hl => by
  obtain ⟨hx, hb, hml, hown, hr, hlk, hE, hB⟩ := Γ
  exact W.objInit hx hb hown (hE.w hlink) (hE.w k_26) (hE.w k_27) rfl (by rw [hml]; exact hl.1) rfl hd hR.1 (by show 2 * 0 + _ + 12 ≤ _; have := hR.2; omega) (kk w H locs ls hp hh hs hl)
theorem x_gets (Γ : xC p s m meth c G cc nL RJx4a65c rt) {st : List Value} (hd : decode cc pc = .ok (.getstatic 39, 3)) (kk : xJ p l e R s m args below meth c G nL Q P k n (pc + 3) lv (.ref (G.2 4) :: st)) : xJ p l e R s m args below meth c G nL Q P k n pc lv st := fun w H locs ls hp hh hs hl => by
  obtain ⟨hx, hb, hml, hown, hr, hlk, hE, hB⟩ := Γ
  exact va_gets hx hb hE.2.2.2.2.2.2.2.1 hs hown (hE.w k_40) (fun _ h9 => h9) hd (kk w H locs ls hp hh hs hl)
theorem x_slen0 (Γ : xC p s m meth c G cc nL own rt) (hd : decode cc pc = .ok (.arraylength, 1)) (kk : xJ p l e R s m args below meth c G nL Q P k n (pc + 1) lv (.int 0 :: st)) : xJ p l e R s m args below meth c G nL Q P k n pc lv (.ref (G.2 4) :: st) := fun w H locs ls hp hh hs hl => by
  obtain ⟨hx, hb, hml, hown, hr, hlk, hE, hB⟩ := Γ
  exact va_tlen hx hb hE.2.2.2.2.2.2.2.2.1 hs rfl hd (kk w H locs ls hp hh hs hl)
theorem x_cast (Γ : xC p s m meth c G cc nL own rt) {C : String} {T : u_T} {N ci idx a : Nat} (hc : vwCl[ci]? = some (C, T, N)) (hv : ∀ w, P w → ∃ k0 fs, w a = some (k0, .inr (ci, fs))) (hlink : Cond.classLink own idx C ∈ xAll) (hd : decode cc pc = .ok (.checkcast idx, 3))
    (kk : xJ p l e R s m args below meth c G nL Q P k n (pc + 3) lv (.ref a :: st)) : xJ p l e R s m args below meth c G nL Q P k n pc lv (.ref a :: st) := fun w H locs ls hp hh hs hl => by
  obtain ⟨k0, fs, ha⟩ := hv w hp
  obtain ⟨hx, hb, hml, hown, hr, hlk, hE, hB⟩ := Γ
  obtain ⟨cell, h1, h2, h3⟩ := va_recv hE.1 (hh.P ha) (q0 := 0) hc rfl
  have hca := (hE.1.1 ci _ hc).2
  have hcc : cell.cls = G.1.1 ci := Option.some.inj (h3.symm.trans hca.1)
  intro T0 hT X
  obtain ⟨vm', X', st9⟩ := X.checkcastYes hx hown (hE.w hlink) (by rw [hT]; exact h1) h2 hca.1 (by rw [hcc]; exact va_assign hca) (g := F0 m pc ls (.ref a :: st)) rfl rfl (by rw [hb]; exact hd)
  obtain ⟨t, a1, b1⟩ := kk w H locs ls hp hh hs hl (T0.setVm vm') hT X'
  exact ⟨t, st9 t a1, b1⟩
end XCL
end
section
section XJR
variable {p : Program} {l : Launch} {e : Env} {R : Room} {s : State} {m : MethodId} {args : Array Value} {below : List Frame} {meth : Method} {c : Code} {G : xG} {cc : ByteArray} {nL : Nat} {own : String} {rt : Option FieldType} {Q : State → Prop} {P P' : xW → Prop} {k n pc : Nat} {lv : List (Nat × Value)} {st : List Value}
theorem x_max (Γ : xC p s m meth c G cc nL own rt) {idx : Nat} {x y : Int32} (hlink : Cond.methodLink own idx Lib.Math.max.name ∈ xAll) (hstat : Cond.static Lib.Math.max.name ∈ xAll) (hcode : Cond.code Lib.Math.max.name Lib.Math.max.code 2 (some .int) ∈ xAll) (hini : Cond.initialized "java/lang/Math" ∈ xAll)
    (hR : 1 ≤ R.frames ∧ (st.map fun v => v.category).sum + 13 ≤ R.locals ∧ k ≤ R.cells ∧ n ≤ R.slots) (hd : decode cc pc = .ok (.invokestatic idx, 3)) (kk : xJ p l e R s m args below meth c G nL Q P k n (pc + 3) lv (.int (if x < y then y else x) :: st)) : xJ p l e R s m args below meth c G nL Q P k n pc lv (.int y :: .int x :: st) := fun w H locs ls hp hh hs hl => by
  obtain ⟨hx, hb, hml, hown, hr, hlk, hE, hB⟩ := Γ
  exact va_mmax hx hb (by rw [hml]; exact hl.1.symm) hown (hE.w hlink) (hE.w hstat) (hE.w hini) (hE.w hcode) hR.1 hR.2.1 hR.2.2.1 hR.2.2.2 hd (kk w H locs ls hp hh hs hl)
theorem x_min (Γ : xC p s m meth c G cc nL own rt) {idx : Nat} {x y : Int32} (hlink : Cond.methodLink own idx Lib.Math.min.name ∈ xAll) (hstat : Cond.static Lib.Math.min.name ∈ xAll) (hcode : Cond.code Lib.Math.min.name Lib.Math.min.code 2 (some .int) ∈ xAll) (hini : Cond.initialized "java/lang/Math" ∈ xAll)
    (hR : 1 ≤ R.frames ∧ (st.map fun v => v.category).sum + 13 ≤ R.locals ∧ k ≤ R.cells ∧ n ≤ R.slots) (hd : decode cc pc = .ok (.invokestatic idx, 3)) (kk : xJ p l e R s m args below meth c G nL Q P k n (pc + 3) lv (.int (if y < x then y else x) :: st)) : xJ p l e R s m args below meth c G nL Q P k n pc lv (.int y :: .int x :: st) := fun w H locs ls hp hh hs hl => by
  obtain ⟨hx, hb, hml, hown, hr, hlk, hE, hB⟩ := Γ
  exact va_mmin hx hb (by rw [hml]; exact hl.1.symm) hown (hE.w hlink) (hE.w hstat) (hE.w hini) (hE.w hcode) hR.1 hR.2.1 hR.2.2.1 hR.2.2.2 hd (kk w H locs ls hp hh hs hl)
theorem x_ldcM (Γ : xC p s m meth c G cc nL own rt) {idx : Nat} (hlink : Cond.classLink own idx "[Ljava/lang/Object;" ∈ xAll) (hd : decode cc pc = .ok (.ldc idx, 2)) (kk : xJ p l e R s m args below meth c G nL Q P k n (pc + 2) lv (.ref (G.2 5) :: st)) : xJ p l e R s m args below meth c G nL Q P k n pc lv st := fun w H locs ls hp hh hs hl => by
  obtain ⟨hx, hb, hml, hown, hr, hlk, hE, hB⟩ := Γ
  exact va_ldcM hx hb hown (hE.w hlink) hE.2.2.2.2.2.2.2.2.2.2.1 hd (kk w H locs ls hp hh hs hl)
theorem x_getC (Γ : xC p s m meth c G cc nL own rt) {idx a N : Nat} {f : Nat → Option Nat} (hv : ∀ w, P w → ∃ k0, w a = some (k0, .inl (G.2 3, N, .inr (.inr (.inr (.inr f)))))) (hlink : Cond.methodLink own idx ⟨"java/lang/Object", "getClass", "()Ljava/lang/Class;"⟩ ∈ xAll) (hdecl : Cond.declares ⟨"java/lang/Object", "getClass", "()Ljava/lang/Class;"⟩ ∈ xAll)
    (hsel : Cond.selects "[Ljava/lang/Object;" ⟨"java/lang/Object", "getClass", "()Ljava/lang/Class;"⟩ ⟨"java/lang/Object", "getClass", "()Ljava/lang/Class;"⟩ ∈ xAll) (hinst : Cond.instanceMethod ⟨"java/lang/Object", "getClass", "()Ljava/lang/Class;"⟩ ∈ xAll) (hnat : Cond.native ⟨"java/lang/Object", "getClass", "()Ljava/lang/Class;"⟩ ∈ xAll)
    (hR : 1 ≤ R.frames ∧ (st.map fun v => v.category).sum + 14 ≤ R.locals) (hd : decode cc pc = .ok (.invokevirtual idx, 3)) (kk : xJ p l e R s m args below meth c G nL Q P k n (pc + 3) lv (.ref (G.2 5) :: st)) : xJ p l e R s m args below meth c G nL Q P k n pc lv (.ref a :: st) := fun w H locs ls hp hh hs hl => by
  obtain ⟨k0, ha⟩ := hv w hp
  obtain ⟨hx, hb, hml, hown, hr, hlk, hE, hB⟩ := Γ
  have hcell : H[a]? = some (vp_cell (G.2 3) (N, .inr (.inr (.inr (.inr f))))) := (hh.2 a _ ha).2
  exact va_getC hx hb (by rw [hml]; exact hl.1.symm) hown (hE.w hlink) (hE.w hdecl) (hE.w hsel) (hE.w hinst) (hE.w hnat) hE.2.2.2.2.2.2.2.2.2.2.1 ⟨_, hcell, rfl, va_nmO (hE.1.2 2 _ rfl).2 rfl⟩ hR.1 hR.2 hd (kk w H locs ls hp hh hs hl)
theorem x_copy (Γ : xC p s m meth c G cc nL own rt) {idx a0 a N0 N1 : Nat} {f g : Nat → Option Nat} {sp dp q : Int32} (hlink : Cond.methodLink own idx arraycopyName ∈ xAll) (hnat : Cond.native arraycopyName ∈ xAll) (hstat : Cond.static arraycopyName ∈ xAll) (hini : Cond.initialized "java/lang/System" ∈ xAll)
    (hv : ∀ w, P w → ∃ k0 k1, w a0 = some (k0, .inl (G.2 3, N0, .inr (.inr (.inr (.inr f))))) ∧ w a = some (k1, .inl (G.2 3, N1, .inr (.inr (.inr (.inr g))))) ∧ P' (xu w a (k1, .inl (G.2 3, N1, .inr (.inr (.inr (.inr (va_cpy f g sp.toNatClampNeg dp.toNatClampNeg q.toNatClampNeg))))))))
    (h1 : ¬ sp < 0) (h2 : ¬ dp < 0) (h3 : ¬ q < 0) (h4 : sp.toNatClampNeg + q.toNatClampNeg ≤ N0) (h5 : dp.toNatClampNeg + q.toNatClampNeg ≤ N1)
    (hel : ∀ w, P w → ∀ i, i < q.toNatClampNeg → ∀ y : Nat, f (sp.toNatClampNeg + i) = some y → ∃ k1 ci fs, w y = some (k1, .inr (ci, fs)) ∧ ∃ r, vwCl[ci]? = some r ∧ Cond.castable r.1 "java/lang/Object" ∈ xAll)
    (hR : 1 ≤ R.frames ∧ (st.map fun v => v.category).sum + (nativeFrameWords "java/lang/System" "arraycopy" 5 + 11) ≤ R.locals) (hd : decode cc pc = .ok (.invokestatic idx, 3))
    (kk : xJ p l e R s m args below meth c G nL Q P' k n (pc + 3) lv st) : xJ p l e R s m args below meth c G nL Q P k n pc lv (.int q :: .int dp :: .ref a :: .int sp :: .ref a0 :: st) := fun w H locs ls hp hh hs hl => by
  obtain ⟨k0, k1, ha0, ha, hp'⟩ := hv w hp
  obtain ⟨hx, hb, hml, hown, hr, hlk, hE, hB⟩ := Γ
  have nn : ∀ z : Int32, ¬ z < 0 → z.toInt = (z.toNatClampNeg : Int) := by
    intro z hz
    have hz0 : (0 : Int) ≤ z.toInt := by
      have := Int32.not_lt.mp hz
      simpa using Int32.le_iff_toInt_le.mp this
    show z.toInt = ((z.toInt.toNat : Nat) : Int)
    omega
  intro T hT X
  have hc0 : H[a0]? = some (vp_cell (G.2 3) (N0, .inr (.inr (.inr (.inr f))))) := (hh.2 a0 _ ha0).2
  have hc1 : H[a]? = some (vp_cell (G.2 3) (N1, .inr (.inr (.inr (.inr g))))) := (hh.2 a _ ha).2
  obtain ⟨-, kA, hkA, cm0, hkkA⟩ := (hE.1.2 2 _ rfl).1 N0 (fun j => va_rf (f j))
  obtain ⟨-, kA1, hkA1, cm1, hkkA1⟩ := (hE.1.2 2 _ rfl).1 N1 (fun j => va_rf (g j))
  obtain ⟨vm', X', step⟩ := X.arraycopy hx hown (hE.w hlink) (hE.w hnat) (hE.w hstat) (hE.w hini) (src := a0) (dst := a) (cs := vp_cell (G.2 3) (N0, .inr (.inr (.inr (.inr f))))) (cd := vp_cell (G.2 3) (N1, .inr (.inr (.inr (.inr g))))) (srcPos := sp) (destPos := dp) (n := q) (by rw [hT]; exact hc0) (by rw [hT]; exact hc1)
    (fun _ h => by cases h) (fun _ h => by cases h) (fun h => by cases h) (fun h => by cases h) hkA hkA1 hkkA hkkA1 rfl h1 h2 h3
    (by rw [nn sp h1, nn q h3]; show ¬ _ > ((arrV (G.2 3) N0 (fun j => va_rf (f j))).slots.size : Int); rw [arrV_size]; omega)
    (by rw [nn dp h2, nn q h3]; show ¬ _ > ((arrV (G.2 3) N1 (fun j => va_rf (g j))).slots.size : Int); rw [arrV_size]; omega)
    (fun vm₁ hal i hi => by
      have e : (vp_cell (G.2 3) (N0, .inr (.inr (.inr (.inr f))))).slots.getD (sp.toNatClampNeg + i) .null = va_rf (f (sp.toNatClampNeg + i)) := by
        show (arrV (G.2 3) N0 (fun j => va_rf (f j))).slots.getD _ _ = _
        rw [Array.getD_eq_getD_getElem?, arrV_read _ _ (by omega)]
        rfl
      rw [e]
      cases hy : f (sp.toNatClampNeg + i) with
      | none => exact ⟨rfl, trivial⟩
      | some y =>
        obtain ⟨k9, ci, fs, hv1, r, hr9, hca⟩ := hel w hp i hi y hy
        obtain ⟨cellV, g1, g2, ⟨kC, hkC⟩, hasg⟩ := xAny hE hh hv1 hr9 hca
        obtain ⟨kA', comp, r1, r2, r3, -⟩ := (hE.1.2 2 _ rfl).2
        cases hkA1.symm.trans r1
        cases hkkA1.symm.trans r2
        obtain ⟨kE, hkE, -⟩ := Vm.findClass_spec r3
        obtain ⟨kC', hkC', -⟩ := hal.2.2 _ _ hkC
        obtain ⟨kE', hkE', -⟩ := hal.2.2 _ _ hkE
        refine ⟨rfl, cellV, (show T.heap[y]? = some cellV by rw [hT]; exact g1), (fun q h => by rw [h] at g2; cases g2), ⟨kC', hkC'⟩, ?_, ?_⟩
        · exact ⟨kE', hkE'⟩
        · show vm₁.assignable _ _ = true
          rw [hal.assignable]
          exact hasg _ r3)
    (g := F0 m pc ls (.int q :: .int dp :: .ref a :: .int sp :: .ref a0 :: st)) rfl (by rw [hml]; exact hl.1) (rest := st) rfl (by rw [hb]; exact hd) hR.1 (by show 2 * 0 + _ + _ ≤ _; have := hR.2; omega)
  have e1 : copied (vp_cell (G.2 3) (N0, .inr (.inr (.inr (.inr f))))) (vp_cell (G.2 3) (N1, .inr (.inr (.inr (.inr g))))) sp dp q = vp_cell (G.2 3) (N1, .inr (.inr (.inr (.inr (va_cpy f g sp.toNatClampNeg dp.toNatClampNeg q.toNatClampNeg))))) := by
    rw [vp_cell_q, vp_cell_q, vp_cell_q]
    exact va_copied (fun z => va_rf z) (G.2 3) (G.2 3) f g h4
  rw [e1] at X' step
  have hl1 : a < H.size := (Array.getElem?_eq_some_iff.mp hc1).1
  have hheap : ((T.setVm vm').setCell a (vp_cell (G.2 3) (N1, .inr (.inr (.inr (.inr (va_cpy f g sp.toNatClampNeg dp.toNatClampNeg q.toNatClampNeg))))))).heap = H.setIfInBounds a (vp_cell (G.2 3) (N1, .inr (.inr (.inr (.inr (va_cpy f g sp.toNatClampNeg dp.toNatClampNeg q.toNatClampNeg)))))) := by rw [← hT]; rfl
  have oq : ∀ z : Nat, z ≠ a → (H.setIfInBounds a (vp_cell (G.2 3) (N1, .inr (.inr (.inr (.inr (va_cpy f g sp.toNatClampNeg dp.toNatClampNeg q.toNatClampNeg)))))))[z]? = H[z]? := fun z hq => by simp [Array.getElem?_setIfInBounds, Ne.symm hq]
  obtain ⟨t, a1, b1⟩ := kk _ _ _ ls hp' (hh.set ha (show (H.setIfInBounds a _)[a]? = some _ by simp [Array.getElem?_setIfInBounds, hl1]) oq (by simp)) ⟨by simp; exact hs.1, fun z g1 g2 => by
      rw [oq z (fun e => g2 (by rw [e]; exact (hh.2 a _ ha).1))]
      exact hs.2.1 z g1 g2, fun z hz => by
      rcases List.mem_append.mp hz with h | h
      · exact hs.2.2 z h
      · obtain ⟨i, -, hi⟩ := List.mem_map.mp h
        rw [← hi]
        exact (hh.2 a _ ha).1⟩ hl _ hheap X'
  exact ⟨t, step t a1, b1⟩
end XJR
end
section
section XJ1
variable {l : Launch} {G : xG}
theorem hd_X0_init : (yX0_init).cls ≠ "java/lang/invoke/MethodHandle" ∧ (yX0_init).cls ≠ "java/lang/invoke/VarHandle" ∧ (parseMethodDescriptor (yX0_init).desc).map (fun d => d.parameters.length) = some 3 := by decide +kernel
theorem hd_X1_init : (yX1_init).cls ≠ "java/lang/invoke/MethodHandle" ∧ (yX1_init).cls ≠ "java/lang/invoke/VarHandle" ∧ (parseMethodDescriptor (yX1_init).desc).map (fun d => d.parameters.length) = some 5 := by decide +kernel
theorem hd_X1_isAtCounter : (yX1_isAtCounter).cls ≠ "java/lang/invoke/MethodHandle" ∧ (yX1_isAtCounter).cls ≠ "java/lang/invoke/VarHandle" ∧ (parseMethodDescriptor (yX1_isAtCounter).desc).map (fun d => d.parameters.length) = some 0 := by decide +kernel
theorem hd_X1_hasLoan : (yX1_hasLoan).cls ≠ "java/lang/invoke/MethodHandle" ∧ (yX1_hasLoan).cls ≠ "java/lang/invoke/VarHandle" ∧ (parseMethodDescriptor (yX1_hasLoan).desc).map (fun d => d.parameters.length) = some 0 := by decide +kernel
theorem hd_X1_isCalled : (yX1_isCalled).cls ≠ "java/lang/invoke/MethodHandle" ∧ (yX1_isCalled).cls ≠ "java/lang/invoke/VarHandle" ∧ (parseMethodDescriptor (yX1_isCalled).desc).map (fun d => d.parameters.length) = some 0 := by decide +kernel
theorem hd_X1_beginLoan : (yX1_beginLoan).cls ≠ "java/lang/invoke/MethodHandle" ∧ (yX1_beginLoan).cls ≠ "java/lang/invoke/VarHandle" ∧ (parseMethodDescriptor (yX1_beginLoan).desc).map (fun d => d.parameters.length) = some 2 := by decide +kernel
theorem hd_X1_endLoan : (yX1_endLoan).cls ≠ "java/lang/invoke/MethodHandle" ∧ (yX1_endLoan).cls ≠ "java/lang/invoke/VarHandle" ∧ (parseMethodDescriptor (yX1_endLoan).desc).map (fun d => d.parameters.length) = some 0 := by decide +kernel
theorem hd_X1_moveTo : (yX1_moveTo).cls ≠ "java/lang/invoke/MethodHandle" ∧ (yX1_moveTo).cls ≠ "java/lang/invoke/VarHandle" ∧ (parseMethodDescriptor (yX1_moveTo).desc).map (fun d => d.parameters.length) = some 2 := by decide +kernel
theorem hd_X1_placeAtBeginningOf : (yX1_placeAtBeginningOf).cls ≠ "java/lang/invoke/MethodHandle" ∧ (yX1_placeAtBeginningOf).cls ≠ "java/lang/invoke/VarHandle" ∧ (parseMethodDescriptor (yX1_placeAtBeginningOf).desc).map (fun d => d.parameters.length) = some 1 := by decide +kernel
theorem hd_X2_init : (yX2_init).cls ≠ "java/lang/invoke/MethodHandle" ∧ (yX2_init).cls ≠ "java/lang/invoke/VarHandle" ∧ (parseMethodDescriptor (yX2_init).desc).map (fun d => d.parameters.length) = some 0 := by decide +kernel
theorem hd_X2_leave : (yX2_leave).cls ≠ "java/lang/invoke/MethodHandle" ∧ (yX2_leave).cls ≠ "java/lang/invoke/VarHandle" ∧ (parseMethodDescriptor (yX2_leave).desc).map (fun d => d.parameters.length) = some 3 := by decide +kernel
theorem hd_X2_fetch : (yX2_fetch).cls ≠ "java/lang/invoke/MethodHandle" ∧ (yX2_fetch).cls ≠ "java/lang/invoke/VarHandle" ∧ (parseMethodDescriptor (yX2_fetch).desc).map (fun d => d.parameters.length) = some 1 := by decide +kernel
theorem hd_X2_want : (yX2_want).cls ≠ "java/lang/invoke/MethodHandle" ∧ (yX2_want).cls ≠ "java/lang/invoke/VarHandle" ∧ (parseMethodDescriptor (yX2_want).desc).map (fun d => d.parameters.length) = some 2 := by decide +kernel
theorem hd_X2_value : (yX2_value).cls ≠ "java/lang/invoke/MethodHandle" ∧ (yX2_value).cls ≠ "java/lang/invoke/VarHandle" ∧ (parseMethodDescriptor (yX2_value).desc).map (fun d => d.parameters.length) = some 2 := by decide +kernel
theorem hd_X2_lend : (yX2_lend).cls ≠ "java/lang/invoke/MethodHandle" ∧ (yX2_lend).cls ≠ "java/lang/invoke/VarHandle" ∧ (parseMethodDescriptor (yX2_lend).desc).map (fun d => d.parameters.length) = some 3 := by decide +kernel
theorem hd_X2_repay : (yX2_repay).cls ≠ "java/lang/invoke/MethodHandle" ∧ (yX2_repay).cls ≠ "java/lang/invoke/VarHandle" ∧ (parseMethodDescriptor (yX2_repay).desc).map (fun d => d.parameters.length) = some 1 := by decide +kernel
theorem hd_X2_doubt : (yX2_doubt).cls ≠ "java/lang/invoke/MethodHandle" ∧ (yX2_doubt).cls ≠ "java/lang/invoke/VarHandle" ∧ (parseMethodDescriptor (yX2_doubt).desc).map (fun d => d.parameters.length) = some 1 := by decide +kernel
theorem hd_X2_pass : (yX2_pass).cls ≠ "java/lang/invoke/MethodHandle" ∧ (yX2_pass).cls ≠ "java/lang/invoke/VarHandle" ∧ (parseMethodDescriptor (yX2_pass).desc).map (fun d => d.parameters.length) = some 1 := by decide +kernel
theorem hd_X2_day : (yX2_day).cls ≠ "java/lang/invoke/MethodHandle" ∧ (yX2_day).cls ≠ "java/lang/invoke/VarHandle" ∧ (parseMethodDescriptor (yX2_day).desc).map (fun d => d.parameters.length) = some 0 := by decide +kernel
theorem hd_X2_things : (yX2_things).cls ≠ "java/lang/invoke/MethodHandle" ∧ (yX2_things).cls ≠ "java/lang/invoke/VarHandle" ∧ (parseMethodDescriptor (yX2_things).desc).map (fun d => d.parameters.length) = some 0 := by decide +kernel
theorem hd_X2_where : (yX2_where).cls ≠ "java/lang/invoke/MethodHandle" ∧ (yX2_where).cls ≠ "java/lang/invoke/VarHandle" ∧ (parseMethodDescriptor (yX2_where).desc).map (fun d => d.parameters.length) = some 1 := by decide +kernel
theorem hd_X2_whereOn : (yX2_whereOn).cls ≠ "java/lang/invoke/MethodHandle" ∧ (yX2_whereOn).cls ≠ "java/lang/invoke/VarHandle" ∧ (parseMethodDescriptor (yX2_whereOn).desc).map (fun d => d.parameters.length) = some 2 := by decide +kernel
theorem hd_X2_load : (yX2_load).cls ≠ "java/lang/invoke/MethodHandle" ∧ (yX2_load).cls ≠ "java/lang/invoke/VarHandle" ∧ (parseMethodDescriptor (yX2_load).desc).map (fun d => d.parameters.length) = some 1 := by decide +kernel
theorem hd_X2_fees : (yX2_fees).cls ≠ "java/lang/invoke/MethodHandle" ∧ (yX2_fees).cls ≠ "java/lang/invoke/VarHandle" ∧ (parseMethodDescriptor (yX2_fees).desc).map (fun d => d.parameters.length) = some 1 := by decide +kernel
theorem hd_X2_loan : (yX2_loan).cls ≠ "java/lang/invoke/MethodHandle" ∧ (yX2_loan).cls ≠ "java/lang/invoke/VarHandle" ∧ (parseMethodDescriptor (yX2_loan).desc).map (fun d => d.parameters.length) = some 1 := by decide +kernel
theorem hd_X2_purse : (yX2_purse).cls ≠ "java/lang/invoke/MethodHandle" ∧ (yX2_purse).cls ≠ "java/lang/invoke/VarHandle" ∧ (parseMethodDescriptor (yX2_purse).desc).map (fun d => d.parameters.length) = some 1 := by decide +kernel
theorem hd_X2_taken : (yX2_taken).cls ≠ "java/lang/invoke/MethodHandle" ∧ (yX2_taken).cls ≠ "java/lang/invoke/VarHandle" ∧ (parseMethodDescriptor (yX2_taken).desc).map (fun d => d.parameters.length) = some 0 := by decide +kernel
theorem hd_X2_isCounter : (yX2_isCounter).cls ≠ "java/lang/invoke/MethodHandle" ∧ (yX2_isCounter).cls ≠ "java/lang/invoke/VarHandle" ∧ (parseMethodDescriptor (yX2_isCounter).desc).map (fun d => d.parameters.length) = some 1 := by decide +kernel
theorem hd_X2_isPerson : (yX2_isPerson).cls ≠ "java/lang/invoke/MethodHandle" ∧ (yX2_isPerson).cls ≠ "java/lang/invoke/VarHandle" ∧ (parseMethodDescriptor (yX2_isPerson).desc).map (fun d => d.parameters.length) = some 1 := by decide +kernel
theorem hd_X2_thingNumbered : (yX2_thingNumbered).cls ≠ "java/lang/invoke/MethodHandle" ∧ (yX2_thingNumbered).cls ≠ "java/lang/invoke/VarHandle" ∧ (parseMethodDescriptor (yX2_thingNumbered).desc).map (fun d => d.parameters.length) = some 1 := by decide +kernel
theorem hd_X2_sizesAt : (yX2_sizesAt).cls ≠ "java/lang/invoke/MethodHandle" ∧ (yX2_sizesAt).cls ≠ "java/lang/invoke/VarHandle" ∧ (parseMethodDescriptor (yX2_sizesAt).desc).map (fun d => d.parameters.length) = some 1 := by decide +kernel
theorem hd_X2_hasRoomFor : (yX2_hasRoomFor).cls ≠ "java/lang/invoke/MethodHandle" ∧ (yX2_hasRoomFor).cls ≠ "java/lang/invoke/VarHandle" ∧ (parseMethodDescriptor (yX2_hasRoomFor).desc).map (fun d => d.parameters.length) = some 2 := by decide +kernel
theorem hd_X2_putIntoPurse : (yX2_putIntoPurse).cls ≠ "java/lang/invoke/MethodHandle" ∧ (yX2_putIntoPurse).cls ≠ "java/lang/invoke/VarHandle" ∧ (parseMethodDescriptor (yX2_putIntoPurse).desc).map (fun d => d.parameters.length) = some 2 := by decide +kernel
theorem hd_X2_dropEndedWishes : (yX2_dropEndedWishes).cls ≠ "java/lang/invoke/MethodHandle" ∧ (yX2_dropEndedWishes).cls ≠ "java/lang/invoke/VarHandle" ∧ (parseMethodDescriptor (yX2_dropEndedWishes).desc).map (fun d => d.parameters.length) = some 0 := by decide +kernel
theorem hd_X2_giveAway : (yX2_giveAway).cls ≠ "java/lang/invoke/MethodHandle" ∧ (yX2_giveAway).cls ≠ "java/lang/invoke/VarHandle" ∧ (parseMethodDescriptor (yX2_giveAway).desc).map (fun d => d.parameters.length) = some 3 := by decide +kernel
theorem hd_X2_sell : (yX2_sell).cls ≠ "java/lang/invoke/MethodHandle" ∧ (yX2_sell).cls ≠ "java/lang/invoke/VarHandle" ∧ (parseMethodDescriptor (yX2_sell).desc).map (fun d => d.parameters.length) = some 1 := by decide +kernel
theorem hd_X2_endDay : (yX2_endDay).cls ≠ "java/lang/invoke/MethodHandle" ∧ (yX2_endDay).cls ≠ "java/lang/invoke/VarHandle" ∧ (parseMethodDescriptor (yX2_endDay).desc).map (fun d => d.parameters.length) = some 0 := by decide +kernel
theorem hd_X2_oweFees : (yX2_oweFees).cls ≠ "java/lang/invoke/MethodHandle" ∧ (yX2_oweFees).cls ≠ "java/lang/invoke/VarHandle" ∧ (parseMethodDescriptor (yX2_oweFees).desc).map (fun d => d.parameters.length) = some 0 := by decide +kernel
theorem hd_X2_sellCalled : (yX2_sellCalled).cls ≠ "java/lang/invoke/MethodHandle" ∧ (yX2_sellCalled).cls ≠ "java/lang/invoke/VarHandle" ∧ (parseMethodDescriptor (yX2_sellCalled).desc).map (fun d => d.parameters.length) = some 0 := by decide +kernel
theorem hd_X2_sellUnfetched : (yX2_sellUnfetched).cls ≠ "java/lang/invoke/MethodHandle" ∧ (yX2_sellUnfetched).cls ≠ "java/lang/invoke/VarHandle" ∧ (parseMethodDescriptor (yX2_sellUnfetched).desc).map (fun d => d.parameters.length) = some 0 := by decide +kernel
theorem hd_X2_driveVan : (yX2_driveVan).cls ≠ "java/lang/invoke/MethodHandle" ∧ (yX2_driveVan).cls ≠ "java/lang/invoke/VarHandle" ∧ (parseMethodDescriptor (yX2_driveVan).desc).map (fun d => d.parameters.length) = some 0 := by decide +kernel
theorem hd_J9_max_7cf53 : (yJ9_max_7cf53).cls ≠ "java/lang/invoke/MethodHandle" ∧ (yJ9_max_7cf53).cls ≠ "java/lang/invoke/VarHandle" ∧ (parseMethodDescriptor (yJ9_max_7cf53).desc).map (fun d => d.parameters.length) = some 2 := by decide +kernel
theorem hd_J9_min_7cf53 : (yJ9_min_7cf53).cls ≠ "java/lang/invoke/MethodHandle" ∧ (yJ9_min_7cf53).cls ≠ "java/lang/invoke/VarHandle" ∧ (parseMethodDescriptor (yJ9_min_7cf53).desc).map (fun d => d.parameters.length) = some 2 := by decide +kernel
theorem hd_Jxa1e45_init_da8c8 : (yJxa1e45_init_da8c8).cls ≠ "java/lang/invoke/MethodHandle" ∧ (yJxa1e45_init_da8c8).cls ≠ "java/lang/invoke/VarHandle" ∧ (parseMethodDescriptor (yJxa1e45_init_da8c8).desc).map (fun d => d.parameters.length) = some 0 := by decide +kernel
theorem hd_Jxc12de_init_da8c8 : (yJxc12de_init_da8c8).cls ≠ "java/lang/invoke/MethodHandle" ∧ (yJxc12de_init_da8c8).cls ≠ "java/lang/invoke/VarHandle" ∧ (parseMethodDescriptor (yJxc12de_init_da8c8).desc).map (fun d => d.parameters.length) = some 0 := by decide +kernel
theorem hd_Jx4a65c_init_da8c8 : (yJx4a65c_init_da8c8).cls ≠ "java/lang/invoke/MethodHandle" ∧ (yJx4a65c_init_da8c8).cls ≠ "java/lang/invoke/VarHandle" ∧ (parseMethodDescriptor (yJx4a65c_init_da8c8).desc).map (fun d => d.parameters.length) = some 0 := by decide +kernel
theorem hd_Jx4a65c_grow_92f84 : (yJx4a65c_grow_92f84).cls ≠ "java/lang/invoke/MethodHandle" ∧ (yJx4a65c_grow_92f84).cls ≠ "java/lang/invoke/VarHandle" ∧ (parseMethodDescriptor (yJx4a65c_grow_92f84).desc).map (fun d => d.parameters.length) = some 1 := by decide +kernel
theorem hd_Jx4a65c_grow_d5877 : (yJx4a65c_grow_d5877).cls ≠ "java/lang/invoke/MethodHandle" ∧ (yJx4a65c_grow_d5877).cls ≠ "java/lang/invoke/VarHandle" ∧ (parseMethodDescriptor (yJx4a65c_grow_d5877).desc).map (fun d => d.parameters.length) = some 0 := by decide +kernel
theorem hd_Jx4a65c_size_8abf5 : (yJx4a65c_size_8abf5).cls ≠ "java/lang/invoke/MethodHandle" ∧ (yJx4a65c_size_8abf5).cls ≠ "java/lang/invoke/VarHandle" ∧ (parseMethodDescriptor (yJx4a65c_size_8abf5).desc).map (fun d => d.parameters.length) = some 0 := by decide +kernel
theorem hd_Jx4a65c_elementData_915e3 : (yJx4a65c_elementData_915e3).cls ≠ "java/lang/invoke/MethodHandle" ∧ (yJx4a65c_elementData_915e3).cls ≠ "java/lang/invoke/VarHandle" ∧ (parseMethodDescriptor (yJx4a65c_elementData_915e3).desc).map (fun d => d.parameters.length) = some 1 := by decide +kernel
theorem hd_Jx4a65c_get_915e3 : (yJx4a65c_get_915e3).cls ≠ "java/lang/invoke/MethodHandle" ∧ (yJx4a65c_get_915e3).cls ≠ "java/lang/invoke/VarHandle" ∧ (parseMethodDescriptor (yJx4a65c_get_915e3).desc).map (fun d => d.parameters.length) = some 1 := by decide +kernel
theorem hd_Jx4a65c_add_72be8 : (yJx4a65c_add_72be8).cls ≠ "java/lang/invoke/MethodHandle" ∧ (yJx4a65c_add_72be8).cls ≠ "java/lang/invoke/VarHandle" ∧ (parseMethodDescriptor (yJx4a65c_add_72be8).desc).map (fun d => d.parameters.length) = some 3 := by decide +kernel
theorem hd_Jx4a65c_add_9ea2d : (yJx4a65c_add_9ea2d).cls ≠ "java/lang/invoke/MethodHandle" ∧ (yJx4a65c_add_9ea2d).cls ≠ "java/lang/invoke/VarHandle" ∧ (parseMethodDescriptor (yJx4a65c_add_9ea2d).desc).map (fun d => d.parameters.length) = some 1 := by decide +kernel
theorem hd_Jx4a65c_remove_915e3 : (yJx4a65c_remove_915e3).cls ≠ "java/lang/invoke/MethodHandle" ∧ (yJx4a65c_remove_915e3).cls ≠ "java/lang/invoke/VarHandle" ∧ (parseMethodDescriptor (yJx4a65c_remove_915e3).desc).map (fun d => d.parameters.length) = some 1 := by decide +kernel
theorem hd_Jx4a65c_fastRemove_b59b0 : (yJx4a65c_fastRemove_b59b0).cls ≠ "java/lang/invoke/MethodHandle" ∧ (yJx4a65c_fastRemove_b59b0).cls ≠ "java/lang/invoke/VarHandle" ∧ (parseMethodDescriptor (yJx4a65c_fastRemove_b59b0).desc).map (fun d => d.parameters.length) = some 2 := by decide +kernel
theorem hd_J7_fill_53178 : (yJ7_fill_53178).cls ≠ "java/lang/invoke/MethodHandle" ∧ (yJ7_fill_53178).cls ≠ "java/lang/invoke/VarHandle" ∧ (parseMethodDescriptor (yJ7_fill_53178).desc).map (fun d => d.parameters.length) = some 2 := by decide +kernel
theorem hd_J7_copyOf_1904c : (yJ7_copyOf_1904c).cls ≠ "java/lang/invoke/MethodHandle" ∧ (yJ7_copyOf_1904c).cls ≠ "java/lang/invoke/VarHandle" ∧ (parseMethodDescriptor (yJ7_copyOf_1904c).desc).map (fun d => d.parameters.length) = some 2 := by decide +kernel
theorem hd_J7_copyOf_6403c : (yJ7_copyOf_6403c).cls ≠ "java/lang/invoke/MethodHandle" ∧ (yJ7_copyOf_6403c).cls ≠ "java/lang/invoke/VarHandle" ∧ (parseMethodDescriptor (yJ7_copyOf_6403c).desc).map (fun d => d.parameters.length) = some 3 := by decide +kernel
theorem hd_J15_checkIndex_7cf53 : (yJ15_checkIndex_7cf53).cls ≠ "java/lang/invoke/MethodHandle" ∧ (yJ15_checkIndex_7cf53).cls ≠ "java/lang/invoke/VarHandle" ∧ (parseMethodDescriptor (yJ15_checkIndex_7cf53).desc).map (fun d => d.parameters.length) = some 2 := by decide +kernel
theorem hd_J8_newLength_cabcc : (yJ8_newLength_cabcc).cls ≠ "java/lang/invoke/MethodHandle" ∧ (yJ8_newLength_cabcc).cls ≠ "java/lang/invoke/VarHandle" ∧ (parseMethodDescriptor (yJ8_newLength_cabcc).desc).map (fun d => d.parameters.length) = some 3 := by decide +kernel
theorem hd_J8_hugeLength_7cf53 : (yJ8_hugeLength_7cf53).cls ≠ "java/lang/invoke/MethodHandle" ∧ (yJ8_hugeLength_7cf53).cls ≠ "java/lang/invoke/VarHandle" ∧ (parseMethodDescriptor (yJ8_hugeLength_7cf53).desc).map (fun d => d.parameters.length) = some 2 := by decide +kernel
theorem hd_J3_checkIndex_8e157 : (yJ3_checkIndex_8e157).cls ≠ "java/lang/invoke/MethodHandle" ∧ (yJ3_checkIndex_8e157).cls ≠ "java/lang/invoke/VarHandle" ∧ (parseMethodDescriptor (yJ3_checkIndex_8e157).desc).map (fun d => d.parameters.length) = some 3 := by decide +kernel
theorem hd_L_law : (yL_law).cls ≠ "java/lang/invoke/MethodHandle" ∧ (yL_law).cls ≠ "java/lang/invoke/VarHandle" ∧ (parseMethodDescriptor (yL_law).desc).map (fun d => d.parameters.length) = some 1 := by decide +kernel
theorem xv_get {w : xW} {a k0 ci j : Nat} {fs : List Value} {v : Value} (ha : w a = some (k0, .inr (ci, fs))) (hf : fs[j]? = some v) : ∀ w1, w1 = w → ∃ k0 fs, w1 a = some (k0, .inr (ci, fs)) ∧ fs[j]? = some v := fun w1 e => by rw [e]; exact ⟨_, _, ha, hf⟩
theorem xv_put {w : xW} {a k0 ci j : Nat} {fs : List Value} {v : Value} {P2 : xW → Prop} (ha : w a = some (k0, .inr (ci, fs))) (hl : j < fs.length) (hp : P2 (xu w a (k0, .inr (ci, fs.set j v)))) : ∀ w1, w1 = w → ∃ k0 fs, w1 a = some (k0, .inr (ci, fs)) ∧ j < fs.length ∧ P2 (xu w1 a (k0, .inr (ci, fs.set j v))) := fun w1 e => by rw [e]; exact ⟨_, _, ha, hl, hp⟩
theorem xv_obj {w : xW} {a k0 ci : Nat} {fs : List Value} (ha : w a = some (k0, .inr (ci, fs))) : ∀ w1, w1 = w → ∃ k0 fs, w1 a = some (k0, .inr (ci, fs)) := fun w1 e => by rw [e]; exact ⟨_, _, ha⟩
theorem xv_arr {w : xW} {a k0 : Nat} {x : va_E} (ha : w a = some (k0, x)) : ∀ w1, w1 = w → ∃ k0, w1 a = some (k0, x) := fun w1 e => by rw [e]; exact ⟨_, ha⟩
theorem x_then {p : Program} {e : Env} {R : Room} {s : State} {m : MethodId} {args : Array Value} {below : List Frame} {meth : Method} {c : Code} {nL : Nat} {Q : State → Prop} {P : xW → Prop} {k n pc : Nat} {lv : List (Nat × Value)} {st : List Value} {φ : Prop} {P2 : xW → Prop} (h : ∀ w, P w → φ ∧ P2 w) (kk : φ → xJ p l e R s m args below meth c G nL Q P2 k n pc lv st) : xJ p l e R s m args below meth c G nL Q P k n pc lv st := fun w H locs ls hp => kk (h w hp).1 w H locs ls (h w hp).2
theorem x_pin {p : Program} {e : Env} {R : Room} {s : State} {m : MethodId} {args : Array Value} {below : List Frame} {meth : Method} {c : Code} {nL : Nat} {Q : State → Prop} {P : xW → Prop} {k n pc : Nat} {lv : List (Nat × Value)} {st : List Value} (kk : ∀ w1, P w1 → xJ p l e R s m args below meth c G nL Q (fun w => w = w1) k n pc lv st) : xJ p l e R s m args below meth c G nL Q P k n pc lv st := fun w H locs ls hp => kk w hp w H locs ls rfl
theorem x_ldc {p : Program} {e : Env} {R : Room} {s : State} {m : MethodId} {args : Array Value} {below : List Frame} {meth : Method} {c : Code} {cc : ByteArray} {nL : Nat} {own : String} {rt : Option FieldType} {Q : State → Prop} {P : xW → Prop} {k n pc : Nat} {lv : List (Nat × Value)} {st : List Value} (Γ : xC p s m meth c G cc nL own rt) {idx : Nat} {v : Int32} (hconst : Cond.constant own idx v ∈ xAll) (hd : decode cc pc = .ok (.ldc idx, 2)) (kk : xJ p l e R s m args below meth c G nL Q P k n (pc + 2) lv (.int v :: st)) : xJ p l e R s m args below meth c G nL Q P k n pc lv st := fun w H locs ls hp hh hs hl => lv_ldc Γ.1 Γ.2.1 Γ.2.2.2.1 (Γ.2.2.2.2.2.2.1.w hconst) hd (kk w H locs ls hp hh hs hl)
set_option maxRecDepth 100000 in
theorem t_J3 {w : xW} {j N : Nat} (hj : j < N) (hN : N < 2 ^ 31) : xMet l G yJ3_checkIndex_8e157 cJ3_checkIndex_8e157 3 (some .int) ({ frames := 0, cells := 0, slots := 0, locals := 0 } : Room) [.int (nI j), .int (nI N), .null] w embI (fun r w' => r = nI j ∧ w' = w) := by
  refine xMet_of (by decide) (Nat.le_of_ble_eq_true rfl) ?_
  intro p e s m below meth c Γ hnm
  have h0 : ¬ nI j < 0 := nI_pos (by omega)
  have h1 : nI j < nI N := nI_lt hj hN
  refine x_iload_n Γ dJ3_checkIndex_8e157_0 rfl rfl ?_
  refine x_if_lt (tgt := 9) Γ dJ3_checkIndex_8e157_1 (by decide) (fun c1 => absurd c1 (h0)) (fun c1 => ?_)
  refine x_iload_n Γ dJ3_checkIndex_8e157_4 rfl rfl ?_
  refine x_iload_n Γ dJ3_checkIndex_8e157_5 rfl rfl ?_
  refine x_icmp_lt (tgt := 16) Γ dJ3_checkIndex_8e157_6 (by decide) (fun c6 => ?_) (fun c6 => absurd (h1) c6)
  refine x_iload_n Γ dJ3_checkIndex_8e157_16 rfl rfl ?_
  exact x_iret Γ rfl rfl (fun w1 e => ⟨rfl, e⟩) ⟨Nat.le_of_ble_eq_true rfl, Nat.le_of_ble_eq_true rfl⟩ dJ3_checkIndex_8e157_17
set_option maxRecDepth 100000 in
theorem t_J15 {w : xW} {j N : Nat} (hj : j < N) (hN : N < 2 ^ 31) : xMet l G yJ15_checkIndex_7cf53 cJ15_checkIndex_7cf53 2 (some .int) ({ frames := 1, cells := 0, slots := 0, locals := 22 } : Room) [.int (nI j), .int (nI N)] w embI (fun r w' => r = nI j ∧ w' = w) := by
  refine xMet_of (by decide) (Nat.le_of_ble_eq_true rfl) ?_
  intro p e s m below meth c Γ hnm
  refine x_iload_n Γ dJ15_checkIndex_7cf53_0 rfl rfl ?_
  refine x_iload_n Γ dJ15_checkIndex_7cf53_1 rfl rfl ?_
  refine x_null Γ dJ15_checkIndex_7cf53_2 ?_
  refine x_invS (emb := embI) Γ [.int (nI j), .int (nI N), .null] (fun w r w' => r = nI j ∧ w' = w) rfl (fun w _ => t_J3 hj hN) k_215 k_12 k_213 k_214 hd_J3_checkIndex_8e157 ⟨Nat.le_of_ble_eq_true rfl, Nat.le_of_ble_eq_true rfl⟩ ⟨Nat.le_of_ble_eq_true rfl, Nat.le_of_ble_eq_true rfl⟩ (Nat.le_of_ble_eq_true rfl) dJ15_checkIndex_7cf53_3 (fun r => ?_)
  refine x_then (P2 := fun w1 => w1 = w) (φ := r = nI j) (fun w2 h2 => by obtain ⟨w3, h3, h4, h5⟩ := h2; subst h5; exact ⟨h4, h3⟩) (fun e1 => ?_)
  subst e1
  exact x_iret Γ rfl rfl (fun w1 e => ⟨rfl, e⟩) ⟨Nat.le_of_ble_eq_true rfl, Nat.le_of_ble_eq_true rfl⟩ dJ15_checkIndex_7cf53_6
/-- a list: its object has colour col, its row colour col + 2 -/
def LstAt (G : xG) (w : xW) (a col len : Nat) (f : Nat → Nat) : Prop :=
  ∃ (mc : Int32) (el : Nat), w a = some (col, .inr (0, [.int mc, .ref el, .int (nI len)])) ∧ len ≤ 900 ∧ ((len = 0 ∧ el = G.2 4) ∨ ∃ (cap : Nat) (g : Nat → Option Nat), w el = some (col + 2, .inl (G.2 3, cap, .inr (.inr (.inr (.inr g))))) ∧ len ≤ cap ∧ 10 ≤ cap ∧ cap ≤ 900 ∧ ∀ i, i < len → g i = some (f i))
def KpL (col : Nat) (w w' : xW) : Prop := ∀ (b k : Nat) (e : va_E), w b = some (k, e) → k ≠ col → k ≠ col + 2 → w' b = some (k, e)
theorem KpL.rf {col : Nat} {w : xW} : KpL col w w := fun _ _ _ h _ _ => h
theorem KpL.tr {col : Nat} {w w1 w2 : xW} (h : KpL col w w1) (h2 : KpL col w1 w2) : KpL col w w2 := fun b k e hb h3 h4 => h2 b k e (h b k e hb h3 h4) h3 h4
theorem KpL.set {col : Nat} {w w1 : xW} (h : KpL col w w1) {a k : Nat} {e0 : va_E} {x : Nat × va_E} (ha : w1 a = some (k, e0)) (hk : k = col ∨ k = col + 2) : KpL col w (xu w1 a x) := fun b j e hb h3 h4 => xu_far (h b j e hb h3 h4) ha (by omega)
theorem KpL.new {col : Nat} {w w1 : xW} (h : KpL col w w1) {a : Nat} {x : Nat × va_E} (ha : w1 a = none) : KpL col w (xu w1 a x) := fun b j e hb h3 h4 => xu_new (h b j e hb h3 h4) ha
set_option maxRecDepth 100000 in
theorem t_size {w : xW} {a col len : Nat} {f : Nat → Nat} (h : LstAt G w a col len f) : xMet l G yJx4a65c_size_8abf5 cJx4a65c_size_8abf5 1 (some .int) ({ frames := 0, cells := 0, slots := 0, locals := 0 } : Room) [.ref a] w embI (fun r w' => r = nI len ∧ w' = w) := by
  obtain ⟨mc, el, ha, -⟩ := h
  refine xMet_of (by decide) (Nat.le_of_ble_eq_true rfl) ?_
  intro p e s m below meth c Γ hnm
  refine x_aload_n Γ dJx4a65c_size_8abf5_0 rfl rfl ?_
  refine x_getf Γ kl0 2 (xv_get ha rfl) (by decide) k_43 (Or.inl rfl) dJx4a65c_size_8abf5_1 ?_
  exact x_iret Γ rfl rfl (fun w1 e => ⟨rfl, e⟩) ⟨Nat.le_of_ble_eq_true rfl, Nat.le_of_ble_eq_true rfl⟩ dJx4a65c_size_8abf5_4
set_option maxRecDepth 100000 in
theorem t_elementData {w : xW} {a el j cap q k0 k1 : Nat} {mc x : Int32} {g : Nat → Option Nat} (ha : w a = some (k0, .inr (0, [.int mc, .ref el, .int x]))) (he : w el = some (k1, .inl (G.2 3, cap, .inr (.inr (.inr (.inr g)))))) (hj : j < cap) (hN : cap < 2 ^ 31) (hg : g j = some q) : xMet l G yJx4a65c_elementData_915e3 cJx4a65c_elementData_915e3 2 (some (.object "java/lang/Object")) ({ frames := 0, cells := 0, slots := 0, locals := 0 } : Room) [.ref a, .int (nI j)] w embA (fun r w' => r = q ∧ w' = w) := by
  refine xMet_of (by decide) (Nat.le_of_ble_eq_true rfl) ?_
  intro p e s m below meth c Γ hnm
  refine x_aload_n Γ dJx4a65c_elementData_915e3_0 rfl rfl ?_
  refine x_getf Γ kl0 1 (xv_get ha rfl) (by decide) k_42 (Or.inl rfl) dJx4a65c_elementData_915e3_1 ?_
  refine x_iload_n Γ dJx4a65c_elementData_915e3_4 rfl rfl ?_
  refine x_aald Γ (xv_arr he) (vp_in_nI hj hN) (b := q) (by rw [nI_clamp (by omega)]; exact hg) dJx4a65c_elementData_915e3_5 ?_
  exact x_aret Γ rfl (Or.inl ⟨_, rfl⟩) (fun w1 e => ⟨rfl, e⟩) ⟨Nat.le_of_ble_eq_true rfl, Nat.le_of_ble_eq_true rfl⟩ dJx4a65c_elementData_915e3_6
set_option maxRecDepth 100000 in
theorem t_get {w : xW} {a col len j : Nat} {f : Nat → Nat} (h : LstAt G w a col len f) (hj : j < len) : xMet l G yJx4a65c_get_915e3 cJx4a65c_get_915e3 2 (some (.object "java/lang/Object")) ({ frames := 2, cells := 0, slots := 0, locals := 43 } : Room) [.ref a, .int (nI j)] w embA (fun r w' => r = f j ∧ w' = w) := by
  obtain ⟨mc, el, ha, hlen, h | ⟨cap, g, he, h1, h2, h3, h4⟩⟩ := h
  · omega
  · refine xMet_of (by decide) (Nat.le_of_ble_eq_true rfl) ?_
    intro p e s m below meth c Γ hnm
    refine x_iload_n Γ dJx4a65c_get_915e3_0 rfl rfl ?_
    refine x_aload_n Γ dJx4a65c_get_915e3_1 rfl rfl ?_
    refine x_getf Γ kl0 2 (xv_get ha rfl) (by decide) k_43 (Or.inl rfl) dJx4a65c_get_915e3_2 ?_
    refine x_invS (emb := embI) Γ [.int (nI j), .int (nI len)] (fun w r w' => r = nI j ∧ w' = w) rfl (fun w _ => t_J15 hj (by omega)) k_212 k_11 k_210 k_211 hd_J15_checkIndex_7cf53 ⟨Nat.le_of_ble_eq_true rfl, Nat.le_of_ble_eq_true rfl⟩ ⟨Nat.le_of_ble_eq_true rfl, Nat.le_of_ble_eq_true rfl⟩ (Nat.le_of_ble_eq_true rfl) dJx4a65c_get_915e3_5 (fun r => ?_)
    refine x_then (P2 := fun w1 => w1 = w) (φ := r = nI j) (fun w2 h2 => by obtain ⟨w3, h3, h4, h5⟩ := h2; subst h5; exact ⟨h4, h3⟩) (fun e1 => ?_)
    subst e1
    refine x_pop Γ dJx4a65c_get_915e3_8 rfl ?_
    refine x_aload_n Γ dJx4a65c_get_915e3_9 rfl rfl ?_
    refine x_iload_n Γ dJx4a65c_get_915e3_10 rfl rfl ?_
    refine x_invV (emb := embA) (ci := 0) Γ [.int (nI j)] (fun w r w' => r = f j ∧ w' = w) rfl (fun w1 e1 => by subst e1; exact t_elementData ha he (by omega) (by omega) (h4 j hj)) (xv_obj ha) rfl k_219 k_4 k_216 k_217 k_218 hd_Jx4a65c_elementData_915e3 ⟨Nat.le_of_ble_eq_true rfl, Nat.le_of_ble_eq_true rfl⟩ ⟨Nat.le_of_ble_eq_true rfl, Nat.le_of_ble_eq_true rfl⟩ (Nat.le_of_ble_eq_true rfl) dJx4a65c_get_915e3_11 (fun r => ?_)
    refine x_then (P2 := fun w1 => w1 = w) (φ := r = f j) (fun w2 h2 => by obtain ⟨w3, h3, h4, h5⟩ := h2; subst h5; exact ⟨h4, h3⟩) (fun e1 => ?_)
    subst e1
    exact x_aret Γ rfl (Or.inl ⟨_, rfl⟩) (fun w1 e => ⟨rfl, e⟩) ⟨Nat.le_of_ble_eq_true rfl, Nat.le_of_ble_eq_true rfl⟩ dJx4a65c_get_915e3_14
end XJ1
end
section
section XJ2
variable {l : Launch} {G : xG}
theorem nI_hi {a b : Nat} (h : a < b) (hb : b < 2 ^ 31) : ¬ nI b < nI a := nI_nlt (by omega) hb
theorem xK_cast : Cond.castable RX1 "java/lang/Object" ∈ xAll := k_768
set_option maxRecDepth 100000 in
theorem t_acinit {w : xW} {a : Nat} : xMet l G yJxa1e45_init_da8c8 cJxa1e45_init_da8c8 1 none ({ frames := 1, cells := 0, slots := 0, locals := 12 } : Room) [.ref a] w embV (fun _ w' => w' = w) := by
  refine xMet_of (by decide) (Nat.le_of_ble_eq_true rfl) ?_
  intro p e s m below meth c Γ hnm
  refine x_aload_n Γ dJxa1e45_init_da8c8_0 rfl rfl ?_
  refine x_obj Γ k_39 ⟨Nat.le_of_ble_eq_true rfl, Nat.le_of_ble_eq_true rfl⟩ dJxa1e45_init_da8c8_1 ?_
  exact x_vret Γ rfl (fun w1 e => e) ⟨Nat.le_of_ble_eq_true rfl, Nat.le_of_ble_eq_true rfl⟩ dJxa1e45_init_da8c8_4
set_option maxRecDepth 100000 in
theorem t_alinit {w : xW} {a col : Nat} {x : Int32} {v1 v2 : Value} (ha : w a = some (col, .inr (0, [.int x, v1, v2]))) : xMet l G yJxc12de_init_da8c8 cJxc12de_init_da8c8 1 none ({ frames := 2, cells := 0, slots := 0, locals := 32 } : Room) [.ref a] w embV (fun _ w' => w' = xu w a (col, .inr (0, [.int 0, v1, v2]))) := by
  refine xMet_of (by decide) (Nat.le_of_ble_eq_true rfl) ?_
  intro p e s m below meth c Γ hnm
  refine x_aload_n Γ dJxc12de_init_da8c8_0 rfl rfl ?_
  refine x_invI Γ [] (fun w _ w' => w' = w) rfl (fun w _ => t_acinit) rfl k_38 k_2 k_36 k_37 hd_Jxa1e45_init_da8c8 ⟨Nat.le_of_ble_eq_true rfl, Nat.le_of_ble_eq_true rfl⟩ ⟨Nat.le_of_ble_eq_true rfl, Nat.le_of_ble_eq_true rfl⟩ (Nat.le_of_ble_eq_true rfl) dJxc12de_init_da8c8_1 (fun _ => ?_)
  refine x_then (P2 := fun w1 => w1 = w) (φ := True) (fun w2 h2 => by obtain ⟨w3, h3, h5⟩ := h2; exact ⟨trivial, by rw [h5, h3]⟩) (fun _ => ?_)
  refine x_aload_n Γ dJxc12de_init_da8c8_4 rfl rfl ?_
  refine x_iconst (v := 0) Γ dJxc12de_init_da8c8_5 (by decide) ?_
  refine x_putf (P' := fun w1 => w1 = xu w a (col, .inr (0, [.int 0, v1, v2]))) Γ kl0 0 (fun w9 e9 => by rw [e9]; exact ⟨_, _, ha, Nat.le_of_ble_eq_true rfl, rfl⟩) (by decide) k_44 (Or.inl rfl) rfl rfl rfl dJxc12de_init_da8c8_6 ?_
  exact x_vret Γ rfl (fun w1 e => e) ⟨Nat.le_of_ble_eq_true rfl, Nat.le_of_ble_eq_true rfl⟩ dJxc12de_init_da8c8_9
set_option maxRecDepth 100000 in
theorem t_newlist {w : xW} {a col : Nat} {f : Nat → Nat} (ha : w a = some (col, .inr (0, [.int 0, .null, .int 0]))) : xMet l G yJx4a65c_init_da8c8 cJx4a65c_init_da8c8 1 none ({ frames := 3, cells := 0, slots := 0, locals := 52 } : Room) [.ref a] w embV (fun _ w' => LstAt G w' a col 0 f ∧ KpL col w w') := by
  refine xMet_of (by decide) (Nat.le_of_ble_eq_true rfl) ?_
  intro p e s m below meth c Γ hnm
  refine x_aload_n Γ dJx4a65c_init_da8c8_0 rfl rfl ?_
  refine x_invI Γ [] (fun w _ w' => w' = xu w a (col, .inr (0, [.int 0, .null, .int 0]))) rfl (fun w1 e1 => by subst e1; exact t_alinit ha) rfl k_35 k_3 k_33 k_34 hd_Jxc12de_init_da8c8 ⟨Nat.le_of_ble_eq_true rfl, Nat.le_of_ble_eq_true rfl⟩ ⟨Nat.le_of_ble_eq_true rfl, Nat.le_of_ble_eq_true rfl⟩ (Nat.le_of_ble_eq_true rfl) dJx4a65c_init_da8c8_1 (fun _ => ?_)
  refine x_then (P2 := fun w1 => w1 = xu w a (col, .inr (0, [.int 0, .null, .int 0]))) (φ := True) (fun w2 h2 => by obtain ⟨w3, h3, h5⟩ := h2; exact ⟨trivial, by rw [h5, h3]⟩) (fun _ => ?_)
  refine x_pin (fun w1 hw1 => ?_)
  have ha1 : w1 a = some (col, .inr (0, [.int 0, .null, .int 0])) := by rw [hw1]; exact xu_eq _ _ _
  refine x_aload_n Γ dJx4a65c_init_da8c8_4 rfl rfl ?_
  refine x_gets Γ dJx4a65c_init_da8c8_5 ?_
  refine x_putf (P' := fun w2 => w2 = xu w1 a (col, .inr (0, [.int 0, .ref (G.2 4), .int 0]))) Γ kl0 1 (fun w9 e9 => by rw [e9]; exact ⟨_, _, ha1, Nat.le_of_ble_eq_true rfl, rfl⟩) (by decide) k_42 (Or.inl rfl) rfl rfl rfl dJx4a65c_init_da8c8_8 ?_
  refine x_vret Γ rfl (fun w2 e => ?_) ⟨Nat.le_of_ble_eq_true rfl, Nat.le_of_ble_eq_true rfl⟩ dJx4a65c_init_da8c8_11
  subst e; subst hw1
  exact ⟨⟨0, G.2 4, xu_eq _ _ _, by omega, Or.inl ⟨rfl, rfl⟩⟩, (KpL.rf.set ha (Or.inl rfl)).set ha1 (Or.inl rfl)⟩
set_option maxRecDepth 100000 in
theorem t_newLength {w : xW} {a b : Nat} (h1 : a ≤ 1000) (h2 : b ≤ 1000) : xMet l G yJ8_newLength_cabcc cJ8_newLength_cabcc 4 (some .int) ({ frames := 1, cells := 0, slots := 0, locals := 30 } : Room) [.int (nI a), .int (nI 1), .int (nI b)] w embI (fun r w' => r = nI (a + max 1 b) ∧ w' = w) := by
  have hm : (if nI 1 < nI b then nI b else nI 1) = nI (max 1 b) := by
    by_cases h : 1 < b
    · rw [if_pos (nI_lt h (by omega)), Nat.max_eq_right (by omega)]
    · rw [if_neg (nI_nlt (by omega) (by omega)), Nat.max_eq_left (by omega)]
  refine xMet_of (by decide) (Nat.le_of_ble_eq_true rfl) ?_
  intro p e s m below meth c Γ hnm
  refine x_iload_n Γ dJ8_newLength_cabcc_0 rfl rfl ?_
  refine x_iload_n Γ dJ8_newLength_cabcc_1 rfl rfl ?_
  refine x_iload_n Γ dJ8_newLength_cabcc_2 rfl rfl ?_
  refine x_max Γ k_328 k_329 k_330 k_17 ⟨Nat.le_of_ble_eq_true rfl, Nat.le_of_ble_eq_true rfl, Nat.le_of_ble_eq_true rfl, Nat.le_of_ble_eq_true rfl⟩ dJ8_newLength_cabcc_3 ?_
  rw [hm]
  refine x_iadd Γ dJ8_newLength_cabcc_6 ?_
  rw [nI_add]
  refine x_istore_n Γ dJ8_newLength_cabcc_7 rfl rfl (by decide) ?_
  refine x_iconst (v := 0) Γ dJ8_newLength_cabcc_8 (by decide) ?_
  refine x_iload_n Γ dJ8_newLength_cabcc_9 rfl rfl ?_
  refine x_icmp_ge (tgt := 21) Γ dJ8_newLength_cabcc_10 (by decide) (fun c10 => absurd c10 (nI_nle (by omega) (by omega))) (fun c10 => ?_)
  refine x_iload_n Γ dJ8_newLength_cabcc_13 rfl rfl ?_
  refine x_ldc Γ k_331 dJ8_newLength_cabcc_14 ?_
  refine x_icmp_gt (tgt := 21) Γ dJ8_newLength_cabcc_16 (by decide) (fun c16 => absurd c16 ((by have h := nI_hi (a := a + max 1 b) (b := 2147483639) (by omega) (by omega); exact h))) (fun c16 => ?_)
  refine x_iload_n Γ dJ8_newLength_cabcc_19 rfl rfl ?_
  exact x_iret Γ rfl rfl (fun w1 e => ⟨rfl, e⟩) ⟨Nat.le_of_ble_eq_true rfl, Nat.le_of_ble_eq_true rfl⟩ dJ8_newLength_cabcc_20
theorem sb_cpy0A {f g : Nat → Option Nat} {n j : Nat} (h : j < n) : va_cpy f g 0 0 n j = f j := by
  rw [pk_cpy_in (Nat.zero_le _) (by omega), Nat.zero_add, Nat.sub_zero]
set_option maxRecDepth 100000 in
theorem t_copyOf3 {w : xW} {el cap N ce cn : Nat} {g : Nat → Option Nat} (he : w el = some (ce, .inl (G.2 3, cap, .inr (.inr (.inr (.inr g)))))) (h1 : cap ≤ N) (h2 : N ≤ 2000) (hel : ∀ i y, i < cap → g i = some y → ∃ k1 fs, w y = some (k1, .inr (2, fs))) : xMet l G yJ7_copyOf_6403c cJ7_copyOf_6403c 4 (some (.array (.object "java/lang/Object"))) ({ frames := 1, cells := 1, slots := N, locals := 60 } : Room) [.ref el, .int (nI N), .ref (G.2 5)] w embA (fun q w' => w q = none ∧ ∃ g' : Nat → Option Nat, w' = xu w q (cn, .inl (G.2 3, N, .inr (.inr (.inr (.inr g'))))) ∧ ∀ i, i < cap → g' i = g i) := by
  have hm : (if nI N < nI cap then nI N else nI cap) = nI cap := if_neg (nI_nlt h1 (by omega))
  refine xMet_of (by decide) (Nat.le_of_ble_eq_true rfl) ?_
  intro p e s m below meth c Γ hnm
  refine x_aload_n Γ dJ7_copyOf_6403c_0 rfl rfl ?_
  refine x_ldcM Γ k_353 dJ7_copyOf_6403c_1 ?_
  refine x_acmp_ne (tgt := 13) Γ dJ7_copyOf_6403c_3 (by decide) (fun c => absurd rfl c) (fun _ => ?_)
  refine x_iload_n Γ dJ7_copyOf_6403c_6 rfl rfl ?_
  refine x_newA Γ cn rfl (by omega) k_355 (F := fun q w1 => w q = none ∧ w1 = xu w q (cn, .inl (G.2 3, N, .inr (.inr (.inr (.inr (fun _ => none))))))) (fun w1 q e1 h0 => by subst e1; exact ⟨h0, rfl⟩) ⟨Nat.le_of_ble_eq_true rfl, Nat.le_of_eq (Nat.zero_add _)⟩ dJ7_copyOf_6403c_7 (fun q => ?_)
  refine x_pin (fun w1 hw1 => ?_)
  obtain ⟨hq, hw1⟩ := hw1
  have he1 : w1 el = some (ce, .inl (G.2 3, cap, .inr (.inr (.inr (.inr g))))) := by rw [hw1]; exact xu_new he hq
  have hq1 : w1 q = some (cn, .inl (G.2 3, N, .inr (.inr (.inr (.inr (fun _ => none)))))) := by rw [hw1]; exact xu_eq _ _ _
  refine x_goto (tgt := 24) Γ dJ7_copyOf_6403c_10 (by decide) ?_
  refine x_astore_n Γ dJ7_copyOf_6403c_24 rfl rfl (by decide) ?_
  refine x_aload_n Γ dJ7_copyOf_6403c_25 rfl rfl ?_
  refine x_iconst (v := 0) Γ dJ7_copyOf_6403c_26 (by decide) ?_
  refine x_aload_n Γ dJ7_copyOf_6403c_27 rfl rfl ?_
  refine x_iconst (v := 0) Γ dJ7_copyOf_6403c_28 (by decide) ?_
  refine x_aload_n Γ dJ7_copyOf_6403c_29 rfl rfl ?_
  refine x_alen Γ (N := cap) (fun w2 e2 => by rw [e2]; exact ⟨_, _, Or.inr (Or.inr he1)⟩) dJ7_copyOf_6403c_30 ?_
  refine x_iload_n Γ dJ7_copyOf_6403c_31 rfl rfl ?_
  refine x_min Γ k_356 k_357 k_358 k_17 ⟨Nat.le_of_ble_eq_true rfl, Nat.le_of_ble_eq_true rfl, Nat.le_of_ble_eq_true rfl, Nat.le_of_eq (Nat.zero_add _)⟩ dJ7_copyOf_6403c_32 ?_
  rw [hm]
  refine x_copy (P' := fun w2 => w2 = xu w1 q (cn, .inl (G.2 3, N, .inr (.inr (.inr (.inr (va_cpy g (fun _ => none) (0 : Int32).toNatClampNeg (0 : Int32).toNatClampNeg (nI cap).toNatClampNeg))))))) Γ k_359 k_361 k_360 k_18 (fun w2 e2 => by rw [e2]; exact ⟨_, _, he1, hq1, rfl⟩) (by decide) (by decide) (nI_pos (by omega)) (by rw [sb_cl0, nI_clamp (by omega)]; omega) (by rw [sb_cl0, nI_clamp (by omega)]; omega) (fun w2 e2 i hi y hy => ?_) ⟨Nat.le_of_ble_eq_true rfl, Nat.le_of_ble_eq_true rfl⟩ dJ7_copyOf_6403c_35 ?_
  · rw [sb_cl0, Nat.zero_add] at hy; rw [nI_clamp (by omega)] at hi
    obtain ⟨k1, fs, h9⟩ := hel i y hi hy
    rw [e2]
    exact ⟨k1, 2, fs, by rw [hw1]; exact xu_new h9 hq, _, rfl, xK_cast⟩
  refine x_aload_n Γ dJ7_copyOf_6403c_38 rfl rfl ?_
  refine x_aret Γ rfl (Or.inr ⟨_, rfl⟩) (fun w2 e2 => ?_) ⟨Nat.le_of_ble_eq_true rfl, Nat.le_of_eq (Nat.zero_add _)⟩ dJ7_copyOf_6403c_39
  refine ⟨hq, va_cpy g (fun _ => none) 0 0 cap, ?_, fun i hi => ?_⟩
  · subst e2; subst hw1
    funext z
    rw [sb_cl0, nI_clamp (by omega)]
    by_cases hz : z = q
    · subst hz; rw [xu_eq, xu_eq]
    · rw [xu_ne hz, xu_ne hz, xu_ne hz]
  · exact sb_cpy0A hi
set_option maxRecDepth 100000 in
theorem t_copyOf {w : xW} {el cap N ce cn : Nat} {g : Nat → Option Nat} (he : w el = some (ce, .inl (G.2 3, cap, .inr (.inr (.inr (.inr g)))))) (h1 : cap ≤ N) (h2 : N ≤ 2000) (hel : ∀ i y, i < cap → g i = some y → ∃ k1 fs, w y = some (k1, .inr (2, fs))) : xMet l G yJ7_copyOf_1904c cJ7_copyOf_1904c 2 (some (.array (.object "java/lang/Object"))) ({ frames := 2, cells := 1, slots := N, locals := 90 } : Room) [.ref el, .int (nI N)] w embA (fun q w' => w q = none ∧ ∃ g' : Nat → Option Nat, w' = xu w q (cn, .inl (G.2 3, N, .inr (.inr (.inr (.inr g'))))) ∧ ∀ i, i < cap → g' i = g i) := by
  refine xMet_of (by decide) (Nat.le_of_ble_eq_true rfl) ?_
  intro p e s m below meth c Γ hnm
  refine x_aload_n Γ dJ7_copyOf_1904c_0 rfl rfl ?_
  refine x_iload_n Γ dJ7_copyOf_1904c_1 rfl rfl ?_
  refine x_aload_n Γ dJ7_copyOf_1904c_2 rfl rfl ?_
  refine x_getC Γ (xv_arr he) k_338 k_775 k_774 k_339 k_349 ⟨Nat.le_of_ble_eq_true rfl, Nat.le_of_ble_eq_true rfl⟩ dJ7_copyOf_1904c_3 ?_
  refine x_invS (emb := embA) (rm := ({ frames := 1, cells := 1, slots := N, locals := 60 } : Room)) Γ [.ref el, .int (nI N), .ref (G.2 5)] (fun w q w' => w q = none ∧ ∃ g' : Nat → Option Nat, w' = xu w q (cn, .inl (G.2 3, N, .inr (.inr (.inr (.inr g'))))) ∧ ∀ i, i < cap → g' i = g i) rfl (fun w1 e1 => by subst e1; exact t_copyOf3 he h1 h2 hel) k_352 k_5 k_350 k_351 hd_J7_copyOf_6403c ⟨Nat.le_of_ble_eq_true rfl, Nat.le_of_ble_eq_true rfl⟩ ⟨Nat.le_of_ble_eq_true rfl, Nat.le_of_eq (Nat.zero_add _)⟩ (Nat.le_of_ble_eq_true rfl) dJ7_copyOf_1904c_6 (fun q => ?_)
  refine x_weak (P' := fun w' => (fun q w' => w q = none ∧ ∃ g' : Nat → Option Nat, w' = xu w q (cn, .inl (G.2 3, N, .inr (.inr (.inr (.inr g'))))) ∧ ∀ i, i < cap → g' i = g i) q w') (fun w2 h2 => by obtain ⟨w3, h3, h4⟩ := h2; subst h3; exact h4) ?_
  exact x_aret Γ rfl (Or.inr ⟨_, rfl⟩) (fun w2 e2 => e2) ⟨Nat.le_of_ble_eq_true rfl, Nat.le_of_eq (Nat.zero_add _)⟩ dJ7_copyOf_1904c_9
end XJ2
end
section
section XJ3
variable {l : Launch} {G : xG}
set_option maxRecDepth 100000 in
theorem t_grow1 {w : xW} {a el col len : Nat} {mc : Int32} {f : Nat → Nat} (ha : w a = some (col, .inr (0, [.int mc, .ref el, .int (nI len)]))) (hst : (len = 0 ∧ el = G.2 4) ∨ ∃ g : Nat → Option Nat, w el = some (col + 2, .inl (G.2 3, len, .inr (.inr (.inr (.inr g))))) ∧ 10 ≤ len ∧ len ≤ 24 ∧ ∀ i, i < len → g i = some (f i)) (hel : ∀ i, i < len → ∃ k1 fs, w (f i) = some (k1, .inr (2, fs))) : xMet l G yJx4a65c_grow_92f84 cJx4a65c_grow_92f84 4 (some (.array (.object "java/lang/Object"))) ({ frames := 3, cells := 1, slots := 40, locals := 125 } : Room) [.ref a, .int (nI (len + 1))] w embA (fun q w' => (∃ (cap : Nat) (g' : Nat → Option Nat), w' a = some (col, .inr (0, [.int mc, .ref q, .int (nI len)])) ∧ w' q = some (col + 2, .inl (G.2 3, cap, .inr (.inr (.inr (.inr g'))))) ∧ len < cap ∧ 10 ≤ cap ∧ cap ≤ 40 ∧ ∀ i, i < len → g' i = some (f i)) ∧ KpL col w w') := by
  rcases hst with ⟨h0, h1⟩ | ⟨g, he, h1, h2, h3⟩
  · subst h0; subst h1
    refine xMet_of (by decide) (Nat.le_of_ble_eq_true rfl) ?_
    intro p e s m below meth c Γ hnm
    refine x_aload_n Γ dJx4a65c_grow_92f84_0 rfl rfl ?_
    refine x_getf Γ kl0 1 (xv_get ha rfl) (by decide) k_42 (Or.inl rfl) dJx4a65c_grow_92f84_1 ?_
    refine x_slen0 Γ dJx4a65c_grow_92f84_4 ?_
    refine x_istore_n Γ dJx4a65c_grow_92f84_5 rfl rfl (by decide) ?_
    refine x_iload_n Γ dJx4a65c_grow_92f84_6 rfl rfl ?_
    refine x_if_gt (tgt := 20) Γ dJx4a65c_grow_92f84_7 (by decide) (fun c7 => absurd c7 (by decide)) (fun c7 => ?_)
    refine x_aload_n Γ dJx4a65c_grow_92f84_10 rfl rfl ?_
    refine x_getf Γ kl0 1 (xv_get ha rfl) (by decide) k_42 (Or.inl rfl) dJx4a65c_grow_92f84_11 ?_
    refine x_gets Γ dJx4a65c_grow_92f84_14 ?_
    refine x_acmp_eq (tgt := 45) Γ dJx4a65c_grow_92f84_17 (by decide) (fun _ => ?_) (fun c => absurd rfl c)
    refine x_aload_n Γ dJx4a65c_grow_92f84_45 rfl rfl ?_
    refine x_bipush (v := 10) Γ dJx4a65c_grow_92f84_46 (by decide) ?_
    refine x_iload_n Γ dJx4a65c_grow_92f84_48 rfl rfl ?_
    refine x_max Γ k_362 k_329 k_330 k_17 ⟨Nat.le_of_ble_eq_true rfl, Nat.le_of_ble_eq_true rfl, Nat.le_of_ble_eq_true rfl, Nat.le_of_ble_eq_true rfl⟩ dJx4a65c_grow_92f84_49 ?_
    rw [show (if (10 : Int32) < nI (0 + 1) then nI (0 + 1) else 10) = nI 10 from by decide]
    refine x_newA Γ (col + 2) rfl (by omega) k_363 (F := fun q w1 => w q = none ∧ w1 = xu w q (col + 2, .inl (G.2 3, 10, .inr (.inr (.inr (.inr (fun _ => none))))))) (fun w1 q e1 h0 => by subst e1; exact ⟨h0, rfl⟩) ⟨Nat.le_of_ble_eq_true rfl, Nat.le_of_ble_eq_true rfl⟩ dJx4a65c_grow_92f84_52 (fun q => ?_)
    refine x_pin (fun w1 hw1 => ?_)
    obtain ⟨hq, hw1⟩ := hw1
    have ha1 : w1 a = some (col, .inr (0, [.int mc, .ref (G.2 4), .int (nI 0)])) := by rw [hw1]; exact xu_new ha hq
    have hq1 : w1 q = some (col + 2, .inl (G.2 3, 10, .inr (.inr (.inr (.inr (fun _ => none)))))) := by rw [hw1]; exact xu_eq _ _ _
    refine x_dup_x1 Γ dJx4a65c_grow_92f84_55 rfl rfl ?_
    refine x_putf (P' := fun w2 => w2 = xu w1 a (col, .inr (0, [.int mc, .ref q, .int (nI 0)]))) Γ kl0 1 (fun w9 e9 => by rw [e9]; exact ⟨_, _, ha1, Nat.le_of_ble_eq_true rfl, rfl⟩) (by decide) k_42 (Or.inl rfl) rfl rfl rfl dJx4a65c_grow_92f84_56 ?_
    refine x_aret Γ rfl (Or.inr ⟨_, rfl⟩) (fun w9 e9 => ?_) ⟨Nat.le_of_ble_eq_true rfl, Nat.le_of_ble_eq_true rfl⟩ dJx4a65c_grow_92f84_59
    subst e9
    exact ⟨⟨10, _, xu_eq _ _ _, xu_far hq1 ha1 (by omega), by omega, by omega, by omega, fun i hi => absurd hi (by omega)⟩, KpL.set (by rw [hw1]; exact KpL.rf.new hq) ha1 (Or.inl rfl)⟩
  · have hs1 : nI (len + 1) - nI len = nI 1 := by rw [pk_sub (by omega), Nat.add_sub_cancel_left]
    have hs2 : nI len >>> ((1 : Int32) &&& 31) = nI (len / 2) := by
      have h9 := pk_shrN (n := len) (by omega) ((1 : Int32) &&& 31) 1 (by decide)
      rw [Nat.pow_one] at h9
      exact h9
    have hN : 0 + (len + max 1 (len / 2)) ≤ 40 := by omega
    refine xMet_of (by decide) (Nat.le_of_ble_eq_true rfl) ?_
    intro p e s m below meth c Γ hnm
    refine x_aload_n Γ dJx4a65c_grow_92f84_0 rfl rfl ?_
    refine x_getf Γ kl0 1 (xv_get ha rfl) (by decide) k_42 (Or.inl rfl) dJx4a65c_grow_92f84_1 ?_
    refine x_alen Γ (N := len) (fun w2 e2 => by rw [e2]; exact ⟨_, _, Or.inr (Or.inr he)⟩) dJx4a65c_grow_92f84_4 ?_
    refine x_istore_n Γ dJx4a65c_grow_92f84_5 rfl rfl (by decide) ?_
    refine x_iload_n Γ dJx4a65c_grow_92f84_6 rfl rfl ?_
    refine x_if_gt (tgt := 20) Γ dJx4a65c_grow_92f84_7 (by decide) (fun c7 => ?_) (fun c7 => absurd (by rw [← nI_0]; exact nI_lt (by omega) (by omega)) c7)
    refine x_iload_n Γ dJx4a65c_grow_92f84_20 rfl rfl ?_
    refine x_iload_n Γ dJx4a65c_grow_92f84_21 rfl rfl ?_
    refine x_iload_n Γ dJx4a65c_grow_92f84_22 rfl rfl ?_
    refine x_isub Γ dJx4a65c_grow_92f84_23 ?_
    rw [hs1]
    refine x_iload_n Γ dJx4a65c_grow_92f84_24 rfl rfl ?_
    refine x_iconst (v := 1) Γ dJx4a65c_grow_92f84_25 (by decide) ?_
    refine x_ishr Γ dJx4a65c_grow_92f84_26 ?_
    rw [hs2]
    refine x_invS (emb := embI) (rm := ({ frames := 1, cells := 0, slots := 0, locals := 30 } : Room)) Γ [.int (nI len), .int (nI 1), .int (nI (len / 2))] (fun w r w' => r = nI (len + max 1 (len / 2)) ∧ w' = w) rfl (fun w _ => t_newLength (by omega) (by omega)) k_327 k_16 k_325 k_326 hd_J8_newLength_cabcc ⟨Nat.le_of_ble_eq_true rfl, Nat.le_of_ble_eq_true rfl⟩ ⟨Nat.le_of_ble_eq_true rfl, Nat.le_of_ble_eq_true rfl⟩ (Nat.le_of_ble_eq_true rfl) dJx4a65c_grow_92f84_27 (fun r => ?_)
    refine x_then (P2 := fun w1 => w1 = w) (φ := r = nI (len + max 1 (len / 2))) (fun w2 h2 => by obtain ⟨w3, h3, h4, h5⟩ := h2; subst h5; exact ⟨h4, h3⟩) (fun e1 => ?_)
    subst e1
    refine x_istore_n Γ dJx4a65c_grow_92f84_30 rfl rfl (by decide) ?_
    refine x_aload_n Γ dJx4a65c_grow_92f84_31 rfl rfl ?_
    refine x_aload_n Γ dJx4a65c_grow_92f84_32 rfl rfl ?_
    refine x_getf Γ kl0 1 (xv_get ha rfl) (by decide) k_42 (Or.inl rfl) dJx4a65c_grow_92f84_33 ?_
    refine x_iload_n Γ dJx4a65c_grow_92f84_36 rfl rfl ?_
    refine x_invS (emb := embA) (rm := ({ frames := 2, cells := 1, slots := (len + max 1 (len / 2)), locals := 90 } : Room)) Γ [.ref el, .int (nI (len + max 1 (len / 2)))] (fun w q w' => w q = none ∧ ∃ g' : Nat → Option Nat, w' = xu w q (col + 2, .inl (G.2 3, len + max 1 (len / 2), .inr (.inr (.inr (.inr g'))))) ∧ ∀ i, i < len → g' i = g i) rfl (fun w1 e1 => by subst e1; exact t_copyOf he (by omega) (by omega) (fun i y hi hy => by rw [h3 i hi] at hy; cases hy; exact hel i hi)) k_337 k_5 k_335 k_336 hd_J7_copyOf_1904c ⟨Nat.le_of_ble_eq_true rfl, Nat.le_of_ble_eq_true rfl⟩ ⟨Nat.le_of_ble_eq_true rfl, hN⟩ (Nat.le_of_ble_eq_true rfl) dJx4a65c_grow_92f84_37 (fun q => ?_)
    refine x_pin (fun w1 hw1 => ?_)
    obtain ⟨w9, h9, hq, g', hw1, hg'⟩ := hw1
    subst h9
    have ha1 : w1 a = some (col, .inr (0, [.int mc, .ref el, .int (nI len)])) := by rw [hw1]; exact xu_new ha hq
    have hq1 : w1 q = some (col + 2, .inl (G.2 3, len + max 1 (len / 2), .inr (.inr (.inr (.inr g'))))) := by rw [hw1]; exact xu_eq _ _ _
    refine x_dup_x1 Γ dJx4a65c_grow_92f84_40 rfl rfl ?_
    refine x_putf (P' := fun w2 => w2 = xu w1 a (col, .inr (0, [.int mc, .ref q, .int (nI len)]))) Γ kl0 1 (fun w9 e9 => by rw [e9]; exact ⟨_, _, ha1, Nat.le_of_ble_eq_true rfl, rfl⟩) (by decide) k_42 (Or.inl rfl) rfl rfl rfl dJx4a65c_grow_92f84_41 ?_
    refine x_aret Γ rfl (Or.inr ⟨_, rfl⟩) (fun w9 e9 => ?_) ⟨Nat.le_of_ble_eq_true rfl, hN⟩ dJx4a65c_grow_92f84_44
    subst e9
    exact ⟨⟨len + max 1 (len / 2), g', xu_eq _ _ _, xu_far hq1 ha1 (by omega), by omega, by omega, by omega, fun i hi => by rw [hg' i hi]; exact h3 i hi⟩, KpL.set (by rw [hw1]; exact KpL.rf.new hq) ha1 (Or.inl rfl)⟩
set_option maxRecDepth 100000 in
theorem t_grow0 {w : xW} {a el col len : Nat} {mc : Int32} {f : Nat → Nat} (ha : w a = some (col, .inr (0, [.int mc, .ref el, .int (nI len)]))) (hst : (len = 0 ∧ el = G.2 4) ∨ ∃ g : Nat → Option Nat, w el = some (col + 2, .inl (G.2 3, len, .inr (.inr (.inr (.inr g))))) ∧ 10 ≤ len ∧ len ≤ 24 ∧ ∀ i, i < len → g i = some (f i)) (hel : ∀ i, i < len → ∃ k1 fs, w (f i) = some (k1, .inr (2, fs))) : xMet l G yJx4a65c_grow_d5877 cJx4a65c_grow_d5877 1 (some (.array (.object "java/lang/Object"))) ({ frames := 4, cells := 1, slots := 40, locals := 150 } : Room) [.ref a] w embA (fun q w' => (∃ (cap : Nat) (g' : Nat → Option Nat), w' a = some (col, .inr (0, [.int mc, .ref q, .int (nI len)])) ∧ w' q = some (col + 2, .inl (G.2 3, cap, .inr (.inr (.inr (.inr g'))))) ∧ len < cap ∧ 10 ≤ cap ∧ cap ≤ 40 ∧ ∀ i, i < len → g' i = some (f i)) ∧ KpL col w w') := by
  refine xMet_of (by decide) (Nat.le_of_ble_eq_true rfl) ?_
  intro p e s m below meth c Γ hnm
  refine x_aload_n Γ dJx4a65c_grow_d5877_0 rfl rfl ?_
  refine x_aload_n Γ dJx4a65c_grow_d5877_1 rfl rfl ?_
  refine x_getf Γ kl0 2 (xv_get ha rfl) (by decide) k_43 (Or.inl rfl) dJx4a65c_grow_d5877_2 ?_
  refine x_iconst (v := 1) Γ dJx4a65c_grow_d5877_5 (by decide) ?_
  refine x_iadd Γ dJx4a65c_grow_d5877_6 ?_
  rw [nI_1]
  refine x_invV (emb := embA) (ci := 0) (rm := ({ frames := 3, cells := 1, slots := 40, locals := 125 } : Room)) Γ [.int (nI (len + 1))] (fun w q w' => (∃ (cap : Nat) (g' : Nat → Option Nat), w' a = some (col, .inr (0, [.int mc, .ref q, .int (nI len)])) ∧ w' q = some (col + 2, .inl (G.2 3, cap, .inr (.inr (.inr (.inr g'))))) ∧ len < cap ∧ 10 ≤ cap ∧ cap ≤ 40 ∧ ∀ i, i < len → g' i = some (f i)) ∧ KpL col w w') rfl (fun w1 e1 => by subst e1; exact t_grow1 ha hst hel) (xv_obj ha) rfl k_324 k_4 k_321 k_323 s_5 hd_Jx4a65c_grow_92f84 ⟨Nat.le_of_ble_eq_true rfl, Nat.le_of_ble_eq_true rfl⟩ ⟨Nat.le_of_ble_eq_true rfl, Nat.le_of_ble_eq_true rfl⟩ (Nat.le_of_ble_eq_true rfl) dJx4a65c_grow_d5877_7 (fun q => ?_)
  refine x_weak (P' := fun w' => (∃ (cap : Nat) (g' : Nat → Option Nat), w' a = some (col, .inr (0, [.int mc, .ref q, .int (nI len)])) ∧ w' q = some (col + 2, .inl (G.2 3, cap, .inr (.inr (.inr (.inr g'))))) ∧ len < cap ∧ 10 ≤ cap ∧ cap ≤ 40 ∧ ∀ i, i < len → g' i = some (f i)) ∧ KpL col w w') (fun w2 h2 => by obtain ⟨w3, h3, h4⟩ := h2; subst h3; exact h4) ?_
  exact x_aret Γ rfl (Or.inr ⟨_, rfl⟩) (fun w2 e2 => e2) ⟨Nat.le_of_ble_eq_true rfl, Nat.le_of_ble_eq_true rfl⟩ dJx4a65c_grow_d5877_10
set_option maxRecDepth 100000 in
theorem t_add3 {w : xW} {a x el col len kx : Nat} {fx : List Value} {mc : Int32} {f : Nat → Nat} (ha : w a = some (col, .inr (0, [.int mc, .ref el, .int (nI len)]))) (hlen : len ≤ 24) (hst : (len = 0 ∧ el = G.2 4) ∨ ∃ (cap : Nat) (g : Nat → Option Nat), w el = some (col + 2, .inl (G.2 3, cap, .inr (.inr (.inr (.inr g))))) ∧ len ≤ cap ∧ 10 ≤ cap ∧ cap ≤ 900 ∧ ∀ i, i < len → g i = some (f i)) (hel : ∀ i, i < len → ∃ k1 fs, w (f i) = some (k1, .inr (2, fs))) (hx : w x = some (kx, .inr (2, fx))) (hxc : kx ≠ col ∧ kx ≠ col + 2) : xMet l G yJx4a65c_add_72be8 cJx4a65c_add_72be8 4 none ({ frames := 5, cells := 1, slots := 40, locals := 175 } : Room) [.ref a, .ref x, .ref el, .int (nI len)] w embV (fun _ w' => LstAt G w' a col (len + 1) (fun i => if i = len then x else f i) ∧ KpL col w w') := by
  refine xMet_of (by decide) (Nat.le_of_ble_eq_true rfl) ?_
  intro p e s m below meth c Γ hnm
  have tail : ∀ (w1 : xW) (el1 cap : Nat) (g : Nat → Option Nat), w1 a = some (col, .inr (0, [.int mc, .ref el1, .int (nI len)])) → w1 el1 = some (col + 2, .inl (G.2 3, cap, .inr (.inr (.inr (.inr g))))) → len < cap → 10 ≤ cap → cap ≤ 900 → (∀ i, i < len → g i = some (f i)) → KpL col w w1 → (∃ k1 fs, w1 x = some (k1, .inr (2, fs))) → xJ p l e ({ frames := 5, cells := 1, slots := 40, locals := 175 } : Room) s m ([.ref a, .ref x, .ref el, .int (nI len)] : List Value).toArray below meth c G 4 (MQ below (xQ G embV (fun _ w' => LstAt G w' a col (len + 1) (fun i => if i = len then x else f i) ∧ KpL col w w')) ([.ref a, .ref x, .ref el, .int (nI len)] : List Value).toArray s ({ frames := 5, cells := 1, slots := 40, locals := 175 } : Room).cells ({ frames := 5, cells := 1, slots := 40, locals := 175 } : Room).slots (xA G)) (fun w2 => w2 = w1) 1 40 11 [(0, .ref a), (1, .ref x), (2, .ref el1), (3, .int (nI len))] [] := by
    intro w1 el1 cap g ha1 he1 h1 h2 h3 h4 hk1 hx1
    obtain ⟨k9, fs9, hx1⟩ := hx1
    refine x_aload_n Γ dJx4a65c_add_72be8_11 rfl rfl ?_
    refine x_iload_n Γ dJx4a65c_add_72be8_12 rfl rfl ?_
    refine x_aload_n Γ dJx4a65c_add_72be8_13 rfl rfl ?_
    refine x_aast (P' := fun w2 => w2 = xu w1 el1 (col + 2, .inl (G.2 3, cap, .inr (.inr (.inr (.inr (va_up g (nI len).toNatClampNeg (some x)))))))) Γ (fun w9 e9 => by rw [e9]; exact ⟨_, he1, rfl⟩) (fun w9 e9 => by rw [e9]; exact ⟨_, _, _, hx1, _, rfl, xK_cast⟩) (vp_in_nI h1 (by omega)) dJx4a65c_add_72be8_14 ?_
    refine x_pin (fun w2 hw2 => ?_)
    have ha2 : w2 a = some (col, .inr (0, [.int mc, .ref el1, .int (nI len)])) := by rw [hw2]; exact xu_far ha1 he1 (by omega)
    refine x_aload_n Γ dJx4a65c_add_72be8_15 rfl rfl ?_
    refine x_iload_n Γ dJx4a65c_add_72be8_16 rfl rfl ?_
    refine x_iconst (v := 1) Γ dJx4a65c_add_72be8_17 (by decide) ?_
    refine x_iadd Γ dJx4a65c_add_72be8_18 ?_
    rw [nI_1]
    refine x_putf (P' := fun w3 => w3 = xu w2 a (col, .inr (0, [.int mc, .ref el1, .int (nI (len + 1))]))) Γ kl0 2 (fun w9 e9 => by rw [e9]; exact ⟨_, _, ha2, Nat.le_of_ble_eq_true rfl, rfl⟩) (by decide) k_43 (Or.inl rfl) rfl rfl rfl dJx4a65c_add_72be8_19 ?_
    refine x_vret Γ rfl (fun w9 e9 => ?_) ⟨Nat.le_of_ble_eq_true rfl, Nat.le_of_ble_eq_true rfl⟩ dJx4a65c_add_72be8_22
    subst e9
    have he2 : w2 el1 = some (col + 2, .inl (G.2 3, cap, .inr (.inr (.inr (.inr (va_up g len (some x))))))) := by rw [hw2, nI_clamp (by omega)]; exact xu_eq _ _ _
    refine ⟨⟨mc, el1, xu_eq _ _ _, by omega, Or.inr ⟨cap, _, xu_far he2 ha2 (by omega), by omega, h2, by omega, fun i hi => ?_⟩⟩, KpL.set (by rw [hw2]; exact hk1.set he1 (Or.inr rfl)) ha2 (Or.inl rfl)⟩
    show va_up g len (some x) i = some (if i = len then x else f i)
    by_cases hil : i = len
    · rw [if_pos hil, hil]; simp [va_up]
    · rw [if_neg hil, va_up_ne _ _ hil]; exact h4 i (by omega)
  rcases hst with ⟨h0, h1⟩ | ⟨cap, g, he, h1, h2, h3, h4⟩
  · subst h1
    refine x_iload_n Γ dJx4a65c_add_72be8_0 rfl rfl ?_
    refine x_aload_n Γ dJx4a65c_add_72be8_1 rfl rfl ?_
    refine x_slen0 Γ dJx4a65c_add_72be8_2 ?_
    refine x_icmp_ne (tgt := 11) Γ dJx4a65c_add_72be8_3 (by decide) (fun c3 => absurd (by rw [h0]; rfl) c3) (fun c3 => ?_)
    refine x_aload_n Γ dJx4a65c_add_72be8_6 rfl rfl ?_
    refine x_invV (emb := embA) (ci := 0) (rm := ({ frames := 4, cells := 1, slots := 40, locals := 150 } : Room)) Γ [] (fun w q w' => (∃ (cap : Nat) (g' : Nat → Option Nat), w' a = some (col, .inr (0, [.int mc, .ref q, .int (nI len)])) ∧ w' q = some (col + 2, .inl (G.2 3, cap, .inr (.inr (.inr (.inr g'))))) ∧ len < cap ∧ 10 ≤ cap ∧ cap ≤ 40 ∧ ∀ i, i < len → g' i = some (f i)) ∧ KpL col w w') rfl (fun w1 e1 => by subst e1; exact t_grow0 ha (Or.inl ⟨h0, rfl⟩) hel) (xv_obj ha) rfl k_320 k_4 k_317 k_319 s_4 hd_Jx4a65c_grow_d5877 ⟨Nat.le_of_ble_eq_true rfl, Nat.le_of_ble_eq_true rfl⟩ ⟨Nat.le_of_ble_eq_true rfl, Nat.le_of_ble_eq_true rfl⟩ (Nat.le_of_ble_eq_true rfl) dJx4a65c_add_72be8_7 (fun q => ?_)
    refine x_pin (fun w1 hw1 => ?_)
    obtain ⟨w9, h9, ⟨cap', g', ha1, hq1, hc1, hc2, hc3, hg'⟩, hk1⟩ := hw1
    subst h9
    have hx1 : ∃ k1 fs, w1 x = some (k1, .inr (2, fs)) := ⟨_, _, hk1 x _ _ hx hxc.1 hxc.2⟩
    refine x_astore_n Γ dJx4a65c_add_72be8_10 rfl rfl (by decide) ?_
    refine x_lv [0, 1, 2, 3] rfl ?_
    exact tail w1 q cap' g' ha1 hq1 hc1 hc2 (by omega) hg' hk1 hx1
  · by_cases hc : len = cap
    · refine x_iload_n Γ dJx4a65c_add_72be8_0 rfl rfl ?_
      refine x_aload_n Γ dJx4a65c_add_72be8_1 rfl rfl ?_
      refine x_alen Γ (N := cap) (fun w2 e2 => by rw [e2]; exact ⟨_, _, Or.inr (Or.inr he)⟩) dJx4a65c_add_72be8_2 ?_
      refine x_icmp_ne (tgt := 11) Γ dJx4a65c_add_72be8_3 (by decide) (fun c3 => absurd (by rw [hc]) c3) (fun c3 => ?_)
      refine x_aload_n Γ dJx4a65c_add_72be8_6 rfl rfl ?_
      refine x_invV (emb := embA) (ci := 0) (rm := ({ frames := 4, cells := 1, slots := 40, locals := 150 } : Room)) Γ [] (fun w q w' => (∃ (cap : Nat) (g' : Nat → Option Nat), w' a = some (col, .inr (0, [.int mc, .ref q, .int (nI len)])) ∧ w' q = some (col + 2, .inl (G.2 3, cap, .inr (.inr (.inr (.inr g'))))) ∧ len < cap ∧ 10 ≤ cap ∧ cap ≤ 40 ∧ ∀ i, i < len → g' i = some (f i)) ∧ KpL col w w') rfl (fun w1 e1 => by subst e1; exact t_grow0 ha (Or.inr ⟨g, by rw [hc]; exact he, by omega, hlen, h4⟩) hel) (xv_obj ha) rfl k_320 k_4 k_317 k_319 s_4 hd_Jx4a65c_grow_d5877 ⟨Nat.le_of_ble_eq_true rfl, Nat.le_of_ble_eq_true rfl⟩ ⟨Nat.le_of_ble_eq_true rfl, Nat.le_of_ble_eq_true rfl⟩ (Nat.le_of_ble_eq_true rfl) dJx4a65c_add_72be8_7 (fun q => ?_)
      refine x_pin (fun w1 hw1 => ?_)
      obtain ⟨w9, h9, ⟨cap', g', ha1, hq1, hc1, hc2, hc3, hg'⟩, hk1⟩ := hw1
      subst h9
      have hx1 : ∃ k1 fs, w1 x = some (k1, .inr (2, fs)) := ⟨_, _, hk1 x _ _ hx hxc.1 hxc.2⟩
      refine x_astore_n Γ dJx4a65c_add_72be8_10 rfl rfl (by decide) ?_
      refine x_lv [0, 1, 2, 3] rfl ?_
      exact tail w1 q cap' g' ha1 hq1 hc1 hc2 (by omega) hg' hk1 hx1
    · refine x_iload_n Γ dJx4a65c_add_72be8_0 rfl rfl ?_
      refine x_aload_n Γ dJx4a65c_add_72be8_1 rfl rfl ?_
      refine x_alen Γ (N := cap) (fun w2 e2 => by rw [e2]; exact ⟨_, _, Or.inr (Or.inr he)⟩) dJx4a65c_add_72be8_2 ?_
      refine x_icmp_ne (tgt := 11) Γ dJx4a65c_add_72be8_3 (by decide) (fun c3 => ?_) (fun c3 => absurd c3 (fun q => hc ((nI_eq (by omega) (by omega)).mp q)))
      refine x_lv [0, 1, 2, 3] rfl ?_
      refine x_wide (k' := 1) (n' := 40) (Nat.le_of_ble_eq_true rfl) (Nat.le_of_ble_eq_true rfl) ?_
      exact tail w el cap g ha he (by omega) h2 (by omega) h4 KpL.rf ⟨_, _, hx⟩
set_option maxRecDepth 100000 in
theorem t_add {w : xW} {a x col len kx : Nat} {fx : List Value} {f : Nat → Nat} (h : LstAt G w a col len f) (hlen : len ≤ 24) (hel : ∀ i, i < len → ∃ k1 fs, w (f i) = some (k1, .inr (2, fs)) ∧ k1 ≠ col ∧ k1 ≠ col + 2) (hx : w x = some (kx, .inr (2, fx))) (hxc : kx ≠ col ∧ kx ≠ col + 2) : xMet l G yJx4a65c_add_9ea2d cJx4a65c_add_9ea2d 2 (some .boolean) ({ frames := 6, cells := 1, slots := 40, locals := 205 } : Room) [.ref a, .ref x] w embI (fun _ w' => LstAt G w' a col (len + 1) (fun i => if i = len then x else f i) ∧ KpL col w w') := by
  obtain ⟨mc, el, ha, h900, hst⟩ := h
  refine xMet_of (by decide) (Nat.le_of_ble_eq_true rfl) ?_
  intro p e s m below meth c Γ hnm
  refine x_aload_n Γ dJx4a65c_add_9ea2d_0 rfl rfl ?_
  refine x_dup Γ dJx4a65c_add_9ea2d_1 rfl ?_
  refine x_getf Γ kl0 0 (xv_get ha rfl) (by decide) k_45 (Or.inr k_46) dJx4a65c_add_9ea2d_2 ?_
  refine x_iconst (v := 1) Γ dJx4a65c_add_9ea2d_5 (by decide) ?_
  refine x_iadd Γ dJx4a65c_add_9ea2d_6 ?_
  refine x_putf (P' := fun w1 => w1 = xu w a (col, .inr (0, [.int (mc + 1), .ref el, .int (nI len)]))) Γ kl0 0 (fun w9 e9 => by rw [e9]; exact ⟨_, _, ha, Nat.le_of_ble_eq_true rfl, rfl⟩) (by decide) k_45 (Or.inr k_46) rfl rfl rfl dJx4a65c_add_9ea2d_7 ?_
  refine x_pin (fun w1 hw1 => ?_)
  have ha1 : w1 a = some (col, .inr (0, [.int (mc + 1), .ref el, .int (nI len)])) := by rw [hw1]; exact xu_eq _ _ _
  have hk1 : KpL col w w1 := by rw [hw1]; exact KpL.rf.set ha (Or.inl rfl)
  refine x_aload_n Γ dJx4a65c_add_9ea2d_10 rfl rfl ?_
  refine x_aload_n Γ dJx4a65c_add_9ea2d_11 rfl rfl ?_
  refine x_aload_n Γ dJx4a65c_add_9ea2d_12 rfl rfl ?_
  refine x_getf Γ kl0 1 (xv_get ha1 rfl) (by decide) k_42 (Or.inl rfl) dJx4a65c_add_9ea2d_13 ?_
  refine x_aload_n Γ dJx4a65c_add_9ea2d_16 rfl rfl ?_
  refine x_getf Γ kl0 2 (xv_get ha1 rfl) (by decide) k_43 (Or.inl rfl) dJx4a65c_add_9ea2d_17 ?_
  refine x_invV (emb := embV) (ci := 0) (rm := ({ frames := 5, cells := 1, slots := 40, locals := 175 } : Room)) Γ [.ref x, .ref el, .int (nI len)] (fun w _ w' => LstAt G w' a col (len + 1) (fun i => if i = len then x else f i) ∧ KpL col w w') rfl (fun w9 e9 => by rw [e9]; exact t_add3 ha1 hlen (by rcases hst with h | ⟨cap, g, he, h1, h2, h3, h4⟩; exact Or.inl h; exact Or.inr ⟨cap, g, by rw [hw1]; exact xu_far he ha (by omega), h1, h2, h3, h4⟩) (fun i hi => by obtain ⟨k1, fs, h9, h8⟩ := hel i hi; exact ⟨_, _, hk1 _ _ _ h9 h8.1 h8.2⟩) (hk1 _ _ _ hx hxc.1 hxc.2) hxc) (xv_obj ha1) rfl k_316 k_4 k_313 k_315 s_3 hd_Jx4a65c_add_72be8 ⟨Nat.le_of_ble_eq_true rfl, Nat.le_of_ble_eq_true rfl⟩ ⟨Nat.le_of_ble_eq_true rfl, Nat.le_of_ble_eq_true rfl⟩ (Nat.le_of_ble_eq_true rfl) dJx4a65c_add_9ea2d_20 (fun _ => ?_)
  refine x_weak (P' := fun w' => LstAt G w' a col (len + 1) (fun i => if i = len then x else f i) ∧ KpL col w w') (fun w2 h2 => by obtain ⟨w3, h3, h4, h5⟩ := h2; subst h3; exact ⟨h4, hk1.tr h5⟩) ?_
  refine x_iconst (v := 1) Γ dJx4a65c_add_9ea2d_23 (by decide) ?_
  exact x_iret Γ rfl rfl (fun w2 e2 => e2) ⟨Nat.le_of_ble_eq_true rfl, Nat.le_of_ble_eq_true rfl⟩ dJx4a65c_add_9ea2d_24
end XJ3
end
section
section XJ4
variable {l : Launch} {G : xG}
set_option maxRecDepth 100000 in
theorem t_fastRemove {w : xW} {a el col len cap i : Nat} {mc : Int32} {g : Nat → Option Nat} {f : Nat → Nat} (ha : w a = some (col, .inr (0, [.int mc, .ref el, .int (nI len)]))) (he : w el = some (col + 2, .inl (G.2 3, cap, .inr (.inr (.inr (.inr g)))))) (h1 : len ≤ cap) (h2 : 10 ≤ cap) (h3 : cap ≤ 900) (h4 : ∀ j, j < len → g j = some (f j)) (hel : ∀ j, j < len → ∃ k1 fs, w (f j) = some (k1, .inr (2, fs)) ∧ k1 ≠ col ∧ k1 ≠ col + 2) (hi : i < len) : xMet l G yJx4a65c_fastRemove_b59b0 cJx4a65c_fastRemove_b59b0 4 none ({ frames := 1, cells := 0, slots := 0, locals := 45 } : Room) [.ref a, .ref el, .int (nI i)] w embV (fun _ w' => LstAt G w' a col (len - 1) (fun j => if j < i then f j else f (j + 1)) ∧ KpL col w w') := by
  refine xMet_of (by decide) (Nat.le_of_ble_eq_true rfl) ?_
  intro p e s m below meth c Γ hnm
  have hs1 : nI len - 1 = nI (len - 1) := by
    have h9 := nI_pred (len - 1)
    rw [show len - 1 + 1 = len by omega] at h9
    exact h9
  have tail : ∀ (w2 : xW) (g2 : Nat → Option Nat), w2 a = some (col, .inr (0, [.int (mc + 1), .ref el, .int (nI len)])) → w2 el = some (col + 2, .inl (G.2 3, cap, .inr (.inr (.inr (.inr g2))))) → (∀ j, j < len - 1 → g2 j = some (if j < i then f j else f (j + 1))) → KpL col w w2 → xJ p l e ({ frames := 1, cells := 0, slots := 0, locals := 45 } : Room) s m ([.ref a, .ref el, .int (nI i)] : List Value).toArray below meth c G 4 (MQ below (xQ G embV (fun _ w' => LstAt G w' a col (len - 1) (fun j => if j < i then f j else f (j + 1)) ∧ KpL col w w')) ([.ref a, .ref el, .int (nI i)] : List Value).toArray s ({ frames := 1, cells := 0, slots := 0, locals := 45 } : Room).cells ({ frames := 1, cells := 0, slots := 0, locals := 45 } : Room).slots (xA G)) (fun w9 => w9 = w2) 0 0 34 [(0, .ref a), (1, .ref el), (2, .int (nI i)), (3, .int (nI (len - 1)))] [] := by
    intro w2 g2 ha2 he2 h5 hk2
    refine x_aload_n Γ dJx4a65c_fastRemove_b59b0_34 rfl rfl ?_
    refine x_aload_n Γ dJx4a65c_fastRemove_b59b0_35 rfl rfl ?_
    refine x_iload_n Γ dJx4a65c_fastRemove_b59b0_36 rfl rfl ?_
    refine x_dup_x1 Γ dJx4a65c_fastRemove_b59b0_37 rfl rfl ?_
    refine x_putf (P' := fun w3 => w3 = xu w2 a (col, .inr (0, [.int (mc + 1), .ref el, .int (nI (len - 1))]))) Γ kl0 2 (fun w9 e9 => by rw [e9]; exact ⟨_, _, ha2, Nat.le_of_ble_eq_true rfl, rfl⟩) (by decide) k_43 (Or.inl rfl) rfl rfl rfl dJx4a65c_fastRemove_b59b0_38 ?_
    refine x_pin (fun w3 hw3 => ?_)
    have he3 : w3 el = some (col + 2, .inl (G.2 3, cap, .inr (.inr (.inr (.inr g2))))) := by rw [hw3]; exact xu_far he2 ha2 (by omega)
    refine x_null Γ dJx4a65c_fastRemove_b59b0_41 ?_
    refine x_aastN (P' := fun w4 => w4 = xu w3 el (col + 2, .inl (G.2 3, cap, .inr (.inr (.inr (.inr (va_up g2 (nI (len - 1)).toNatClampNeg none))))))) Γ (fun w9 e9 => by rw [e9]; exact ⟨_, he3, rfl⟩) (vp_in_nI (by omega) (by omega)) dJx4a65c_fastRemove_b59b0_42 ?_
    refine x_vret Γ rfl (fun w9 e9 => ?_) ⟨Nat.le_of_ble_eq_true rfl, Nat.le_of_ble_eq_true rfl⟩ dJx4a65c_fastRemove_b59b0_43
    subst e9
    have ha3 : w3 a = some (col, .inr (0, [.int (mc + 1), .ref el, .int (nI (len - 1))])) := by rw [hw3]; exact xu_eq _ _ _
    refine ⟨⟨mc + 1, el, xu_far ha3 he3 (by omega), by omega, Or.inr ⟨cap, _, xu_eq _ _ _, by omega, h2, h3, fun j hj => ?_⟩⟩, KpL.set (by rw [hw3]; exact hk2.set ha2 (Or.inl rfl)) he3 (Or.inr rfl)⟩
    rw [nI_clamp (by omega), va_up_ne _ _ (by omega)]
    exact h5 j hj
  refine x_aload_n Γ dJx4a65c_fastRemove_b59b0_0 rfl rfl ?_
  refine x_dup Γ dJx4a65c_fastRemove_b59b0_1 rfl ?_
  refine x_getf Γ kl0 0 (xv_get ha rfl) (by decide) k_45 (Or.inr k_46) dJx4a65c_fastRemove_b59b0_2 ?_
  refine x_iconst (v := 1) Γ dJx4a65c_fastRemove_b59b0_5 (by decide) ?_
  refine x_iadd Γ dJx4a65c_fastRemove_b59b0_6 ?_
  refine x_putf (P' := fun w1 => w1 = xu w a (col, .inr (0, [.int (mc + 1), .ref el, .int (nI len)]))) Γ kl0 0 (fun w9 e9 => by rw [e9]; exact ⟨_, _, ha, Nat.le_of_ble_eq_true rfl, rfl⟩) (by decide) k_45 (Or.inr k_46) rfl rfl rfl dJx4a65c_fastRemove_b59b0_7 ?_
  refine x_pin (fun w1 hw1 => ?_)
  have ha1 : w1 a = some (col, .inr (0, [.int (mc + 1), .ref el, .int (nI len)])) := by rw [hw1]; exact xu_eq _ _ _
  have he1 : w1 el = some (col + 2, .inl (G.2 3, cap, .inr (.inr (.inr (.inr g))))) := by rw [hw1]; exact xu_far he ha (by omega)
  have hk1 : KpL col w w1 := by rw [hw1]; exact KpL.rf.set ha (Or.inl rfl)
  refine x_aload_n Γ dJx4a65c_fastRemove_b59b0_10 rfl rfl ?_
  refine x_getf Γ kl0 2 (xv_get ha1 rfl) (by decide) k_43 (Or.inl rfl) dJx4a65c_fastRemove_b59b0_11 ?_
  refine x_iconst (v := 1) Γ dJx4a65c_fastRemove_b59b0_14 (by decide) ?_
  refine x_isub Γ dJx4a65c_fastRemove_b59b0_15 ?_
  rw [hs1]
  refine x_dup Γ dJx4a65c_fastRemove_b59b0_16 rfl ?_
  refine x_istore_n Γ dJx4a65c_fastRemove_b59b0_17 rfl rfl (by decide) ?_
  refine x_iload_n Γ dJx4a65c_fastRemove_b59b0_18 rfl rfl ?_
  refine x_icmp_le (tgt := 34) Γ dJx4a65c_fastRemove_b59b0_19 (by decide) (fun c19 => ?_) (fun c19 => ?_)
  · have h9 : len - 1 ≤ i := (nI_leI (by omega) (by omega)).mp c19
    refine x_lv [0, 1, 2, 3] rfl ?_
    exact tail w1 g ha1 he1 (fun j hj => by rw [if_pos (by omega)]; exact h4 j (by omega)) hk1
  · have h9 : ¬ len - 1 ≤ i := fun q => c19 ((nI_leI (by omega) (by omega)).mpr q)
    refine x_aload_n Γ dJx4a65c_fastRemove_b59b0_22 rfl rfl ?_
    refine x_iload_n Γ dJx4a65c_fastRemove_b59b0_23 rfl rfl ?_
    refine x_iconst (v := 1) Γ dJx4a65c_fastRemove_b59b0_24 (by decide) ?_
    refine x_iadd Γ dJx4a65c_fastRemove_b59b0_25 ?_
    rw [nI_1]
    refine x_aload_n Γ dJx4a65c_fastRemove_b59b0_26 rfl rfl ?_
    refine x_iload_n Γ dJx4a65c_fastRemove_b59b0_27 rfl rfl ?_
    refine x_iload_n Γ dJx4a65c_fastRemove_b59b0_28 rfl rfl ?_
    refine x_iload_n Γ dJx4a65c_fastRemove_b59b0_29 rfl rfl ?_
    refine x_isub Γ dJx4a65c_fastRemove_b59b0_30 ?_
    rw [pk_sub (by omega)]
    refine x_copy (P' := fun w2 => w2 = xu w1 el (col + 2, .inl (G.2 3, cap, .inr (.inr (.inr (.inr (va_cpy g g (nI (i + 1)).toNatClampNeg (nI i).toNatClampNeg (nI (len - 1 - i)).toNatClampNeg))))))) Γ k_418 k_361 k_360 k_18 (fun w9 e9 => by rw [e9]; exact ⟨_, _, he1, he1, rfl⟩) (nI_pos (by omega)) (nI_pos (by omega)) (nI_pos (by omega)) (by rw [nI_clamp (by omega), nI_clamp (by omega)]; omega) (by rw [nI_clamp (by omega), nI_clamp (by omega)]; omega) (fun w9 e9 j hj y hy => ?_) ⟨Nat.le_of_ble_eq_true rfl, Nat.le_of_ble_eq_true rfl⟩ dJx4a65c_fastRemove_b59b0_31 ?_
    · rw [nI_clamp (by omega)] at hy hj
      rw [h4 (i + 1 + j) (by omega)] at hy
      cases hy
      obtain ⟨k1, fs, h8, h7⟩ := hel (i + 1 + j) (by omega)
      rw [e9]
      exact ⟨k1, 2, fs, hk1 _ _ _ h8 h7.1 h7.2, _, rfl, xK_cast⟩
    refine x_pin (fun w2 hw2 => ?_)
    rw [nI_clamp (by omega), nI_clamp (by omega), nI_clamp (by omega)] at hw2
    refine x_lv [0, 1, 2, 3] rfl ?_
    refine tail w2 _ (by rw [hw2]; exact xu_far ha1 he1 (by omega)) (by rw [hw2]; exact xu_eq _ _ _) (fun j hj => ?_) (by rw [hw2]; exact hk1.set he1 (Or.inr rfl))
    by_cases hji : j < i
    · rw [pk_cpy_out (Or.inl hji), if_pos hji]; exact h4 j (by omega)
    · rw [pk_cpy_in (by omega) (by omega), if_neg hji, show i + 1 + (j - i) = j + 1 by omega]; exact h4 (j + 1) (by omega)
set_option maxRecDepth 100000 in
theorem t_remove {w : xW} {a col len i : Nat} {f : Nat → Nat} (h : LstAt G w a col len f) (hel : ∀ j, j < len → ∃ k1 fs, w (f j) = some (k1, .inr (2, fs)) ∧ k1 ≠ col ∧ k1 ≠ col + 2) (hi : i < len) : xMet l G yJx4a65c_remove_915e3 cJx4a65c_remove_915e3 4 (some (.object "java/lang/Object")) ({ frames := 2, cells := 0, slots := 0, locals := 70 } : Room) [.ref a, .int (nI i)] w embA (fun r w' => r = f i ∧ LstAt G w' a col (len - 1) (fun j => if j < i then f j else f (j + 1)) ∧ KpL col w w') := by
  obtain ⟨mc, el, ha, h900, h | ⟨cap, g, he, h1, h2, h3, h4⟩⟩ := h
  · omega
  · refine xMet_of (by decide) (Nat.le_of_ble_eq_true rfl) ?_
    intro p e s m below meth c Γ hnm
    refine x_iload_n Γ dJx4a65c_remove_915e3_0 rfl rfl ?_
    refine x_aload_n Γ dJx4a65c_remove_915e3_1 rfl rfl ?_
    refine x_getf Γ kl0 2 (xv_get ha rfl) (by decide) k_43 (Or.inl rfl) dJx4a65c_remove_915e3_2 ?_
    refine x_invS (emb := embI) (rm := ({ frames := 1, cells := 0, slots := 0, locals := 22 } : Room)) Γ [.int (nI i), .int (nI len)] (fun w r w' => r = nI i ∧ w' = w) rfl (fun w _ => t_J15 hi (by omega)) k_212 k_11 k_210 k_211 hd_J15_checkIndex_7cf53 ⟨Nat.le_of_ble_eq_true rfl, Nat.le_of_ble_eq_true rfl⟩ ⟨Nat.le_of_ble_eq_true rfl, Nat.le_of_ble_eq_true rfl⟩ (Nat.le_of_ble_eq_true rfl) dJx4a65c_remove_915e3_5 (fun r => ?_)
    refine x_then (P2 := fun w1 => w1 = w) (φ := r = nI i) (fun w2 h2 => by obtain ⟨w3, h3, h4, h5⟩ := h2; subst h5; exact ⟨h4, h3⟩) (fun e1 => ?_)
    subst e1
    refine x_pop Γ dJx4a65c_remove_915e3_8 rfl ?_
    refine x_aload_n Γ dJx4a65c_remove_915e3_9 rfl rfl ?_
    refine x_getf Γ kl0 1 (xv_get ha rfl) (by decide) k_42 (Or.inl rfl) dJx4a65c_remove_915e3_10 ?_
    refine x_astore_n Γ dJx4a65c_remove_915e3_13 rfl rfl (by decide) ?_
    refine x_aload_n Γ dJx4a65c_remove_915e3_14 rfl rfl ?_
    refine x_iload_n Γ dJx4a65c_remove_915e3_15 rfl rfl ?_
    refine x_aald Γ (xv_arr he) (vp_in_nI (by omega) (by omega)) (b := f i) (by rw [nI_clamp (by omega)]; exact h4 i hi) dJx4a65c_remove_915e3_16 ?_
    refine x_astore_n Γ dJx4a65c_remove_915e3_17 rfl rfl (by decide) ?_
    refine x_aload_n Γ dJx4a65c_remove_915e3_18 rfl rfl ?_
    refine x_aload_n Γ dJx4a65c_remove_915e3_19 rfl rfl ?_
    refine x_iload_n Γ dJx4a65c_remove_915e3_20 rfl rfl ?_
    refine x_invV (emb := embV) (ci := 0) (rm := ({ frames := 1, cells := 0, slots := 0, locals := 45 } : Room)) Γ [.ref el, .int (nI i)] (fun w _ w' => LstAt G w' a col (len - 1) (fun j => if j < i then f j else f (j + 1)) ∧ KpL col w w') rfl (fun w1 e1 => by subst e1; exact t_fastRemove ha he h1 h2 h3 h4 hel hi) (xv_obj ha) rfl k_417 k_4 k_414 k_416 s_11 hd_Jx4a65c_fastRemove_b59b0 ⟨Nat.le_of_ble_eq_true rfl, Nat.le_of_ble_eq_true rfl⟩ ⟨Nat.le_of_ble_eq_true rfl, Nat.le_of_ble_eq_true rfl⟩ (Nat.le_of_ble_eq_true rfl) dJx4a65c_remove_915e3_21 (fun _ => ?_)
    refine x_weak (P' := fun w' => LstAt G w' a col (len - 1) (fun j => if j < i then f j else f (j + 1)) ∧ KpL col w w') (fun w2 h2 => by obtain ⟨w3, h3, h4⟩ := h2; subst h3; exact h4) ?_
    refine x_aload_n Γ dJx4a65c_remove_915e3_24 rfl rfl ?_
    exact x_aret Γ rfl (Or.inl ⟨_, rfl⟩) (fun w2 e2 => ⟨rfl, e2⟩) ⟨Nat.le_of_ble_eq_true rfl, Nat.le_of_ble_eq_true rfl⟩ dJx4a65c_remove_915e3_25
end XJ4
end
section
section XMD
/-! the reference's state: A j i is place i of its field j; L the wishes, in order -/
abbrev xS : Type := Nat → Nat → Int32
def mU (A : xS) (j i : Nat) (v : Int32) : xS := fun j' i' => if j' = j ∧ i' = i then v else A j' i'
theorem mU_eq (A : xS) (j i : Nat) (v : Int32) : mU A j i v j i = v := if_pos ⟨rfl, rfl⟩
theorem mU_j {A : xS} {j i j' : Nat} {v : Int32} (h : j' ≠ j) : mU A j i v j' = A j' := funext fun i' => if_neg (fun q => h q.1)
theorem mU_i {A : xS} {j i j' i' : Nat} {v : Int32} (h : i' ≠ i) : mU A j i v j' i' = A j' i' := if_neg (fun q => h q.2)
theorem mU_row {A : xS} {j i : Nat} {v : Int32} : mU A j i v j = upd (A j) i v := funext fun i' => by
  by_cases h : i' = i
  · subst h; rw [mU_eq]; simp [upd]
  · rw [mU_i h]; simp [upd, h]
def mFs (ad : Nat → Nat) (f : Nat → Int32) : List Value := [.ref (ad 0), .int (f 1), .ref (ad 2), .int (f 3), .int (f 4), .int (f 5), .ref (ad 6), .ref (ad 7), .ref (ad 8), .ref (ad 9), .ref (ad 10), .ref (ad 11), .ref (ad 12), .ref (ad 13), .ref (ad 14), .ref (ad 15), .ref (ad 16), .int (f 17), .ref (ad 18), .int (f 19)]
def mArr (j : Nat) : Bool := j == 0 || j == 2 || (Nat.ble 6 j && Nat.ble j 16) || j == 18
def mlen (j : Nat) : Nat := if j = 0 then 5 else if j = 2 then 8 else if j = 18 then 24048 else 24
theorem mlen_lt (j : Nat) : mlen j < 2 ^ 31 := by
  simp only [mlen]
  repeat' split
  all_goals omega
/-- the reference's cells, plainly -/
def MdlAt (G : xG) (w : xW) (o : Nat) (ad : Nat → Nat) (M : xS) : Prop :=
  w o = some (10, .inr (4, mFs ad (fun j => M j 0))) ∧ ∀ j, mArr j = true → w (ad j) = some (20 + j, .inl (G.2 1, mlen j, .inl (M j)))
/-- .. and with its wishes as a list -/
def MRep (G : xG) (w : xW) (o : Nat) (ad : Nat → Nat) (A : xS) (L : List Nat) : Prop :=
  ∃ M : xS, MdlAt G w o ad M ∧ (∀ j, j ≠ 16 → j ≠ 17 → M j = A j) ∧ M 17 0 = nI L.length ∧ ∀ (i t : Nat), L[i]? = some t → M 16 i = nI t
/-- what is not the reference's stays -/
def KpM (w w' : xW) : Prop := ∀ (b k : Nat) (e : va_E), w b = some (k, e) → k < 10 ∨ 60 ≤ k → w' b = some (k, e)
theorem KpM.rf {w : xW} : KpM w w := fun _ _ _ h _ => h
theorem KpM.tr {w w1 w2 : xW} (h : KpM w w1) (h2 : KpM w1 w2) : KpM w w2 := fun b k e hb h3 => h2 b k e (h b k e hb h3) h3
theorem KpM.set {w w1 : xW} (h : KpM w w1) {a k : Nat} {e0 : va_E} {x : Nat × va_E} (ha : w1 a = some (k, e0)) (hk : 10 ≤ k ∧ k < 60) : KpM w (xu w1 a x) := fun b j e hb h3 => xu_far (h b j e hb h3) ha (by omega)
theorem MdlAt.put {G : xG} {w : xW} {o : Nat} {ad : Nat → Nat} {M : xS} (h : MdlAt G w o ad M) {j : Nat} {x : Int32} (hj : mArr j = false) (hs : (mFs ad (fun j => M j 0)).set j (.int x) = mFs ad (fun i => if i = j then x else M i 0)) : MdlAt G (xu w o (10, .inr (4, (mFs ad (fun j => M j 0)).set j (.int x)))) o ad (mU M j 0 x) := by
  refine ⟨?_, fun i hi => ?_⟩
  · rw [xu_eq, hs]
    have e : (fun i => if i = j then x else M i 0) = fun i => mU M j 0 x i 0 := funext fun i => by
      by_cases hij : i = j
      · subst hij; rw [mU_eq, if_pos rfl]
      · rw [mU_j hij, if_neg hij]
    rw [e]
  · have hij : i ≠ j := fun q => by rw [q, hj] at hi; cases hi
    rw [mU_j hij]
    exact xu_far (h.2 i hi) h.1 (by omega)
theorem MdlAt.ast {G : xG} {w : xW} {o : Nat} {ad : Nat → Nat} {M : xS} (h : MdlAt G w o ad M) {j i : Nat} {x : Int32} (hj : mArr j = true) : MdlAt G (xu w (ad j) (20 + j, .inl (G.2 1, mlen j, .inl (upd (M j) i x)))) o ad (mU M j i x) := by
  refine ⟨?_, fun j2 hj2 => ?_⟩
  · have e : (fun q => mU M j i x q 0) = fun q => if q = j then mU M j i x j 0 else M q 0 := funext fun q => by
      by_cases hq : q = j
      · subst hq; rw [if_pos rfl]
      · rw [mU_j hq, if_neg hq]
    have e2 : mFs ad (fun q => mU M j i x q 0) = mFs ad (fun q => M q 0) := by
      have hne : ∀ q, mArr q = false → mU M j i x q 0 = M q 0 := fun q hq => by rw [mU_j (fun z => by rw [z, hj] at hq; cases hq)]
      simp only [mFs]
      rw [hne 1 rfl, hne 3 rfl, hne 4 rfl, hne 5 rfl, hne 17 rfl, hne 19 rfl]
    rw [e2]
    exact xu_far h.1 (h.2 j hj) (by omega)
  · by_cases hq : j2 = j
    · subst hq
      rw [xu_eq, mU_row]
    · rw [mU_j hq]
      exact xu_far (h.2 j2 hj2) (h.2 j hj) (by omega)
def mP (G : xG) (o : Nat) (ad : Nat → Nat) (A : xS) (L : List Nat) (w0 : xW) : xW → Prop := fun w => MRep G w o ad A L ∧ KpM w0 w
variable {p : Program} {l : Launch} {e : Env} {R : Room} {s : State} {m : MethodId} {args : Array Value} {below : List Frame} {meth : Method} {c : Code} {G : xG} {cc : ByteArray} {nL : Nat} {own : String} {rt : Option FieldType} {Q : State → Prop} {P P' : xW → Prop} {k n pc : Nat} {lv : List (Nat × Value)} {st : List Value}
variable {o : Nat} {ad : Nat → Nat} {A M : xS} {L : List Nat} {w0 : xW}
theorem MRep.obj {w : xW} (h : MRep G w o ad A L) : ∃ k0 fs, w o = some (k0, .inr (4, fs)) := by
  obtain ⟨M, h1, -⟩ := h
  exact ⟨_, _, h1.1⟩
theorem m_obj : ∀ w, mP G o ad A L w0 w → ∃ k0 fs, w o = some (k0, .inr (4, fs)) := fun w h => h.1.obj
theorem m_ald (Γ : xC p s m meth c G cc nL own rt) {j t : Nat} {i : Int32} (hi : i = nI t) (hj : mArr j = true) (h16 : j ≠ 16) (ht : t < mlen j) (hd : decode cc pc = .ok (.iaload, 1))
    (kk : xJ p l e R s m args below meth c G nL Q (mP G o ad A L w0) k n (pc + 1) lv (.int (A j t) :: st)) : xJ p l e R s m args below meth c G nL Q (mP G o ad A L w0) k n pc lv (.int i :: .ref (ad j) :: st) := by
  have hm : mlen j < 2 ^ 31 := mlen_lt j
  subst hi
  refine x_iald (N := mlen j) (f := A j) Γ (fun w h => ?_) (vp_in_nI ht hm) (by rw [nI_clamp (by omega)]) hd kk
  obtain ⟨⟨M, h1, h2, -⟩, -⟩ := h
  have h17 : j ≠ 17 := fun q => by subst q; cases hj
  exact ⟨_, by rw [← h2 j h16 h17]; exact h1.2 j hj⟩
theorem m_aldw (Γ : xC p s m meth c G cc nL own rt) {i t : Nat} (hi : L[i]? = some t) (hlen : L.length ≤ 24) (hd : decode cc pc = .ok (.iaload, 1))
    (kk : xJ p l e R s m args below meth c G nL Q (mP G o ad A L w0) k n (pc + 1) lv (.int (nI t) :: st)) : xJ p l e R s m args below meth c G nL Q (mP G o ad A L w0) k n pc lv (.int (nI i) :: .ref (ad 16) :: st) := fun w H locs ls hp hh hs hl => by
  obtain ⟨⟨M, h1, h2, h3, h4⟩, h5⟩ := hp
  have hlt : i < L.length := (List.getElem?_eq_some_iff.mp hi).1
  exact x_iald (P := fun w1 => w1 = w) (N := 24) (f := M 16) (x := nI t) Γ (fun w1 e1 => by rw [e1]; exact ⟨_, h1.2 16 rfl⟩) (vp_in_nI (by omega) (by omega)) (by rw [nI_clamp (by omega)]; exact h4 i t hi) hd (fun w1 H locs ls e1 => by subst e1; exact kk w1 H locs ls ⟨⟨M, h1, h2, h3, h4⟩, h5⟩) w H locs ls rfl hh hs hl
theorem MRep.put {w : xW} (h : MRep G w o ad A L) {j : Nat} {x : Int32} (hj : mArr j = false) (h17 : j ≠ 17) (hs : ∀ f : Nat → Int32, (mFs ad f).set j (.int x) = mFs ad (fun i => if i = j then x else f i)) : ∃ fs, w o = some (10, .inr (4, fs)) ∧ fs.length = 20 ∧ MRep G (xu w o (10, .inr (4, fs.set j (.int x)))) o ad (mU A j 0 x) L := by
  obtain ⟨M, h1, h2, h3, h4⟩ := h
  refine ⟨_, h1.1, rfl, mU M j 0 x, h1.put hj (hs _), fun i h5 h6 => ?_, ?_, fun i t hi => ?_⟩
  · by_cases hij : i = j
    · subst hij
      rw [mU_row, mU_row, h2 i h5 h6]
    · rw [mU_j hij, mU_j hij, h2 i h5 h6]
  · rw [mU_j (Ne.symm h17)]; exact h3
  · rw [mU_j (fun q => by rw [← q] at hj; cases hj)]; exact h4 i t hi
theorem MRep.ast {w : xW} (h : MRep G w o ad A L) {j i : Nat} {x : Int32} (hj : mArr j = true) (h16 : j ≠ 16) : w (ad j) = some (20 + j, .inl (G.2 1, mlen j, .inl (A j))) ∧ MRep G (xu w (ad j) (20 + j, .inl (G.2 1, mlen j, .inl (upd (A j) i x)))) o ad (mU A j i x) L := by
  obtain ⟨M, h1, h2, h3, h4⟩ := h
  have h17 : j ≠ 17 := fun q => by subst q; cases hj
  have e : M j = A j := h2 j h16 h17
  refine ⟨by rw [← e]; exact h1.2 j hj, mU M j i x, by rw [← e]; exact h1.ast hj, fun i2 h5 h6 => ?_, ?_, fun i2 t hi => ?_⟩
  · by_cases hij : i2 = j
    · subst hij
      rw [mU_row, mU_row, h2 i2 h5 h6]
    · rw [mU_j hij, mU_j hij, h2 i2 h5 h6]
  · rw [mU_j (Ne.symm h17)]; exact h3
  · rw [mU_j (Ne.symm h16)]; exact h4 i2 t hi
theorem m_ast (Γ : xC p s m meth c G cc nL own rt) {j t : Nat} {i x : Int32} (hi : i = nI t) (hj : mArr j = true) (h16 : j ≠ 16) (ht : t < mlen j) (hd : decode cc pc = .ok (.iastore, 1))
    (kk : xJ p l e R s m args below meth c G nL Q (mP G o ad (mU A j t x) L w0) k n (pc + 1) lv st) : xJ p l e R s m args below meth c G nL Q (mP G o ad A L w0) k n pc lv (.int x :: .int i :: .ref (ad j) :: st) := by
  have hm : mlen j < 2 ^ 31 := mlen_lt j
  have hb : 20 + j < 60 := by
    have : j ≤ 18 := by
      simp only [mArr, Bool.or_eq_true, Bool.and_eq_true, beq_iff_eq] at hj
      rcases hj with ((h | h) | h) | h
      · omega
      · omega
      · have := Nat.le_of_ble_eq_true h.2; omega
      · omega
    omega
  subst hi
  refine x_iast (N := mlen j) (f := A j) Γ (fun w h => ?_) (vp_in_nI ht hm) hd kk
  obtain ⟨h2, h3⟩ := h.1.ast (i := t) (x := x) hj h16
  refine ⟨_, h2, ?_⟩
  rw [nI_clamp (by omega)]
  exact ⟨h3, h.2.set h2 (by omega)⟩
end XMD
end
section
section XSP
/-! what each call does to the reference's state: the code that is thrown (k..), then result, state, wishes (g..) -/
def bq (p : Prop) (r : Int32) : Prop := (p ∧ r = 1) ∨ (¬ p ∧ r = 0)
theorem bq.ne {p : Prop} {r : Int32} (h : bq p r) (c : ¬ r = 0) : p := by
  rcases h with h | h
  · exact h.1
  · exact absurd h.2 c
theorem bq.eq {p : Prop} {r : Int32} (h : bq p r) (c : r = 0) : ¬ p := by
  rcases h with h | h
  · rw [h.2] at c; exact absurd c (by decide)
  · exact h.1
theorem bq.one {p : Prop} {r : Int32} (h : bq p r) (hp : p) : ¬ r = 0 := by
  rcases h with h | h
  · rw [h.2]; decide
  · exact absurd hp h.1
theorem bq.zero {p : Prop} {r : Int32} (h : bq p r) (hp : ¬ p) : r = 0 := by
  rcases h with h | h
  · exact absurd h.1 hp
  · exact h.2
theorem bq.iff {p q : Prop} {r : Int32} (h : bq p r) (e : p ↔ q) : bq q r := by
  rcases h with h | h
  · exact Or.inl ⟨e.mp h.1, h.2⟩
  · exact Or.inr ⟨fun z => h.1 (e.mpr z), h.2⟩
theorem bq.nr {p : Prop} {r : Int32} (h : bq p r) : narrow .boolean (.int r) = .int r := by
  rcases h with h | h
  · rw [h.2]; rfl
  · rw [h.2]; rfl
abbrev rIn (lo hi x : Int32) : Prop := lo ≤ x ∧ x ≤ hi
def ix (x : Int32) : Nat := x.toNatClampNeg
theorem ixn {t : Nat} (h : t < 24) : ix (nI t) = t := nI_clamp (by omega)
theorem ixn2 {t : Nat} (h : t < 100000) : ix (nI t) = t := nI_clamp (by omega)
theorem rIn_nat {x M : Int32} {n : Nat} (hM : M.toInt = n) (h : rIn 0 M x) : ∃ j : Nat, j ≤ n ∧ x = nI j := nI_of2 hM (Int32.not_lt.mpr h.1) h.2
theorem nI_m1 {n : Nat} (h : 0 < n) : nI n - 1 = nI (n - 1) := by
  have h9 := nI_pred (n - 1)
  rw [show n - 1 + 1 = n by omega] at h9
  exact h9
theorem nI_mul (a b : Nat) : nI a * nI b = nI (a * b) := (Int32.ofNat_mul a b).symm
theorem nI_int {n : Nat} (h : n < 2 ^ 31) : (nI n).toInt = n := nI_toInt h
theorem rT_nat {x : Int32} {n : Nat} (hn : n < 100000) (h : rIn 0 (nI n - 1) x) : ∃ j : Nat, j < n ∧ x = nI j := by
  by_cases h0 : n = 0
  · subst h0
    obtain ⟨h1, h2⟩ := h
    exact absurd (Int32.le_trans h1 h2) (by decide)
  · rw [nI_m1 (by omega)] at h
    obtain ⟨j, h1, h2⟩ := rIn_nat (nI_int (by omega)) h
    exact ⟨j, by omega, h2⟩
theorem rT_of {j n : Nat} (hn : n < 100000) (h : j < n) : rIn 0 (nI n - 1) (nI j) := by
  rw [nI_m1 (by omega)]
  exact ⟨nI_pos' (by omega), nI_le (by omega) (by omega)⟩
abbrev xR : Type := Int32 × xS × List Nat
def fin (k : Int32) (A : xS) (L : List Nat) (b : xR) : xR := if k = 0 then b else (0, mU A 19 0 k, L)
theorem fin_ok {k : Int32} {A : xS} {L : List Nat} {b : xR} (h : k = 0) : fin k A L b = b := if_pos h
theorem fin_no {k j : Int32} {A : xS} {L : List Nat} {b : xR} (h : k = j) (hj : ¬ j = 0) : fin k A L b = (0, mU A 19 0 j, L) := by
  subst h
  exact if_neg hj
abbrev kT (A : xS) (x : Int32) : Prop := rIn 0 (A 5 0 - 1) x
def ldF (A : xS) (c : Int32) : Nat → Int32
  | 0 => 0
  | t + 1 => ldF A c t + (if A 9 t = c then A 7 t else 0)
def fFor (t : Nat) (L : List Nat) : List Nat := L.filter (fun q => !(q == t))
def kSetRoom (c r : Int32) : Int32 := if rIn 0 4 c ∧ rIn 0 30 r then 0 else 1
def gSetRoom (A : xS) (L : List Nat) (c r : Int32) : xR := fin (kSetRoom c r) A L (A 0 (ix c), mU (mU A 19 0 0) 0 (ix c) r, L)
def kSetVan (r : Int32) : Int32 := if rIn 0 30 r then 0 else 1
def gSetVan (A : xS) (L : List Nat) (r : Int32) : xR := fin (kSetVan r) A L (A 1 0, mU (mU A 19 0 0) 1 0 r, L)
def kLeave (A : xS) (o z c : Int32) : Int32 := if ¬ (rIn 0 7 o ∧ rIn 1 3 z ∧ rIn 0 4 c) then 1 else if A 5 0 = 24 ∨ A 0 (ix c) < ldF A c (ix (A 5 0)) + z then 2 else 0
def bLeave (A : xS) (n : Nat) (o z c : Int32) : xS := mU (mU (mU (mU (mU (mU (mU (mU A 6 n o) 7 n z) 8 n (20 * z)) 9 n c) 10 n (A 4 0)) 14 n (-1)) 15 n (-1)) 5 0 (A 5 0 + 1)
def gLeave (A : xS) (L : List Nat) (o z c : Int32) : xR := fin (kLeave A o z c) A L (A 5 0, bLeave (mU A 19 0 0) (ix (A 5 0)) o z c, L)
def kFetch (A : xS) (x : Int32) : Int32 := if ¬ kT A x then 1 else if ¬ A 9 (ix x) < 5 ∨ 0 < A 12 (ix x) then 2 else 0
def bFetch (A : xS) (t : Nat) : xS := mU (mU (mU A 9 t 10) 3 0 (A 3 0 + A 11 t)) 15 t (-1)
def gFetch (A : xS) (L : List Nat) (x : Int32) : xR := fin (kFetch A x) A L (A 11 (ix x), bFetch (mU A 19 0 0) (ix x), fFor (ix x) L)
def kWant (A : xS) (x c : Int32) : Int32 := if ¬ kT A x then 1 else if ¬ rIn 0 4 c then 2 else if ¬ A 9 (ix x) < 5 ∨ A 9 (ix x) = c then 3 else 0
def gWant (A : xS) (L : List Nat) (x c : Int32) : xR := fin (kWant A x c) A L (nI ((fFor (ix x) L).length + 1), mU (mU (mU A 19 0 0) 15 (ix x) (-1)) 15 (ix x) c, fFor (ix x) L ++ [ix x])
def kValue (A : xS) (x v : Int32) : Int32 := if ¬ kT A x then 1 else if ¬ rIn 0 10000 v then 2 else if ¬ A 9 (ix x) < 5 then 3 else 0
def gValue (A : xS) (L : List Nat) (x v : Int32) : xR := fin (kValue A x v) A L (A 8 (ix x), mU (mU A 19 0 0) 8 (ix x) v, L)
def kLend (A : xS) (x l z : Int32) : Int32 := if ¬ kT A x then 1 else if ¬ (rIn 0 7 l ∧ rIn 1 5000 z) then 2 else if ¬ A 9 (ix x) < 5 ∨ A 6 (ix x) = l ∨ 0 < A 12 (ix x) ∨ A 8 (ix x) / 2 < z then 3 else 0
def bLend (A : xS) (t : Nat) (l z : Int32) : xS := mU (mU (mU (mU A 12 t z) 13 t l) 14 t (-1)) 2 (ix (A 6 t)) (A 2 (ix (A 6 t)) + z)
def gLend (A : xS) (L : List Nat) (x l z : Int32) : xR := fin (kLend A x l z) A L (0, bLend (mU A 19 0 0) (ix x) l z, L)
def kRepay (A : xS) (x : Int32) : Int32 := if ¬ kT A x then 1 else if A 12 (ix x) = 0 then 2 else 0
def bRepay (A : xS) (t : Nat) : xS := mU (mU (mU A 2 (ix (A 13 t)) (A 2 (ix (A 13 t)) + A 12 t)) 12 t 0) 14 t (-1)
def gRepay (A : xS) (L : List Nat) (x : Int32) : xR := fin (kRepay A x) A L (A 12 (ix x), bRepay (mU A 19 0 0) (ix x), L)
def kDoubt (A : xS) (x : Int32) : Int32 := if ¬ kT A x then 1 else if A 12 (ix x) = 0 ∨ ¬ A 14 (ix x) = -1 then 2 else 0
def gDoubt (A : xS) (L : List Nat) (x : Int32) : xR := fin (kDoubt A x) A L (A 4 0 + 3, mU (mU A 19 0 0) 14 (ix x) (A 4 0 + 3), L)
/-! the days -/
def imn (x y : Int32) : Int32 := if x < y then x else y
def sBack (A : xS) (t : Nat) : Int32 := imn (A 12 t) (A 8 t)
def sA1 (A : xS) (t : Nat) : xS := if 0 < sBack A t then mU A 2 (ix (A 13 t)) (A 2 (ix (A 13 t)) + sBack A t) else A
def sPaid (A : xS) (t : Nat) : Int32 := imn (A 11 t) (A 8 t - sBack A t)
def sA2 (A : xS) (t : Nat) : xS := mU (mU (sA1 A t) 11 t (sPaid A t)) 3 0 (A 3 0 + sPaid A t)
def sA3 (A : xS) (t : Nat) : xS := mU (sA2 A t) 2 (ix (A 6 t)) (sA1 A t 2 (ix (A 6 t)) + (A 8 t - sBack A t - sPaid A t))
def fSell (t : Nat) (A : xS) : xS := mU (mU (mU (mU (sA3 A t) 12 t 0) 14 t (-1)) 9 t 11) 15 t (-1)
def owes (A : xS) (t : Nat) : Int32 := if ¬ A 9 t < 5 then 0 else if 0 < A 12 t then A 7 t else 2 * A 7 t
def fOwe : Nat → xS → xS
  | 0, A => A
  | t + 1, A => mU (fOwe t A) 11 t (fOwe t A 11 t + owes (fOwe t A) t)
abbrev xV : Type := Int32 × xS × List Nat
abbrev fCalT (A : xS) (t : Nat) : Prop := A 9 t < 5 ∧ 0 < A 12 t ∧ A 14 t = A 4 0
abbrev fUnfT (A : xS) (t : Nat) : Prop := A 9 t < 5 ∧ A 12 t = 0 ∧ 30 ≤ A 4 0 - A 10 t + 1
def vSell (t : Nat) (V : xV) : xV := (V.1 + 1, fSell t V.2.1, fFor t V.2.2)
def fCal : Nat → xV → xV
  | 0, V => V
  | t + 1, V => if fCalT (fCal t V).2.1 t then vSell t (fCal t V) else fCal t V
def fUnf : Nat → xV → xV
  | 0, V => V
  | t + 1, V => if fUnfT (fUnf t V).2.1 t then vSell t (fUnf t V) else fUnf t V
abbrev fDrvT (n : Nat) (A : xS) (left : Int32) (t : Nat) : Prop := A 12 t = 0 ∧ A 7 t ≤ left ∧ ldF A (A 15 t) n + A 7 t ≤ A 0 (ix (A 15 t))
def fMove (A : xS) (t : Nat) : xS := mU (mU A 9 t (A 15 t)) 15 t (-1)
def fDrv (n : Nat) : List Nat → xV → xV
  | [], V => V
  | t :: r, V => if fDrvT n V.2.1 V.1 t then fDrv n r (V.1 - V.2.1 7 t, fMove V.2.1 t, fFor t V.2.2) else fDrv n r V
def fBeg : Nat → xS → xS
  | 0, A => A
  | t + 1, A => mU (fBeg t A) 18 (ix (24 * A 4 0 + nI t)) (A 9 t)
def fDay (n : Nat) (V : xV) : xV :=
  let V1 : xV := fUnf n (fCal n (V.1, fOwe n V.2.1, V.2.2))
  let V2 : xV := fDrv n V1.2.2 (V1.2.1 1 0, V1.2.1, V1.2.2)
  (V1.1, fBeg n (mU V2.2.1 4 0 (V2.2.1 4 0 + 1)), V2.2.2)
def fDays (n : Nat) : Nat → xV → xV
  | 0, V => V
  | d + 1, V => ((fDays n d V).1 + (fDay n (0, (fDays n d V).2)).1, (fDay n (0, (fDays n d V).2)).2)
def kPass (A : xS) (d : Int32) : Int32 := if ¬ rIn 1 40 d then 1 else if 1000 < A 4 0 + d then 2 else 0
def gPass (A : xS) (L : List Nat) (d : Int32) : xR := fin (kPass A d) A L (fDays (ix (A 5 0)) (ix d) (0, mU A 19 0 0, L))
/-! what is -/
def g0 (j : Nat) (A : xS) (L : List Nat) : xR := (A j 0, mU A 19 0 0, L)
def kT1 (A : xS) (x : Int32) : Int32 := if kT A x then 0 else 1
def gT1 (j : Nat) (A : xS) (L : List Nat) (x : Int32) : xR := fin (kT1 A x) A L (A j (ix x), mU A 19 0 0, L)
def kWhereOn (A : xS) (x d : Int32) : Int32 := if ¬ kT A x then 1 else if ¬ rIn 0 (A 4 0) d then 2 else 0
def gWhereOn (A : xS) (L : List Nat) (x d : Int32) : xR := fin (kWhereOn A x d) A L (if d = A 4 0 then A 9 (ix x) else A 18 (ix (24 * d + x)), mU A 19 0 0, L)
def kLoad (c : Int32) : Int32 := if rIn 0 4 c then 0 else 1
def gLoad (A : xS) (L : List Nat) (c : Int32) : xR := fin (kLoad c) A L (ldF A c (ix (A 5 0)), mU A 19 0 0, L)
def kPurse (x : Int32) : Int32 := if rIn 0 7 x then 0 else 1
def gPurse (A : xS) (L : List Nat) (x : Int32) : xR := fin (kPurse x) A L (A 2 (ix x), mU A 19 0 0, L)
def kWish (L : List Nat) (x : Int32) : Int32 := if rIn 0 (nI L.length - 1) x then 0 else 1
def gWish (A : xS) (L : List Nat) (x : Int32) : xR := fin (kWish L x) A L (nI (L.getD (ix x) 0), mU A 19 0 0, L)
/-! what holds between calls -/
def aI (A : xS) (n : Nat) : Prop := A 5 0 = nI n ∧ n ≤ 24 ∧ (∃ d, d ≤ 1000 ∧ A 4 0 = nI d) ∧ (∀ t, t < 24 → ∃ o, o < 8 ∧ A 6 t = nI o) ∧ ∀ t, t < 24 → ∃ o, o < 8 ∧ A 13 t = nI o
def lI (A : xS) (n : Nat) (L : List Nat) : Prop := L.length ≤ n ∧ L.Nodup ∧ ∀ t, t ∈ L → t < n ∧ ∃ c, c < 5 ∧ A 15 t = nI c
theorem aI_kT {A : xS} {n : Nat} (h : aI A n) {x : Int32} (hx : kT A x) : ∃ t, t < n ∧ t < 24 ∧ x = nI t := by
  have hx : rIn 0 (A 5 0 - 1) x := hx
  rw [h.1] at hx
  obtain ⟨t, h1, h2⟩ := rT_nat (by have := h.2.1; omega) hx
  exact ⟨t, h1, by have := h.2.1; omega, h2⟩
theorem aI_toT {A : xS} {n t : Nat} (h : aI A n) (ht : t < n) : kT A (nI t) := by
  show rIn 0 (A 5 0 - 1) (nI t)
  rw [h.1]
  exact rT_of (by have := h.2.1; omega) ht
section XM2
variable {p : Program} {l : Launch} {e : Env} {R : Room} {s : State} {m : MethodId} {args : Array Value} {below : List Frame} {meth : Method} {c : Code} {G : xG} {cc : ByteArray} {nL : Nat} {own : String} {rt : Option FieldType} {Q : State → Prop} {P P' : xW → Prop} {k n pc : Nat} {lv : List (Nat × Value)} {st : List Value}
variable {o : Nat} {ad : Nat → Nat} {A A' : xS} {L L' : List Nat} {w0 : xW}
theorem x_dup2 (Γ : xC p s m meth c G cc nL own rt) {va vb : Value} (hd : decode cc pc = .ok (.dup2, 1)) (h1 : va.category = 1) (h2 : vb.category = 1) (kk : xJ p l e R s m args below meth c G nL Q P k n (pc + 1) lv (va :: vb :: va :: vb :: st)) : xJ p l e R s m args below meth c G nL Q P k n pc lv (va :: vb :: st) := fun w H locs ls hp hh hs hl => lv_dup2_11 Γ.1 Γ.2.1 hd h1 h2 (kk w H locs ls hp hh hs hl)
theorem m_in {w : xW} (h : MRep G w o ad A L) (kk : xJ p l e R s m args below meth c G nL Q (mP G o ad A L w) k n pc lv st) : xJ p l e R s m args below meth c G nL Q (fun w' => w' = w) k n pc lv st :=
  x_weak (fun w' e => by subst e; exact ⟨h, KpM.rf⟩) kk
theorem m_then {φ : Prop} (kk : φ → xJ p l e R s m args below meth c G nL Q (mP G o ad A' L' w0) k n pc lv st) : xJ p l e R s m args below meth c G nL Q (fun w' => ∃ w1, mP G o ad A L w0 w1 ∧ φ ∧ mP G o ad A' L' w1 w') k n pc lv st :=
  x_then (fun w' h => by obtain ⟨w1, h1, h2, h3⟩ := h; exact ⟨h2, h3.1, h1.2.tr h3.2⟩) kk
theorem m_then0 (kk : xJ p l e R s m args below meth c G nL Q (mP G o ad A' L' w0) k n pc lv st) : xJ p l e R s m args below meth c G nL Q (fun w' => ∃ w1, mP G o ad A L w0 w1 ∧ mP G o ad A' L' w1 w') k n pc lv st :=
  x_weak (fun w' h => by obtain ⟨w1, h1, h3⟩ := h; exact ⟨h3.1, h1.2.tr h3.2⟩) kk
theorem m_same {φ : Prop} (kk : φ → xJ p l e R s m args below meth c G nL Q P k n pc lv st) : xJ p l e R s m args below meth c G nL Q (fun w' => ∃ w1, P w1 ∧ φ ∧ w' = w1) k n pc lv st :=
  x_then (fun w' h => by obtain ⟨w1, h1, h2, h3⟩ := h; subst h3; exact ⟨h2, h1⟩) kk
end XM2
end XSP
end
section
section XM3
variable {l : Launch} {G : xG}
end XM3
section XM4
variable {l : Launch} {G : xG}
theorem fFor_len (t : Nat) (L : List Nat) : (fFor t L).length ≤ L.length := List.length_filter_le _ _
theorem fFor_eq {t k q : Nat} {L : List Nat} (hq : L[k]? = some q) (h : q = t) : fFor t (L.take (k + 1)) = fFor t (L.take k) := by
  unfold fFor
  rw [List.take_add_one, hq, List.filter_append]
  simp [h]
theorem fFor_ne {t k q : Nat} {L : List Nat} (hq : L[k]? = some q) (h : ¬ q = t) : fFor t (L.take (k + 1)) = fFor t (L.take k) ++ [q] := by
  unfold fFor
  rw [List.take_add_one, hq, List.filter_append]
  simp [h]
theorem fFor_mem {t q : Nat} {L : List Nat} (h : q ∈ fFor t L) : q ∈ L ∧ q ≠ t := by
  unfold fFor at h
  have h2 := List.mem_filter.mp h
  exact ⟨h2.1, by simpa using h2.2⟩
end XM4
section XM5
variable {l : Launch} {G : xG}
theorem ldF_thr (A : xS) (x c : Int32) (n : Nat) : ldF (mU A 19 0 x) c n = ldF A c n := by
  induction n with
  | zero => rfl
  | succ t ih => rw [ldF, ldF, ih]; rfl
theorem aI_thr {A : xS} {n : Nat} (h : aI A n) (x : Int32) : aI (mU A 19 0 x) n := h
end XM5
end
section
section XPU
theorem fFor_nd {t : Nat} {L : List Nat} (h : L.Nodup) : (fFor t L).Nodup := List.Pairwise.filter _ h
theorem fFor_id {t : Nat} {L : List Nat} (h : t ∉ L) : fFor t L = L := by
  unfold fFor
  refine List.filter_eq_self.mpr (fun q hq => ?_)
  have : q ≠ t := fun z => h (z ▸ hq)
  simp [this]
theorem fFor_cons_eq {t : Nat} {L : List Nat} : fFor t (t :: L) = fFor t L := by simp [fFor]
theorem fFor_cons_ne {t q : Nat} {L : List Nat} (h : q ≠ t) : fFor t (q :: L) = q :: fFor t L := by simp [fFor, h]
theorem fFor_app (t : Nat) (L L' : List Nat) : fFor t (L ++ L') = fFor t L ++ fFor t L' := by simp [fFor]
theorem fFor_len1 {t : Nat} : ∀ {L : List Nat}, L.Nodup → L.length ≤ (fFor t L).length + 1
  | [], _ => by simp
  | q :: r, h => by
    have h1 := List.nodup_cons.mp h
    by_cases e : q = t
    · subst e
      rw [fFor_cons_eq, fFor_id h1.1]
      simp
    · rw [fFor_cons_ne e]
      have := fFor_len1 (t := t) h1.2
      simp only [List.length_cons]
      omega
theorem nd_len : ∀ (n : Nat) (L : List Nat), L.Nodup → (∀ q ∈ L, q < n) → L.length ≤ n
  | 0, L, _, h => by
    cases L with
    | nil => simp
    | cons q r => exact absurd (h q List.mem_cons_self) (Nat.not_lt_zero q)
  | n + 1, L, hd, h => by
    have h1 := nd_len n (fFor n L) (fFor_nd hd) (fun q hq => by
      have h2 := fFor_mem hq
      have := h q h2.1
      have := h2.2
      omega)
    have := fFor_len1 (t := n) hd
    omega
theorem fFor_lt {n t : Nat} {L : List Nat} (hd : L.Nodup) (h : ∀ q ∈ L, q < n) (ht : t < n) : (fFor t L).length + 1 ≤ n := by
  have h1 := nd_len n (t :: fFor t L) (List.nodup_cons.mpr ⟨fun z => (fFor_mem z).2 rfl, fFor_nd hd⟩) (fun q hq => by
    rcases List.mem_cons.mp hq with h2 | h2
    · omega
    · exact h q (fFor_mem h2).1)
  simpa using h1
theorem fFor_mid {t : Nat} {P R : List Nat} (h : (P ++ t :: R).Nodup) : fFor t (P ++ t :: R) = P ++ R := by
  have h1 := List.nodup_append.mp h
  have h2 := List.nodup_cons.mp h1.2.1
  rw [fFor_app, fFor_cons_eq, fFor_id (fun z => h1.2.2 t z t List.mem_cons_self rfl), fFor_id h2.1]
/-! rows that no day's end changes -/
def stb (j : Nat) : Bool := !(j == 2 || j == 3 || j == 9 || j == 11 || j == 12 || j == 14 || j == 15)
theorem stb_ne {j : Nat} (h : stb j = true) : j ≠ 2 ∧ j ≠ 3 ∧ j ≠ 9 ∧ j ≠ 11 ∧ j ≠ 12 ∧ j ≠ 14 ∧ j ≠ 15 := by
  simp only [stb, Bool.not_eq_true', Bool.or_eq_false_iff, beq_eq_false_iff_ne] at h
  omega
def sameR (A B : xS) : Prop := ∀ j, stb j = true → B j = A j
theorem sameR.rf {A : xS} : sameR A A := fun _ _ => rfl
theorem sameR.tr {A B C : xS} (h : sameR A B) (h2 : sameR B C) : sameR A C := fun j hj => (h2 j hj).trans (h j hj)
theorem sameR_aI {A B : xS} {n : Nat} (h : sameR A B) (hI : aI A n) : aI B n := by
  unfold aI at hI ⊢
  rw [h 5 rfl, h 4 rfl, h 6 rfl, h 13 rfl]
  exact hI
theorem sameR_mU {A : xS} {j i : Nat} {v : Int32} (hj : stb j = false) : sameR A (mU A j i v) := fun k hk => mU_j (fun z => by rw [z, hj] at hk; cases hk)
theorem sameR_sA1 (A : xS) (t : Nat) : sameR A (sA1 A t) := by
  unfold sA1
  split
  · exact sameR_mU rfl
  · exact sameR.rf
theorem sA1_j {A : xS} {t j : Nat} (h : j ≠ 2) : sA1 A t j = A j := by
  unfold sA1
  split
  · exact mU_j h
  · rfl
theorem sameR_sell (A : xS) (t : Nat) : sameR A (fSell t A) := by
  unfold fSell sA3 sA2
  exact (((((((sameR_sA1 A t).tr (sameR_mU rfl)).tr (sameR_mU rfl)).tr (sameR_mU rfl)).tr (sameR_mU rfl)).tr (sameR_mU rfl)).tr (sameR_mU rfl)).tr (sameR_mU rfl)
theorem sell_15 {A : xS} {t q : Nat} (h : q ≠ t) : fSell t A 15 q = A 15 q := by
  unfold fSell
  rw [mU_i h]
  unfold sA3 sA2
  rw [mU_j (by decide), mU_j (by decide), mU_j (by decide), mU_j (by decide), mU_j (by decide), mU_j (by decide), sA1_j (by decide)]
theorem lI_for {A B : xS} {n t : Nat} {L : List Nat} (h : lI A n L) (hB : ∀ q, q ≠ t → B 15 q = A 15 q) : lI B n (fFor t L) :=
  ⟨Nat.le_trans (fFor_len t L) h.1, fFor_nd h.2.1, fun q hq => by
    have h1 := fFor_mem hq
    rw [hB q h1.2]
    exact h.2.2 q h1.1⟩
theorem lI_same {A B : xS} {n : Nat} {L : List Nat} (h : lI A n L) (hB : B 15 = A 15) : lI B n L := by
  unfold lI
  rw [hB]
  exact h
theorem lI_sell {A : xS} {n t : Nat} {L : List Nat} (h : lI A n L) : lI (fSell t A) n (fFor t L) := lI_for h (fun _ hq => sell_15 hq)
theorem move_15 {A : xS} {t q : Nat} (h : q ≠ t) : fMove A t 15 q = A 15 q := by
  unfold fMove
  rw [mU_i h, mU_j (by decide)]
theorem sameR_move (A : xS) (t : Nat) : sameR A (fMove A t) := (sameR_mU rfl).tr (sameR_mU rfl)
theorem lI_move {A : xS} {n t : Nat} {L : List Nat} (h : lI A n L) : lI (fMove A t) n (fFor t L) := lI_for h (fun _ hq => move_15 hq)
theorem fOwe_j {A : xS} {t j : Nat} (h : j ≠ 11) : fOwe t A j = A j := by
  induction t with
  | zero => rfl
  | succ t ih => rw [fOwe, mU_j h, ih]
theorem sameR_owe (A : xS) (t : Nat) : sameR A (fOwe t A) := fun j hj => fOwe_j (stb_ne hj).2.2.2.1
theorem fCal_I {n : Nat} (V : xV) (t : Nat) (h : lI V.2.1 n V.2.2) : sameR V.2.1 (fCal t V).2.1 ∧ lI (fCal t V).2.1 n (fCal t V).2.2 := by
  induction t with
  | zero => exact ⟨sameR.rf, h⟩
  | succ t ih =>
    rw [fCal]
    split
    · exact ⟨ih.1.tr (sameR_sell _ t), lI_sell ih.2⟩
    · exact ih
theorem fUnf_I {n : Nat} (V : xV) (t : Nat) (h : lI V.2.1 n V.2.2) : sameR V.2.1 (fUnf t V).2.1 ∧ lI (fUnf t V).2.1 n (fUnf t V).2.2 := by
  induction t with
  | zero => exact ⟨sameR.rf, h⟩
  | succ t ih =>
    rw [fUnf]
    split
    · exact ⟨ih.1.tr (sameR_sell _ t), lI_sell ih.2⟩
    · exact ih
theorem fDrv_I {n : Nat} (R : List Nat) (V : xV) (h : lI V.2.1 n V.2.2) : sameR V.2.1 (fDrv n R V).2.1 ∧ lI (fDrv n R V).2.1 n (fDrv n R V).2.2 := by
  induction R generalizing V with
  | nil => exact ⟨sameR.rf, h⟩
  | cons t r ih =>
    rw [fDrv]
    split
    · have := ih (V.1 - V.2.1 7 t, fMove V.2.1 t, fFor t V.2.2) (lI_move h)
      exact ⟨(sameR_move _ t).tr this.1, this.2⟩
    · exact ih V h
theorem fBeg_j {A : xS} {t j : Nat} (h : j ≠ 18) : fBeg t A j = A j := by
  induction t with
  | zero => rfl
  | succ t ih => rw [fBeg, mU_j h, ih]
def aId (A : xS) (n d : Nat) : Prop := aI A n ∧ A 4 0 = nI d
theorem fDay_I {n d : Nat} (V : xV) (ha : aI V.2.1 n) (hd : V.2.1 4 0 = nI d) (hd1 : d + 1 ≤ 1000) (h : lI V.2.1 n V.2.2) : aI (fDay n V).2.1 n ∧ (fDay n V).2.1 4 0 = nI (d + 1) ∧ lI (fDay n V).2.1 n (fDay n V).2.2 := by
  have h1 : lI (fOwe n V.2.1) n V.2.2 := lI_same h (fOwe_j (by decide))
  have h2 := fCal_I (n := n) (V.1, fOwe n V.2.1, V.2.2) n h1
  have h3 := fUnf_I (n := n) (fCal n (V.1, fOwe n V.2.1, V.2.2)) n h2.2
  have h4 := fDrv_I (n := n) (fUnf n (fCal n (V.1, fOwe n V.2.1, V.2.2))).2.2 ((fUnf n (fCal n (V.1, fOwe n V.2.1, V.2.2))).2.1 1 0, (fUnf n (fCal n (V.1, fOwe n V.2.1, V.2.2))).2.1, (fUnf n (fCal n (V.1, fOwe n V.2.1, V.2.2))).2.2) h3.2
  have hs := (((sameR_owe V.2.1 n).tr h2.1).tr h3.1).tr h4.1
  have e4 : (fDay n V).2.1 4 0 = nI (d + 1) := by
    show fBeg n (mU _ 4 0 _) 4 0 = _
    rw [fBeg_j (by decide), mU_eq, hs 4 rfl, hd, nI_1]
  refine ⟨?_, e4, ?_⟩
  · obtain ⟨g1, g2, g3, g4, g5⟩ := sameR_aI hs ha
    refine ⟨?_, g2, ⟨d + 1, hd1, e4⟩, ?_, ?_⟩
    · show fBeg n (mU _ 4 0 _) 5 0 = _
      rw [fBeg_j (by decide), mU_j (by decide)]; exact g1
    · show ∀ t, t < 24 → ∃ o, o < 8 ∧ fBeg n (mU _ 4 0 _) 6 t = nI o
      rw [fBeg_j (by decide), mU_j (by decide)]; exact g4
    · show ∀ t, t < 24 → ∃ o, o < 8 ∧ fBeg n (mU _ 4 0 _) 13 t = nI o
      rw [fBeg_j (by decide), mU_j (by decide)]; exact g5
  · refine lI_same h4.2 ?_
    show fBeg n (mU _ 4 0 _) 15 = _
    rw [fBeg_j (by decide), mU_j (by decide)]
theorem fDays_I {n d : Nat} (V : xV) (ha : aI V.2.1 n) (hd : V.2.1 4 0 = nI d) (h : lI V.2.1 n V.2.2) (k : Nat) (hk : d + k ≤ 1000) : aI (fDays n k V).2.1 n ∧ (fDays n k V).2.1 4 0 = nI (d + k) ∧ lI (fDays n k V).2.1 n (fDays n k V).2.2 := by
  induction k with
  | zero => exact ⟨ha, hd, h⟩
  | succ k ih =>
    obtain ⟨i1, i2, i3⟩ := ih (by omega)
    exact fDay_I (0, (fDays n k V).2) i1 i2 (by omega) i3
end XPU
end
section
section XM6
section XM6a
variable {p : Program} {l : Launch} {e : Env} {R : Room} {s : State} {m : MethodId} {args : Array Value} {below : List Frame} {meth : Method} {c : Code} {G : xG} {cc : ByteArray} {nL : Nat} {own : String} {rt : Option FieldType} {Q : State → Prop} {P P' : xW → Prop} {k n pc : Nat} {lv : List (Nat × Value)} {st : List Value}
variable {o : Nat} {ad : Nat → Nat} {A A' : xS} {L L' : List Nat} {w0 : xW}
theorem m_aldv (Γ : xC p s m meth c G cc nL own rt) {j t : Nat} {i v : Int32} (hv : A j t = v) (hi : i = nI t) (hj : mArr j = true) (h16 : j ≠ 16) (ht : t < mlen j) (hd : decode cc pc = .ok (.iaload, 1))
    (kk : xJ p l e R s m args below meth c G nL Q (mP G o ad A L w0) k n (pc + 1) lv (.int v :: st)) : xJ p l e R s m args below meth c G nL Q (mP G o ad A L w0) k n pc lv (.int i :: .ref (ad j) :: st) :=
  m_ald Γ hi hj h16 ht hd (by rw [hv]; exact kk)
/-- between a wish's place and the count of wishes -/
def mW (G : xG) (o : Nat) (ad : Nat → Nat) (A : xS) (L : List Nat) (t : Nat) (w0 : xW) : xW → Prop := fun w => (∃ M : xS, MdlAt G w o ad M ∧ (∀ j, j ≠ 16 → j ≠ 17 → M j = A j) ∧ M 17 0 = nI L.length ∧ ∀ (i q : Nat), (L ++ [t])[i]? = some q → M 16 i = nI q) ∧ KpM w0 w
theorem m_astw (Γ : xC p s m meth c G cc nL own rt) {t : Nat} (hl : L.length < 24) (hd : decode cc pc = .ok (.iastore, 1))
    (kk : xJ p l e R s m args below meth c G nL Q (mW G o ad A L t w0) k n (pc + 1) lv st) : xJ p l e R s m args below meth c G nL Q (mP G o ad A L w0) k n pc lv (.int (nI t) :: .int (nI L.length) :: .ref (ad 16) :: st) := by
  refine x_pin (fun w1 hw1 => ?_)
  obtain ⟨⟨M, h1, h2, h3, h4⟩, hk⟩ := hw1
  have hM := MdlAt.ast h1 (j := 16) (i := L.length) (x := nI t) rfl
  have hnew : ∀ (i q : Nat), (L ++ [t])[i]? = some q → mU M 16 L.length (nI t) 16 i = nI q := by
    intro i q hi
    by_cases hil : i < L.length
    · rw [List.getElem?_append_left hil] at hi
      rw [mU_i (by omega)]
      exact h4 i q hi
    · rw [List.getElem?_append_right (by omega)] at hi
      have hie : i - L.length = 0 := by
        have := (List.getElem?_eq_some_iff.mp hi).1
        simp only [List.length_cons, List.length_nil] at this
        omega
      rw [hie] at hi
      have hqq : t = q := by simpa using hi
      rw [show i = L.length by omega, mU_eq, hqq]
  exact x_iast (N := mlen 16) (f := M 16) Γ (fun w9 e9 => by rw [e9]; refine ⟨_, h1.2 16 rfl, ?_⟩; rw [nI_clamp (by omega)]; exact ⟨⟨_, hM, fun j g1 g2 => by rw [mU_j g1]; exact h2 j g1 g2, by rw [mU_j (by decide)]; exact h3, hnew⟩, hk.set (h1.2 16 rfl) (by omega)⟩) (vp_in_nI (by show _ < 24; omega) (by decide)) hd kk
end XM6a
variable {l : Launch} {G : xG}
end XM6
section XM7
variable {l : Launch} {G : xG}
end XM7
section XM8
def mB (G : xG) (w0 : xW) (o : Nat) (fs : List Value) (as : List (Nat × Nat)) : xW → Prop := fun w => w o = some (10, .inr (4, fs)) ∧ (∀ q ∈ as, w q.2 = some (20 + q.1, .inl (G.2 1, mlen q.1, .inl (fun _ => 0)))) ∧ KpM w0 w
def mIni (c d : Nat) : xS := fun j i => if j = 0 then (if i < c then 10 else 0) else if j = 1 then (if i = 0 then 6 else 0) else if j = 18 then (if i < d then 12 else 0) else 0
theorem mIni_c (c d : Nat) : mU (mIni c d) 0 c 10 = mIni (c + 1) d := by
  funext j i
  by_cases hj : j = 0
  · subst hj
    by_cases hi : i = c
    · subst hi
      rw [mU_eq]
      show _ = (if i < i + 1 then (10 : Int32) else 0)
      rw [if_pos (by omega)]
    · rw [mU_i hi]
      show (if i < c then (10 : Int32) else 0) = (if i < c + 1 then (10 : Int32) else 0)
      by_cases h : i < c
      · rw [if_pos h, if_pos (by omega)]
      · rw [if_neg h, if_neg (by omega)]
  · rw [mU_j hj]
    unfold mIni
    rw [if_neg hj, if_neg hj]
theorem mIni_d (c d : Nat) : mU (mIni c d) 18 d 12 = mIni c (d + 1) := by
  funext j i
  by_cases hj : j = 18
  · subst hj
    by_cases hi : i = d
    · subst hi
      rw [mU_eq]
      show _ = (if i < i + 1 then (12 : Int32) else 0)
      rw [if_pos (by omega)]
    · rw [mU_i hi]
      show (if i < d then (12 : Int32) else 0) = (if i < d + 1 then (12 : Int32) else 0)
      by_cases h : i < d
      · rw [if_pos h, if_pos (by omega)]
      · rw [if_neg h, if_neg (by omega)]
  · rw [mU_j hj]
    unfold mIni
    rw [if_neg hj, if_neg hj]
theorem mB_new {G : xG} {w0 w : xW} {o a j : Nat} {fs : List Value} {as : List (Nat × Nat)} (h : mB G w0 o fs as w) (ha : w a = none) : mB G w0 o fs ((j, a) :: as) (xu w a (20 + j, .inl (G.2 1, mlen j, .inl (fun _ => 0)))) := by
  refine ⟨xu_new h.1 ha, fun q hq => ?_, fun b k e hb hk => xu_new (h.2.2 b k e hb hk) ha⟩
  rcases List.mem_cons.mp hq with hq | hq
  · rw [hq]; exact xu_eq _ _ _
  · exact xu_new (h.2.1 q hq) ha
theorem mB_put {G : xG} {w0 w : xW} {o j : Nat} {fs : List Value} {as : List (Nat × Nat)} {v : Value} (h : mB G w0 o fs as w) : mB G w0 o (fs.set j v) as (xu w o (10, .inr (4, fs.set j v))) :=
  ⟨xu_eq _ _ _, fun q hq => xu_far (h.2.1 q hq) h.1 (by omega), fun b k e hb hk => xu_far (h.2.2 b k e hb hk) h.1 (by omega)⟩
variable {l : Launch} {G : xG}
end XM8
end
section
section XCR
/-! the class's cells. B j i as the reference's A, but B 13 t is the class's lender; T t the tags of a thing, newest first -/
def xKp (S : Nat → Prop) (w w' : xW) : Prop := ∀ (b k : Nat) (e : va_E), w b = some (k, e) → S k → w' b = some (k, e)
theorem xKp.tr {S : Nat → Prop} {w w1 w2 : xW} (h : xKp S w w1) (h2 : xKp S w1 w2) : xKp S w w2 := fun b k e hb h3 => h2 b k e (h b k e hb h3) h3
theorem xKp.rf {S : Nat → Prop} {w : xW} : xKp S w w := fun _ _ _ h _ => h
theorem xKp.set {S : Nat → Prop} {w : xW} {a k : Nat} {e0 : va_E} {x : Nat × va_E} (ha : w a = some (k, e0)) (hk : ¬ S k) : xKp S w (xu w a x) := fun b j e hb h3 => xu_far hb ha (fun z => hk (z ▸ h3))
theorem xKp.new {S : Nat → Prop} {w : xW} {a : Nat} {x : Nat × va_E} (ha : w a = none) : xKp S w (xu w a x) := fun b j e hb h3 => xu_new hb ha
theorem xKp.mono {S S' : Nat → Prop} {w w' : xW} (h : xKp S w w') (hs : ∀ k, S' k → S k) : xKp S' w w' := fun b k e hb h3 => h b k e hb (hs k h3)
abbrev KpX : xW → xW → Prop := xKp (fun k => k < 100)
theorem LstAt.kp {S : Nat → Prop} {G : xG} {w w' : xW} {a col len : Nat} {f : Nat → Nat} (h : LstAt G w a col len f) (hk : xKp S w w') (h1 : S col) (h2 : S (col + 2)) : LstAt G w' a col len f := by
  obtain ⟨mc, el, ha, h900, h⟩ := h
  refine ⟨mc, el, hk _ _ _ ha h1, h900, ?_⟩
  rcases h with h | ⟨cap, g, he, h3⟩
  · exact Or.inl h
  · exact Or.inr ⟨cap, g, hk _ _ _ he h2, h3⟩
theorem LstAt.congr {G : xG} {w : xW} {a col len : Nat} {f f' : Nat → Nat} (h : LstAt G w a col len f) (hf : ∀ i, i < len → f' i = f i) : LstAt G w a col len f' := by
  obtain ⟨mc, el, ha, h900, h⟩ := h
  refine ⟨mc, el, ha, h900, ?_⟩
  rcases h with h | ⟨cap, g, he, h3, h4, h5, h6⟩
  · exact Or.inl h
  · exact Or.inr ⟨cap, g, he, h3, h4, h5, fun i hi => by rw [hf i hi]; exact h6 i hi⟩
theorem LstAt.obj {G : xG} {w : xW} {a col len : Nat} {f : Nat → Nat} (h : LstAt G w a col len f) : ∃ k0 fs, w a = some (k0, .inr (0, fs)) := by
  obtain ⟨mc, el, ha, -⟩ := h
  exact ⟨_, _, ha⟩
abbrev xTg : Type := List (Int32 × Int32)
def tgAt (w : xW) : xTg → Value → Prop
  | [], b => b = .null
  | q :: r, b => ∃ a b2, b = .ref a ∧ w a = some (110, .inr (1, [.int q.1, .int q.2, b2])) ∧ tgAt w r b2
theorem tgAt.kp {S : Nat → Prop} {w w' : xW} (hk : xKp S w w') (h1 : S 110) : ∀ {r : xTg} {b : Value}, tgAt w r b → tgAt w' r b
  | [], _, h => h
  | _ :: _, _, ⟨a, b2, h2, h3, h4⟩ => ⟨a, b2, h2, hk _ _ _ h3 h1, tgAt.kp hk h1 h4⟩
def tFs (B : xS) (t : Nat) (b : Value) : List Value := [.int (nI t), .int (B 6 t), .int (B 7 t), .int (B 10 t), .int (B 8 t), .int (B 9 t), b, .int (B 15 t), .int (B 11 t), .int (B 12 t), .int (B 13 t), .int (B 14 t)]
def xFs (ca : Nat → Nat) (B : xS) : List Value := [.ref (ca 1), .ref (ca 2), .ref (ca 3), .ref (ca 4), .int (B 1 0), .int (B 4 0), .int (B 3 0)]
def CRaw (G : xG) (w : xW) (ca th : Nat → Nat) (B : xS) (n : Nat) (L : List Nat) (T : Nat → xTg) : Prop :=
  w (ca 0) = some (100, .inr (3, xFs ca B)) ∧ w (ca 1) = some (101, .inl (G.2 1, 5, .inl (B 0))) ∧ w (ca 2) = some (102, .inl (G.2 1, 8, .inl (B 2))) ∧
  LstAt G w (ca 3) 104 n th ∧ LstAt G w (ca 4) 105 L.length (fun j => th (L.getD j 0)) ∧ ∀ t, t < n → ∃ b, w (th t) = some (200 + t, .inr (2, tFs B t b)) ∧ tgAt w (T t) b
def cP (G : xG) (ca th : Nat → Nat) (B : xS) (n : Nat) (L : List Nat) (T : Nat → xTg) (w0 : xW) : xW → Prop := fun w => CRaw G w ca th B n L T ∧ KpX w0 w
/-- two states that show the same cells -/
def cEq (n : Nat) (B B' : xS) : Prop := B' 0 = B 0 ∧ B' 2 = B 2 ∧ (B' 1 0 = B 1 0 ∧ B' 3 0 = B 3 0 ∧ B' 4 0 = B 4 0) ∧ ∀ t, t < n → B' 6 t = B 6 t ∧ B' 7 t = B 7 t ∧ B' 10 t = B 10 t ∧ B' 8 t = B 8 t ∧ B' 9 t = B 9 t ∧ B' 15 t = B 15 t ∧ B' 11 t = B 11 t ∧ B' 12 t = B 12 t ∧ B' 13 t = B 13 t ∧ B' 14 t = B 14 t
theorem tFs_eq {B B' : xS} {t : Nat} (b : Value) (h : B' 6 t = B 6 t ∧ B' 7 t = B 7 t ∧ B' 10 t = B 10 t ∧ B' 8 t = B 8 t ∧ B' 9 t = B 9 t ∧ B' 15 t = B 15 t ∧ B' 11 t = B 11 t ∧ B' 12 t = B 12 t ∧ B' 13 t = B 13 t ∧ B' 14 t = B 14 t) : tFs B' t b = tFs B t b := by
  obtain ⟨h1, h2, h3, h4, h5, h6, h7, h8, h9, h10⟩ := h
  unfold tFs
  rw [h1, h2, h3, h4, h5, h6, h7, h8, h9, h10]
theorem CRaw.congr {G : xG} {w : xW} {ca th : Nat → Nat} {B B' : xS} {n : Nat} {L : List Nat} {T : Nat → xTg} (h : CRaw G w ca th B n L T) (e : cEq n B B') : CRaw G w ca th B' n L T := by
  obtain ⟨h1, h2, h3, h4, h5, h6⟩ := h
  obtain ⟨e1, e2, ⟨e3, e4, e5⟩, e6⟩ := e
  refine ⟨?_, by rw [e1]; exact h2, by rw [e2]; exact h3, h4, h5, fun t ht => ?_⟩
  · unfold xFs
    rw [e3, e4, e5]
    exact h1
  · obtain ⟨b, g1, g2⟩ := h6 t ht
    exact ⟨b, by rw [tFs_eq b (e6 t ht)]; exact g1, g2⟩
/-- one thing anew -/
theorem CRaw.thing {G : xG} {w w' : xW} {ca th : Nat → Nat} {B B' : xS} {n t : Nat} {L : List Nat} {T T' : Nat → xTg} {b' : Value} (h : CRaw G w ca th B n L T) (hw : xKp (fun k => k ≠ 200 + t) w w')
    (h2 : w' (th t) = some (200 + t, .inr (2, tFs B' t b'))) (htg : tgAt w' (T' t) b') (e0 : B' 0 = B 0 ∧ B' 2 = B 2 ∧ B' 1 0 = B 1 0 ∧ B' 3 0 = B 3 0 ∧ B' 4 0 = B 4 0) (ho : ∀ i, i ≠ t → T' i = T i ∧ ∀ b, tFs B' i b = tFs B i b) : CRaw G w' ca th B' n L T' := by
  obtain ⟨h1, h21, h3, h4, h5, h6⟩ := h
  obtain ⟨e1, e2, e3, e4, e5⟩ := e0
  refine ⟨?_, by rw [e1]; exact hw _ _ _ h21 (by omega), by rw [e2]; exact hw _ _ _ h3 (by omega), h4.kp hw (by omega) (by omega), h5.kp hw (by omega) (by omega), fun i hi => ?_⟩
  · have := hw _ _ _ h1 (by omega)
    unfold xFs at this ⊢
    rw [e3, e4, e5]
    exact this
  · by_cases hit : i = t
    · subst hit
      exact ⟨b', h2, htg⟩
    · obtain ⟨b, g1, g2⟩ := h6 i hi
      obtain ⟨o1, o2⟩ := ho i hit
      exact ⟨b, by rw [o2]; exact hw _ _ _ g1 (by omega), by rw [o1]; exact tgAt.kp hw (by omega) g2⟩
theorem tFs_mU {B : xS} {j t i : Nat} {v : Int32} {b : Value} (h : i ≠ t) : tFs (mU B j t v) i b = tFs B i b := by
  unfold tFs
  simp only [mU_i h]
/-- a number of the thing anew -/
theorem CRaw.num {G : xG} {w : xW} {ca th : Nat → Nat} {B : xS} {n t j jj : Nat} {L : List Nat} {T : Nat → xTg} {v : Int32} (h : CRaw G w ca th B n L T) (ht : t < n) (hj : 5 ≤ jj) (hs : ∀ b, (tFs B t b).set j (.int v) = tFs (mU B jj t v) t b) :
    ∃ fs, w (th t) = some (200 + t, .inr (2, fs)) ∧ fs.length = 12 ∧ CRaw G (xu w (th t) (200 + t, .inr (2, fs.set j (.int v)))) ca th (mU B jj t v) n L T := by
  obtain ⟨b, g1, g2⟩ := h.2.2.2.2.2 t ht
  refine ⟨_, g1, rfl, ?_⟩
  rw [hs]
  exact h.thing (xKp.set g1 (fun z => z rfl)) (xu_eq _ _ _) (tgAt.kp (S := fun k => k ≠ 200 + t) (xKp.set g1 (fun z => z rfl)) (by omega) g2) ⟨mU_j (by omega), mU_j (by omega), by rw [mU_j (by omega)], by rw [mU_j (by omega)], by rw [mU_j (by omega)]⟩ (fun i hi => ⟨rfl, fun b => tFs_mU hi⟩)
section XCR2
variable {p : Program} {l : Launch} {e : Env} {R : Room} {s : State} {m : MethodId} {args : Array Value} {below : List Frame} {meth : Method} {c : Code} {G : xG} {cc : ByteArray} {nL : Nat} {own : String} {rt : Option FieldType} {Q : State → Prop} {P P' : xW → Prop} {k n pc : Nat} {lv : List (Nat × Value)} {st : List Value}
variable {ca th : Nat → Nat} {B B' : xS} {N : Nat} {L L' : List Nat} {T T' : Nat → xTg} {w0 : xW}
theorem c_in {w : xW} (h : CRaw G w ca th B N L T) (kk : xJ p l e R s m args below meth c G nL Q (cP G ca th B N L T w) k n pc lv st) : xJ p l e R s m args below meth c G nL Q (fun w' => w' = w) k n pc lv st :=
  x_weak (fun w' e => by subst e; exact ⟨h, xKp.rf⟩) kk
theorem c_this (Γ : xC p s m meth c G cc nL own rt) (j : Nat) {idx : Nat} {v : Value} (hf : (xFs ca B)[j]? = some v) (hj : j < 7) (hlink : Cond.fieldLink own idx RX2 (TX2 j).2.1 (TX2 j).2.2.1 ∈ xAll) (ho : RX2 = (TX2 j).1) (hd : decode cc pc = .ok (.getfield idx, 3))
    (kk : xJ p l e R s m args below meth c G nL Q (cP G ca th B N L T w0) k n (pc + 3) lv (v :: st)) : xJ p l e R s m args below meth c G nL Q (cP G ca th B N L T w0) k n pc lv (.ref (ca 0) :: st) :=
  x_getf Γ kl3 j (fun w h => ⟨_, _, h.1.1, hf⟩) hj hlink (Or.inl ho) hd kk
theorem c_putthis (Γ : xC p s m meth c G cc nL own rt) (j jj : Nat) {idx : Nat} {v : Int32} (hs : (xFs ca B).set j (.int v) = xFs ca (mU B jj 0 v)) (hjj : jj = 1 ∨ jj = 3 ∨ jj = 4) (hj : j < 7) (hlink : Cond.fieldLink own idx RX2 (TX2 j).2.1 (TX2 j).2.2.1 ∈ xAll) (ho : RX2 = (TX2 j).1) (hfin : (TX2 j).2.2.2 = false) (hty : tyX2 j = .int) (hd : decode cc pc = .ok (.putfield idx, 3))
    (kk : xJ p l e R s m args below meth c G nL Q (cP G ca th (mU B jj 0 v) N L T w0) k n (pc + 3) lv st) : xJ p l e R s m args below meth c G nL Q (cP G ca th B N L T w0) k n pc lv (.int v :: .ref (ca 0) :: st) :=
  x_putf Γ kl3 j (fun w h => by
    obtain ⟨⟨h1, h2, h3, h4, h5, h6⟩, hk⟩ := h
    have hw : xKp (fun k => k ≠ 100) w (xu w (ca 0) (100, .inr (3, (xFs ca B).set j (.int v)))) := xKp.set h1 (fun z => z rfl)
    refine ⟨_, _, h1, hj, ⟨by rw [xu_eq, hs], ?_, ?_, h4.kp hw (by omega) (by omega), h5.kp hw (by omega) (by omega), fun t ht => ?_⟩, hk.tr (hw.mono (by intro k hk; omega))⟩
    · rw [mU_j (by omega)]; exact hw _ _ _ h2 (by omega)
    · rw [mU_j (by omega)]; exact hw _ _ _ h3 (by omega)
    · obtain ⟨b, g1, g2⟩ := h6 t ht
      refine ⟨b, ?_, tgAt.kp hw (by omega) g2⟩
      have e : tFs (mU B jj 0 v) t b = tFs B t b := by
        unfold tFs
        rw [mU_j (by omega), mU_j (by omega), mU_j (by omega), mU_j (by omega), mU_j (by omega), mU_j (by omega), mU_j (by omega), mU_j (by omega), mU_j (by omega), mU_j (by omega)]
      rw [e]
      exact hw _ _ _ g1 (by omega)) hj hlink (Or.inl ho) hfin (by rw [hty]; rfl) (by rw [hty]; rfl) hd kk
theorem c_getT (Γ : xC p s m meth c G cc nL own rt) (j : Nat) {idx t : Nat} {host : String} {v : Value} (ht : t < N) (hf : ∀ b, (tFs B t b)[j]? = some v) (hj : j < 12) (hlink : Cond.fieldLinkNest own idx (TX1 j).1 (TX1 j).2.1 (TX1 j).2.2.1 host ∈ xAll) (hd : decode cc pc = .ok (.getfield idx, 3))
    (kk : xJ p l e R s m args below meth c G nL Q (cP G ca th B N L T w0) k n (pc + 3) lv (v :: st)) : xJ p l e R s m args below meth c G nL Q (cP G ca th B N L T w0) k n pc lv (.ref (th t) :: st) :=
  x_getfN Γ kl2 j (fun w h => by
    obtain ⟨b, g1, g2⟩ := h.1.2.2.2.2.2 t ht
    exact ⟨_, _, g1, hf b⟩) hj hlink hd kk
theorem c_putT (Γ : xC p s m meth c G cc nL own rt) (j jj : Nat) {idx t : Nat} {host : String} {v : Int32} (ht : t < N) (hs : ∀ b, (tFs B t b).set j (.int v) = tFs (mU B jj t v) t b) (hjj : 5 ≤ jj) (hj : j < 12) (hlink : Cond.fieldLinkNest own idx (TX1 j).1 (TX1 j).2.1 (TX1 j).2.2.1 host ∈ xAll) (hfin : (TX1 j).2.2.2 = false) (hty : tyX1 j = .int) (hd : decode cc pc = .ok (.putfield idx, 3))
    (kk : xJ p l e R s m args below meth c G nL Q (cP G ca th (mU B jj t v) N L T w0) k n (pc + 3) lv st) : xJ p l e R s m args below meth c G nL Q (cP G ca th B N L T w0) k n pc lv (.int v :: .ref (th t) :: st) :=
  x_putfN Γ kl2 j (fun w h => by
    obtain ⟨fs, g1, g2, g3⟩ := h.1.num ht hjj hs
    exact ⟨_, _, g1, by rw [g2]; exact hj, g3, h.2.tr (xKp.set g1 (by omega))⟩) hj hlink hfin (by rw [hty]; rfl) (by rw [hty]; rfl) hd kk
theorem c_ald (Γ : xC p s m meth c G cc nL own rt) {j jj t : Nat} {i : Int32} (hi : i = nI t) (hj : j = 1 ∧ jj = 0 ∧ t < 5 ∨ j = 2 ∧ jj = 2 ∧ t < 8) (hd : decode cc pc = .ok (.iaload, 1))
    (kk : xJ p l e R s m args below meth c G nL Q (cP G ca th B N L T w0) k n (pc + 1) lv (.int (B jj t) :: st)) : xJ p l e R s m args below meth c G nL Q (cP G ca th B N L T w0) k n pc lv (.int i :: .ref (ca j) :: st) := by
  subst hi
  rcases hj with ⟨rfl, rfl, ht⟩ | ⟨rfl, rfl, ht⟩
  · exact x_iald (N := 5) (f := B 0) Γ (fun w h => ⟨_, h.1.2.1⟩) (vp_in_nI (by omega) (by omega)) (by rw [nI_clamp (by omega)]) hd kk
  · exact x_iald (N := 8) (f := B 2) Γ (fun w h => ⟨_, h.1.2.2.1⟩) (vp_in_nI (by omega) (by omega)) (by rw [nI_clamp (by omega)]) hd kk
theorem CRaw.arr {w : xW} (h : CRaw G w ca th B N L T) {j jj t len : Nat} {v : Int32} (hj : j = 1 ∧ jj = 0 ∧ len = 5 ∨ j = 2 ∧ jj = 2 ∧ len = 8) : w (ca j) = some (100 + j, .inl (G.2 1, len, .inl (B jj))) ∧ CRaw G (xu w (ca j) (100 + j, .inl (G.2 1, len, .inl (upd (B jj) t v)))) ca th (mU B jj t v) N L T := by
  obtain ⟨h1, h2, h3, h4, h5, h6⟩ := h
  have hat : w (ca j) = some (100 + j, .inl (G.2 1, len, .inl (B jj))) := by
    rcases hj with ⟨rfl, rfl, rfl⟩ | ⟨rfl, rfl, rfl⟩
    · exact h2
    · exact h3
  have hw : xKp (fun k => k ≠ 100 + j) w (xu w (ca j) (100 + j, .inl (G.2 1, len, .inl (upd (B jj) t v)))) := xKp.set hat (fun z => z rfl)
  refine ⟨hat, ?_, ?_, ?_, h4.kp hw (by omega) (by omega), h5.kp hw (by omega) (by omega), fun i hi => ?_⟩
  · have := hw _ _ _ h1 (by omega)
    unfold xFs at this ⊢
    rw [mU_j (by omega), mU_j (by omega), mU_j (by omega)]
    exact this
  · rcases hj with ⟨rfl, rfl, rfl⟩ | ⟨rfl, rfl, rfl⟩
    · rw [xu_eq, mU_row]
    · rw [mU_j (by omega)]; exact hw _ _ _ h2 (by omega)
  · rcases hj with ⟨rfl, rfl, rfl⟩ | ⟨rfl, rfl, rfl⟩
    · rw [mU_j (by omega)]; exact hw _ _ _ h3 (by omega)
    · rw [xu_eq, mU_row]
  · obtain ⟨b, g1, g2⟩ := h6 i hi
    refine ⟨b, ?_, tgAt.kp hw (by omega) g2⟩
    have e : tFs (mU B jj t v) i b = tFs B i b := by
      unfold tFs
      rw [mU_j (by omega), mU_j (by omega), mU_j (by omega), mU_j (by omega), mU_j (by omega), mU_j (by omega), mU_j (by omega), mU_j (by omega), mU_j (by omega), mU_j (by omega)]
    rw [e]
    exact hw _ _ _ g1 (by omega)
theorem c_ast (Γ : xC p s m meth c G cc nL own rt) {j jj t len : Nat} {i v : Int32} (hi : i = nI t) (hj : j = 1 ∧ jj = 0 ∧ len = 5 ∨ j = 2 ∧ jj = 2 ∧ len = 8) (ht : t < len) (hd : decode cc pc = .ok (.iastore, 1))
    (kk : xJ p l e R s m args below meth c G nL Q (cP G ca th (mU B jj t v) N L T w0) k n (pc + 1) lv st) : xJ p l e R s m args below meth c G nL Q (cP G ca th B N L T w0) k n pc lv (.int v :: .int i :: .ref (ca j) :: st) := by
  subst hi
  refine x_iast (N := len) (f := B jj) Γ (fun w h => ?_) (vp_in_nI ht (by omega)) hd kk
  obtain ⟨h2, h3⟩ := h.1.arr (t := t) (v := v) hj
  refine ⟨_, h2, ?_⟩
  rw [nI_clamp (by omega)]
  exact ⟨h3, h.2.tr (xKp.set h2 (by omega))⟩
theorem c_same {φ : Prop} (kk : φ → xJ p l e R s m args below meth c G nL Q P k n pc lv st) : xJ p l e R s m args below meth c G nL Q (fun w' => ∃ w1, P w1 ∧ φ ∧ w' = w1) k n pc lv st := m_same kk
theorem c_then {φ : Prop} (kk : φ → xJ p l e R s m args below meth c G nL Q (cP G ca th B' N L' T' w0) k n pc lv st) : xJ p l e R s m args below meth c G nL Q (fun w' => ∃ w1, cP G ca th B N L T w0 w1 ∧ φ ∧ cP G ca th B' N L' T' w1 w') k n pc lv st :=
  x_then (fun w' h => by obtain ⟨w1, h1, h2, h3⟩ := h; exact ⟨h2, h3.1, h1.2.tr h3.2⟩) kk
theorem c_then0 (kk : xJ p l e R s m args below meth c G nL Q (cP G ca th B' N L' T' w0) k n pc lv st) : xJ p l e R s m args below meth c G nL Q (fun w' => ∃ w1, cP G ca th B N L T w0 w1 ∧ cP G ca th B' N L' T' w1 w') k n pc lv st :=
  x_weak (fun w' h => by obtain ⟨w1, h1, h3⟩ := h; exact ⟨h3.1, h1.2.tr h3.2⟩) kk
theorem c_thing {t : Nat} (ht : t < N) : ∀ w, cP G ca th B N L T w0 w → ∃ k0 fs, w (th t) = some (k0, .inr (2, fs)) := fun w h => by
  obtain ⟨b, g1, -⟩ := h.1.2.2.2.2.2 t ht
  exact ⟨_, _, g1⟩
theorem c_self : ∀ w, cP G ca th B N L T w0 w → ∃ k0 fs, w (ca 0) = some (k0, .inr (3, fs)) := fun w h => ⟨_, _, h.1.1⟩
theorem c_lst3 : ∀ w, cP G ca th B N L T w0 w → ∃ k0 fs, w (ca 3) = some (k0, .inr (0, fs)) := fun w h => h.1.2.2.2.1.obj
theorem c_lst4 : ∀ w, cP G ca th B N L T w0 w → ∃ k0 fs, w (ca 4) = some (k0, .inr (0, fs)) := fun w h => h.1.2.2.2.2.1.obj
end XCR2
end XCR
end
section
section XC1
theorem xu_xu (w : xW) (a : Nat) (x y : Nat × va_E) : xu (xu w a x) a y = xu w a y := by
  funext b
  by_cases h : b = a
  · subst h; rw [xu_eq, xu_eq]
  · rw [xu_ne h, xu_ne h, xu_ne h]
theorem xu_4 (w : xW) (a q : Nat) (x y z : Nat × va_E) : xu (xu (xu w a x) q y) a z = xu (xu w q y) a z := by
  funext b
  by_cases h : b = a
  · subst h; rw [xu_eq, xu_eq]
  · rw [xu_ne h, xu_ne h]
    by_cases h2 : b = q
    · subst h2; rw [xu_eq, xu_eq]
    · rw [xu_ne h2, xu_ne h2, xu_ne h]
theorem xu_none {w : xW} {a q : Nat} {x : Nat × va_E} (h : xu w a x q = none) : w q = none ∧ q ≠ a := by
  by_cases hq : q = a
  · subst hq; rw [xu_eq] at h; cases h
  · rw [xu_ne hq] at h; exact ⟨h, hq⟩
theorem lt_le {x a b : Int32} (h : a.toInt = b.toInt + 1) : x < a ↔ x ≤ b := by
  rw [Int32.lt_iff_toInt_lt, Int32.le_iff_toInt_le]
  omega
def lkp (d : Int32) : xTg → Int32
  | [] => 12
  | q :: r => if q.2 ≤ d then q.1 else lkp d r
variable {l : Launch} {G : xG}
set_option maxRecDepth 100000 in
theorem t2_isCounter {w : xW} {x : Int32} : xMet l G yX2_isCounter cX2_isCounter 1 (some .boolean) ({ frames := 0, cells := 0, slots := 0, locals := 0 } : Room) [.int x] w embI (fun r w' => bq (rIn 0 4 x) r ∧ w' = w) := by
  refine xMet_of (by decide) (Nat.le_of_ble_eq_true rfl) ?_
  intro p e s m below meth c Γ hnm
  refine x_iload_n Γ dX2_isCounter_0 rfl rfl ?_
  refine x_if_lt (tgt := 13) Γ dX2_isCounter_1 (by decide) (fun c1 => ?_) (fun c1 => ?_)
  · refine x_iconst (v := 0) Γ dX2_isCounter_13 (by decide) ?_
    exact x_iret Γ rfl rfl (fun w2 e2 => ⟨Or.inr ⟨fun z => absurd c1 (Int32.not_lt.mpr z.1), rfl⟩, e2⟩) ⟨Nat.le_of_ble_eq_true rfl, Nat.le_of_ble_eq_true rfl⟩ dX2_isCounter_14
  · refine x_iload_n Γ dX2_isCounter_4 rfl rfl ?_
    refine x_iconst (v := 5) Γ dX2_isCounter_5 (by decide) ?_
    refine x_icmp_ge (tgt := 13) Γ dX2_isCounter_6 (by decide) (fun c6 => ?_) (fun c6 => ?_)
    · refine x_iconst (v := 0) Γ dX2_isCounter_13 (by decide) ?_
      exact x_iret Γ rfl rfl (fun w2 e2 => ⟨Or.inr ⟨fun z => (Int32.not_lt.mpr c6) ((lt_le (x := x) (a := 5) (b := 4) (by decide)).mpr z.2), rfl⟩, e2⟩) ⟨Nat.le_of_ble_eq_true rfl, Nat.le_of_ble_eq_true rfl⟩ dX2_isCounter_14
    · refine x_iconst (v := 1) Γ dX2_isCounter_9 (by decide) ?_
      refine x_goto (tgt := 14) Γ dX2_isCounter_10 (by decide) ?_
      exact x_iret Γ rfl rfl (fun w2 e2 => ⟨Or.inl ⟨⟨Int32.not_lt.mp c1, (lt_le (by decide)).mp (Int32.not_le.mp c6)⟩, rfl⟩, e2⟩) ⟨Nat.le_of_ble_eq_true rfl, Nat.le_of_ble_eq_true rfl⟩ dX2_isCounter_14
set_option maxRecDepth 100000 in
theorem t2_isPerson {w : xW} {x : Int32} : xMet l G yX2_isPerson cX2_isPerson 1 (some .boolean) ({ frames := 0, cells := 0, slots := 0, locals := 0 } : Room) [.int x] w embI (fun r w' => bq (rIn 0 7 x) r ∧ w' = w) := by
  refine xMet_of (by decide) (Nat.le_of_ble_eq_true rfl) ?_
  intro p e s m below meth c Γ hnm
  refine x_iload_n Γ dX2_isPerson_0 rfl rfl ?_
  refine x_if_lt (tgt := 14) Γ dX2_isPerson_1 (by decide) (fun c1 => ?_) (fun c1 => ?_)
  · refine x_iconst (v := 0) Γ dX2_isPerson_14 (by decide) ?_
    exact x_iret Γ rfl rfl (fun w2 e2 => ⟨Or.inr ⟨fun z => absurd c1 (Int32.not_lt.mpr z.1), rfl⟩, e2⟩) ⟨Nat.le_of_ble_eq_true rfl, Nat.le_of_ble_eq_true rfl⟩ dX2_isPerson_15
  · refine x_iload_n Γ dX2_isPerson_4 rfl rfl ?_
    refine x_bipush (v := 8) Γ dX2_isPerson_5 (by decide) ?_
    refine x_icmp_ge (tgt := 14) Γ dX2_isPerson_7 (by decide) (fun c7 => ?_) (fun c7 => ?_)
    · refine x_iconst (v := 0) Γ dX2_isPerson_14 (by decide) ?_
      exact x_iret Γ rfl rfl (fun w2 e2 => ⟨Or.inr ⟨fun z => (Int32.not_lt.mpr c7) ((lt_le (x := x) (a := 8) (b := 7) (by decide)).mpr z.2), rfl⟩, e2⟩) ⟨Nat.le_of_ble_eq_true rfl, Nat.le_of_ble_eq_true rfl⟩ dX2_isPerson_15
    · refine x_iconst (v := 1) Γ dX2_isPerson_10 (by decide) ?_
      refine x_goto (tgt := 15) Γ dX2_isPerson_11 (by decide) ?_
      exact x_iret Γ rfl rfl (fun w2 e2 => ⟨Or.inl ⟨⟨Int32.not_lt.mp c1, (lt_le (by decide)).mp (Int32.not_le.mp c7)⟩, rfl⟩, e2⟩) ⟨Nat.le_of_ble_eq_true rfl, Nat.le_of_ble_eq_true rfl⟩ dX2_isPerson_15
set_option maxRecDepth 100000 in
theorem t_tagN {w : xW} {a : Nat} {p0 d0 : Int32} {x0 x1 x2 : Value} (h : w a = some (110, .inr (1, [x0, x1, x2]))) : xMet l G yX0_init cX0_init 4 none ({ frames := 1, cells := 0, slots := 0, locals := 30 } : Room) [.ref a, .int p0, .int d0, .null] w embV (fun _ w' => w' = xu w a (110, .inr (1, [.int p0, .int d0, .null]))) := by
  refine xMet_of (by decide) (Nat.le_of_ble_eq_true rfl) ?_
  intro p e s m below meth c Γ hnm
  refine x_aload_n Γ dX0_init_0 rfl rfl ?_
  refine x_obj Γ k_247 ⟨Nat.le_of_ble_eq_true rfl, Nat.le_of_ble_eq_true rfl⟩ dX0_init_1 ?_
  refine x_aload_n Γ dX0_init_4 rfl rfl ?_
  refine x_iload_n Γ dX0_init_5 rfl rfl ?_
  refine x_putfF (P' := fun w1 => w1 = xu w a (110, .inr (1, [.int p0, x1, x2]))) Γ hnm kl1 0 (fun w9 e9 => by rw [e9]; exact ⟨_, _, h, Nat.le_of_ble_eq_true rfl, rfl⟩) (by decide) k_248 rfl rfl rfl rfl dX0_init_6 ?_
  refine x_aload_n Γ dX0_init_9 rfl rfl ?_
  refine x_iload_n Γ dX0_init_10 rfl rfl ?_
  refine x_putfF (P' := fun w1 => w1 = xu w a (110, .inr (1, [.int p0, .int d0, x2]))) Γ hnm kl1 1 (fun w9 e9 => by rw [e9]; exact ⟨_, _, xu_eq _ _ _, Nat.le_of_ble_eq_true rfl, xu_xu _ _ _ _⟩) (by decide) k_250 rfl rfl rfl rfl dX0_init_11 ?_
  refine x_aload_n Γ dX0_init_14 rfl rfl ?_
  refine x_aload_nN Γ dX0_init_15 rfl rfl ?_
  refine x_putfF (P' := fun w1 => w1 = xu w a (110, .inr (1, [.int p0, .int d0, .null]))) Γ hnm kl1 2 (fun w9 e9 => by rw [e9]; exact ⟨_, _, xu_eq _ _ _, Nat.le_of_ble_eq_true rfl, xu_xu _ _ _ _⟩) (by decide) k_252 rfl rfl rfl rfl dX0_init_16 ?_
  exact x_vret Γ rfl (fun w2 e2 => e2) ⟨Nat.le_of_ble_eq_true rfl, Nat.le_of_ble_eq_true rfl⟩ dX0_init_19
set_option maxRecDepth 100000 in
theorem t_tagR {w : xW} {a b0 : Nat} {p0 d0 : Int32} {x0 x1 x2 : Value} (h : w a = some (110, .inr (1, [x0, x1, x2]))) : xMet l G yX0_init cX0_init 4 none ({ frames := 1, cells := 0, slots := 0, locals := 30 } : Room) [.ref a, .int p0, .int d0, .ref b0] w embV (fun _ w' => w' = xu w a (110, .inr (1, [.int p0, .int d0, .ref b0]))) := by
  refine xMet_of (by decide) (Nat.le_of_ble_eq_true rfl) ?_
  intro p e s m below meth c Γ hnm
  refine x_aload_n Γ dX0_init_0 rfl rfl ?_
  refine x_obj Γ k_247 ⟨Nat.le_of_ble_eq_true rfl, Nat.le_of_ble_eq_true rfl⟩ dX0_init_1 ?_
  refine x_aload_n Γ dX0_init_4 rfl rfl ?_
  refine x_iload_n Γ dX0_init_5 rfl rfl ?_
  refine x_putfF (P' := fun w1 => w1 = xu w a (110, .inr (1, [.int p0, x1, x2]))) Γ hnm kl1 0 (fun w9 e9 => by rw [e9]; exact ⟨_, _, h, Nat.le_of_ble_eq_true rfl, rfl⟩) (by decide) k_248 rfl rfl rfl rfl dX0_init_6 ?_
  refine x_aload_n Γ dX0_init_9 rfl rfl ?_
  refine x_iload_n Γ dX0_init_10 rfl rfl ?_
  refine x_putfF (P' := fun w1 => w1 = xu w a (110, .inr (1, [.int p0, .int d0, x2]))) Γ hnm kl1 1 (fun w9 e9 => by rw [e9]; exact ⟨_, _, xu_eq _ _ _, Nat.le_of_ble_eq_true rfl, xu_xu _ _ _ _⟩) (by decide) k_250 rfl rfl rfl rfl dX0_init_11 ?_
  refine x_aload_n Γ dX0_init_14 rfl rfl ?_
  refine x_aload_n Γ dX0_init_15 rfl rfl ?_
  refine x_putfF (P' := fun w1 => w1 = xu w a (110, .inr (1, [.int p0, .int d0, .ref b0]))) Γ hnm kl1 2 (fun w9 e9 => by rw [e9]; exact ⟨_, _, xu_eq _ _ _, Nat.le_of_ble_eq_true rfl, xu_xu _ _ _ _⟩) (by decide) k_252 rfl rfl rfl rfl dX0_init_16 ?_
  exact x_vret Γ rfl (fun w2 e2 => e2) ⟨Nat.le_of_ble_eq_true rfl, Nat.le_of_ble_eq_true rfl⟩ dX0_init_19
set_option maxRecDepth 100000 in
theorem t_tag {w : xW} {a : Nat} {p0 d0 : Int32} {x0 x1 x2 bv : Value} (h : w a = some (110, .inr (1, [x0, x1, x2]))) (hb : bv = .null ∨ ∃ q, bv = .ref q) : xMet l G yX0_init cX0_init 4 none ({ frames := 1, cells := 0, slots := 0, locals := 30 } : Room) [.ref a, .int p0, .int d0, bv] w embV (fun _ w' => w' = xu w a (110, .inr (1, [.int p0, .int d0, bv]))) := by
  rcases hb with rfl | ⟨q, rfl⟩
  · exact t_tagN h
  · exact t_tagR h
set_option maxRecDepth 100000 in
theorem t_isAtC {w : xW} {a k0 : Nat} {fs : List Value} (h : w a = some (k0, .inr (2, fs))) {v : Int32} (hf : fs[5]? = some (.int v)) : xMet l G yX1_isAtCounter cX1_isAtCounter 1 (some .boolean) ({ frames := 1, cells := 0, slots := 0, locals := 40 } : Room) [.ref a] w embI (fun r w' => bq (rIn 0 4 v) r ∧ w' = w) := by
  refine xMet_of (by decide) (Nat.le_of_ble_eq_true rfl) ?_
  intro p e s m below meth c Γ hnm
  refine x_aload_n Γ dX1_isAtCounter_0 rfl rfl ?_
  refine x_getf Γ kl2 5 (xv_get h hf) (by decide) k_271 (Or.inl rfl) dX1_isAtCounter_1 ?_
  refine x_invSN (emb := embI) (rm := ({ frames := 0, cells := 0, slots := 0, locals := 0 } : Room)) Γ [.int v] (fun w1 r w2 => bq (rIn 0 4 v) r ∧ w2 = w1) rfl (fun w1 h1 => t2_isCounter) k_106 k_1 k_396 k_105 hd_X2_isCounter ⟨Nat.le_of_ble_eq_true rfl, Nat.le_of_ble_eq_true rfl⟩ ⟨Nat.le_of_ble_eq_true rfl, Nat.le_of_ble_eq_true rfl⟩ (Nat.le_of_ble_eq_true rfl) dX1_isAtCounter_4 (fun r => ?_)
  refine m_same (fun q => ?_)
  exact x_iret Γ rfl q.nr (fun w2 e2 => ⟨q, e2⟩) ⟨Nat.le_of_ble_eq_true rfl, Nat.le_of_ble_eq_true rfl⟩ dX1_isAtCounter_7
set_option maxRecDepth 100000 in
theorem t_hasLoan {w : xW} {a k0 : Nat} {fs : List Value} (h : w a = some (k0, .inr (2, fs))) {v : Int32} (hf : fs[9]? = some (.int v)) : xMet l G yX1_hasLoan cX1_hasLoan 1 (some .boolean) ({ frames := 0, cells := 0, slots := 0, locals := 0 } : Room) [.ref a] w embI (fun r w' => bq (0 < v) r ∧ w' = w) := by
  refine xMet_of (by decide) (Nat.le_of_ble_eq_true rfl) ?_
  intro p e s m below meth c Γ hnm
  refine x_aload_n Γ dX1_hasLoan_0 rfl rfl ?_
  refine x_getf Γ kl2 9 (xv_get h hf) (by decide) k_278 (Or.inl rfl) dX1_hasLoan_1 ?_
  refine x_if_le (tgt := 11) Γ dX1_hasLoan_4 (by decide) (fun c4 => ?_) (fun c4 => ?_)
  · refine x_iconst (v := 0) Γ dX1_hasLoan_11 (by decide) ?_
    exact x_iret Γ rfl rfl (fun w2 e2 => ⟨Or.inr ⟨Int32.not_lt.mpr c4, rfl⟩, e2⟩) ⟨Nat.le_of_ble_eq_true rfl, Nat.le_of_ble_eq_true rfl⟩ dX1_hasLoan_12
  · refine x_iconst (v := 1) Γ dX1_hasLoan_7 (by decide) ?_
    refine x_goto (tgt := 12) Γ dX1_hasLoan_8 (by decide) ?_
    exact x_iret Γ rfl rfl (fun w2 e2 => ⟨Or.inl ⟨Int32.not_le.mp c4, rfl⟩, e2⟩) ⟨Nat.le_of_ble_eq_true rfl, Nat.le_of_ble_eq_true rfl⟩ dX1_hasLoan_12
set_option maxRecDepth 100000 in
theorem t_isCalled {w : xW} {a k0 : Nat} {fs : List Value} (h : w a = some (k0, .inr (2, fs))) {v : Int32} (hf : fs[11]? = some (.int v)) : xMet l G yX1_isCalled cX1_isCalled 1 (some .boolean) ({ frames := 0, cells := 0, slots := 0, locals := 0 } : Room) [.ref a] w embI (fun r w' => bq (¬ v = -1) r ∧ w' = w) := by
  refine xMet_of (by decide) (Nat.le_of_ble_eq_true rfl) ?_
  intro p e s m below meth c Γ hnm
  refine x_aload_n Γ dX1_isCalled_0 rfl rfl ?_
  refine x_getf Γ kl2 11 (xv_get h hf) (by decide) k_282 (Or.inl rfl) dX1_isCalled_1 ?_
  refine x_iconst (v := (-1)) Γ dX1_isCalled_4 (by decide) ?_
  refine x_icmp_eq (tgt := 12) Γ dX1_isCalled_5 (by decide) (fun c5 => ?_) (fun c5 => ?_)
  · refine x_iconst (v := 0) Γ dX1_isCalled_12 (by decide) ?_
    exact x_iret Γ rfl rfl (fun w2 e2 => ⟨Or.inr ⟨not_not_intro c5, rfl⟩, e2⟩) ⟨Nat.le_of_ble_eq_true rfl, Nat.le_of_ble_eq_true rfl⟩ dX1_isCalled_13
  · refine x_iconst (v := 1) Γ dX1_isCalled_8 (by decide) ?_
    refine x_goto (tgt := 13) Γ dX1_isCalled_9 (by decide) ?_
    exact x_iret Γ rfl rfl (fun w2 e2 => ⟨Or.inl ⟨c5, rfl⟩, e2⟩) ⟨Nat.le_of_ble_eq_true rfl, Nat.le_of_ble_eq_true rfl⟩ dX1_isCalled_13
set_option maxRecDepth 100000 in
theorem t_beginLoan {w : xW} {a k0 : Nat} {fs : List Value} (h : w a = some (k0, .inr (2, fs))) {x z : Int32} (hlen : fs.length = 12) : xMet l G yX1_beginLoan cX1_beginLoan 3 none ({ frames := 0, cells := 0, slots := 0, locals := 0 } : Room) [.ref a, .int x, .int z] w embV (fun _ w' => w' = xu w a (k0, .inr (2, ((fs).set 10 (.int x)).set 9 (.int z)))) := by
  refine xMet_of (by decide) (Nat.le_of_ble_eq_true rfl) ?_
  intro p e s m below meth c Γ hnm
  refine x_aload_n Γ dX1_beginLoan_0 rfl rfl ?_
  refine x_iload_n Γ dX1_beginLoan_1 rfl rfl ?_
  refine x_putf (P' := fun w1 => w1 = xu w a (k0, .inr (2, (fs).set 10 (.int x)))) Γ kl2 10 (fun w9 e9 => by rw [e9]; exact ⟨_, _, h, by simp only [List.length_set, hlen]; decide, rfl⟩) (by decide) k_280 (Or.inl rfl) rfl rfl rfl dX1_beginLoan_2 ?_
  refine x_aload_n Γ dX1_beginLoan_5 rfl rfl ?_
  refine x_iload_n Γ dX1_beginLoan_6 rfl rfl ?_
  refine x_putf (P' := fun w1 => w1 = xu w a (k0, .inr (2, ((fs).set 10 (.int x)).set 9 (.int z)))) Γ kl2 9 (fun w9 e9 => by rw [e9]; exact ⟨_, _, xu_eq _ _ _, by simp only [List.length_set, hlen]; decide, xu_xu _ _ _ _⟩) (by decide) k_278 (Or.inl rfl) rfl rfl rfl dX1_beginLoan_7 ?_
  exact x_vret Γ rfl (fun w2 e2 => e2) ⟨Nat.le_of_ble_eq_true rfl, Nat.le_of_ble_eq_true rfl⟩ dX1_beginLoan_10
set_option maxRecDepth 100000 in
theorem t_endLoan {w : xW} {a k0 : Nat} {fs : List Value} (h : w a = some (k0, .inr (2, fs))) (hlen : fs.length = 12) : xMet l G yX1_endLoan cX1_endLoan 1 none ({ frames := 0, cells := 0, slots := 0, locals := 0 } : Room) [.ref a] w embV (fun _ w' => w' = xu w a (k0, .inr (2, (((fs).set 10 (.int (-1))).set 9 (.int 0)).set 11 (.int (-1))))) := by
  refine xMet_of (by decide) (Nat.le_of_ble_eq_true rfl) ?_
  intro p e s m below meth c Γ hnm
  refine x_aload_n Γ dX1_endLoan_0 rfl rfl ?_
  refine x_iconst (v := (-1)) Γ dX1_endLoan_1 (by decide) ?_
  refine x_putf (P' := fun w1 => w1 = xu w a (k0, .inr (2, (fs).set 10 (.int (-1))))) Γ kl2 10 (fun w9 e9 => by rw [e9]; exact ⟨_, _, h, by simp only [List.length_set, hlen]; decide, rfl⟩) (by decide) k_280 (Or.inl rfl) rfl rfl rfl dX1_endLoan_2 ?_
  refine x_aload_n Γ dX1_endLoan_5 rfl rfl ?_
  refine x_iconst (v := 0) Γ dX1_endLoan_6 (by decide) ?_
  refine x_putf (P' := fun w1 => w1 = xu w a (k0, .inr (2, ((fs).set 10 (.int (-1))).set 9 (.int 0)))) Γ kl2 9 (fun w9 e9 => by rw [e9]; exact ⟨_, _, xu_eq _ _ _, by simp only [List.length_set, hlen]; decide, xu_xu _ _ _ _⟩) (by decide) k_278 (Or.inl rfl) rfl rfl rfl dX1_endLoan_7 ?_
  refine x_aload_n Γ dX1_endLoan_10 rfl rfl ?_
  refine x_iconst (v := (-1)) Γ dX1_endLoan_11 (by decide) ?_
  refine x_putf (P' := fun w1 => w1 = xu w a (k0, .inr (2, (((fs).set 10 (.int (-1))).set 9 (.int 0)).set 11 (.int (-1))))) Γ kl2 11 (fun w9 e9 => by rw [e9]; exact ⟨_, _, xu_eq _ _ _, by simp only [List.length_set, hlen]; decide, xu_xu _ _ _ _⟩) (by decide) k_282 (Or.inl rfl) rfl rfl rfl dX1_endLoan_12 ?_
  exact x_vret Γ rfl (fun w2 e2 => e2) ⟨Nat.le_of_ble_eq_true rfl, Nat.le_of_ble_eq_true rfl⟩ dX1_endLoan_15
set_option maxRecDepth 100000 in
theorem t_moveTo {w : xW} {a k0 : Nat} {fs : List Value} (h : w a = some (k0, .inr (2, fs))) {np dy : Int32} {bv : Value} (hlen : fs.length = 12) (hbf : fs[6]? = some bv) (hb : bv = .null ∨ ∃ q, bv = .ref q) : xMet l G yX1_moveTo cX1_moveTo 3 none ({ frames := 2, cells := 1, slots := 3, locals := 60 } : Room) [.ref a, .int np, .int dy] w embV (fun _ w' => ∃ q, w q = none ∧ q ≠ a ∧ w' = xu (xu w q (110, .inr (1, [.int np, .int (dy + 1), bv]))) a (k0, .inr (2, (fs.set 5 (.int np)).set 6 (.ref q)))) := by
  refine xMet_of (by decide) (Nat.le_of_ble_eq_true rfl) ?_
  intro p e s m below meth c Γ hnm
  refine x_aload_n Γ dX1_moveTo_0 rfl rfl ?_
  refine x_iload_n Γ dX1_moveTo_1 rfl rfl ?_
  refine x_putf (P' := fun w1 => w1 = xu w a (k0, .inr (2, fs.set 5 (.int np)))) Γ kl2 5 (fun w9 e9 => by rw [e9]; exact ⟨_, _, h, by rw [hlen]; decide, rfl⟩) (by decide) k_271 (Or.inl rfl) rfl rfl rfl dX1_moveTo_2 ?_
  refine x_aload_n Γ dX1_moveTo_5 rfl rfl ?_
  refine x_new (F := fun q w2 => w2 = xu (xu w a (k0, .inr (2, fs.set 5 (.int np)))) q (110, .inr (1, [.int 0, .int 0, .null])) ∧ (xu w a (k0, .inr (2, fs.set 5 (.int np)))) q = none) Γ kl1 [.int 0, .int 0, .null] 110 (by decide) k_242 k_243 k_15 (fun w9 q e9 h9 => by subst e9; exact ⟨rfl, h9⟩) ⟨Nat.le_of_ble_eq_true rfl, Nat.le_of_ble_eq_true rfl⟩ dX1_moveTo_6 ?_
  intro q
  refine x_then (P2 := fun w2 => w2 = xu (xu w a (k0, .inr (2, fs.set 5 (.int np)))) q (110, .inr (1, [.int 0, .int 0, .null]))) (φ := (xu w a (k0, .inr (2, fs.set 5 (.int np)))) q = none) (fun w9 h9 => ⟨h9.2, h9.1⟩) (fun hq => ?_)
  have hqa := xu_none hq
  refine x_dup Γ dX1_moveTo_9 rfl ?_
  refine x_iload_n Γ dX1_moveTo_10 rfl rfl ?_
  refine x_iload_n Γ dX1_moveTo_11 rfl rfl ?_
  refine x_iconst (v := 1) Γ dX1_moveTo_12 (by decide) ?_
  refine x_iadd Γ dX1_moveTo_13 ?_
  refine x_aload_n Γ dX1_moveTo_14 rfl rfl ?_
  refine x_getf Γ kl2 6 (fun w9 e9 => by rw [e9]; exact ⟨_, _, by rw [xu_ne (fun z => hqa.2 z.symm)]; exact xu_eq _ _ _, by rw [List.getElem?_set_ne (by decide)]; exact hbf⟩) (by decide) k_273 (Or.inl rfl) dX1_moveTo_15 ?_
  refine x_invIN (rm := ({ frames := 1, cells := 0, slots := 0, locals := 30 } : Room)) Γ [.int np, .int (dy + 1), bv] (fun w1 _ w2 => w2 = xu w1 q (110, .inr (1, [.int np, .int (dy + 1), bv]))) rfl (fun w1 h1 => t_tag (x0 := .int 0) (x1 := .int 0) (x2 := .null) (by rw [h1]; exact xu_eq _ _ _) hb) rfl k_246 k_15 k_244 k_245 hd_X0_init ⟨Nat.le_of_ble_eq_true rfl, Nat.le_of_ble_eq_true rfl⟩ ⟨Nat.le_of_ble_eq_true rfl, Nat.le_of_ble_eq_true rfl⟩ (Nat.le_of_ble_eq_true rfl) dX1_moveTo_18 (fun _ => ?_)
  refine x_weak (P' := fun w2 => w2 = xu (xu w a (k0, .inr (2, fs.set 5 (.int np)))) q (110, .inr (1, [.int np, .int (dy + 1), bv]))) (fun w9 h9 => by obtain ⟨w8, h8, h7⟩ := h9; rw [h7, h8, xu_xu]) ?_
  refine x_putf (P' := fun w2 => w2 = xu (xu (xu w a (k0, .inr (2, fs.set 5 (.int np)))) q (110, .inr (1, [.int np, .int (dy + 1), bv]))) a (k0, .inr (2, (fs.set 5 (.int np)).set 6 (.ref q)))) Γ kl2 6 (fun w9 e9 => by rw [e9]; exact ⟨_, _, by rw [xu_ne (fun z => hqa.2 z.symm)]; exact xu_eq _ _ _, by rw [List.length_set, hlen]; decide, rfl⟩) (by decide) k_273 (Or.inl rfl) rfl rfl rfl dX1_moveTo_21 ?_
  exact x_vret Γ rfl (fun w2 e2 => ⟨q, hqa.1, hqa.2, by rw [e2, xu_4]⟩) ⟨Nat.le_of_ble_eq_true rfl, Nat.le_of_ble_eq_true rfl⟩ dX1_moveTo_24
theorem tgAt_ref {w : xW} {r : xTg} {b : Value} (h : tgAt w r b) : b = .null ∨ ∃ z, b = .ref z := by
  cases r with
  | nil => exact Or.inl h
  | cons q r =>
    obtain ⟨a, b2, h1, -⟩ := h
    exact Or.inr ⟨a, h1⟩
set_option maxRecDepth 100000 in
theorem t_placeAt {w : xW} {a k0 : Nat} {fs : List Value} (h : w a = some (k0, .inr (2, fs))) {dy : Int32} {tg : xTg} {bv : Value} (hbf : fs[6]? = some bv) (htg : tgAt w tg bv) : xMet l G yX1_placeAtBeginningOf cX1_placeAtBeginningOf 3 (some .int) ({ frames := 0, cells := 0, slots := 0, locals := 0 } : Room) [.ref a, .int dy] w embI (fun r w' => r = lkp dy tg ∧ w' = w) := by
  refine xMet_of (by decide) (Nat.le_of_ble_eq_true rfl) ?_
  intro p e s m below meth c Γ hnm
  have loop : ∀ (r : xTg) (b : Value), tgAt w r b → lkp dy r = lkp dy tg → xJ p l e ({ frames := 0, cells := 0, slots := 0, locals := 0 } : Room) s m ([.ref a, .int dy] : List Value).toArray below meth c G 3 (MQ below (xQ G embI (fun r w' => r = lkp dy tg ∧ w' = w)) ([.ref a, .int dy] : List Value).toArray s ({ frames := 0, cells := 0, slots := 0, locals := 0 } : Room).cells ({ frames := 0, cells := 0, slots := 0, locals := 0 } : Room).slots (xA G)) (fun w1 => w1 = w) 0 0 5 [(0, .ref a), (1, .int dy), (2, b)] [] := by
    intro r
    induction r with
    | nil =>
      intro b hb hF
      have hb : b = .null := hb
      subst hb
      refine x_aload_nN Γ dX1_placeAtBeginningOf_5 rfl rfl ?_
      refine x_ifnullN (tgt := 30) Γ dX1_placeAtBeginningOf_6 (by decide) ?_
      refine x_bipush (v := 12) Γ dX1_placeAtBeginningOf_30 (by decide) ?_
      exact x_iret Γ rfl rfl (fun w2 e2 => ⟨hF, e2⟩) ⟨Nat.le_of_ble_eq_true rfl, Nat.le_of_ble_eq_true rfl⟩ dX1_placeAtBeginningOf_32
    | cons q r ih =>
      intro b hb hF
      obtain ⟨a2, b2, rfl, h2, h3⟩ := hb
      rw [lkp] at hF
      refine x_aload_n Γ dX1_placeAtBeginningOf_5 rfl rfl ?_
      refine x_ifnull Γ dX1_placeAtBeginningOf_6 ?_
      refine x_aload_n Γ dX1_placeAtBeginningOf_9 rfl rfl ?_
      refine x_getfN Γ kl1 1 (xv_get h2 rfl) (by decide) k_251 dX1_placeAtBeginningOf_10 ?_
      refine x_iload_n Γ dX1_placeAtBeginningOf_13 rfl rfl ?_
      refine x_icmp_gt (tgt := 22) Γ dX1_placeAtBeginningOf_14 (by decide) (fun c14 => ?_) (fun c14 => ?_)
      · rw [if_neg (Int32.not_le.mpr c14)] at hF
        refine x_aload_n Γ dX1_placeAtBeginningOf_22 rfl rfl ?_
        refine x_getfN Γ kl1 2 (xv_get h2 rfl) (by decide) k_253 dX1_placeAtBeginningOf_23 ?_
        have hb2 : b2 = .null ∨ ∃ z, b2 = .ref z := tgAt_ref h3
        rcases hb2 with rfl | ⟨z, rfl⟩
        · refine x_astore_nN Γ dX1_placeAtBeginningOf_26 rfl rfl (by decide) ?_
          refine x_goto (tgt := 5) Γ dX1_placeAtBeginningOf_27 (by decide) ?_
          refine x_lv [0, 1, 2] rfl ?_
          exact ih _ h3 hF
        · refine x_astore_n Γ dX1_placeAtBeginningOf_26 rfl rfl (by decide) ?_
          refine x_goto (tgt := 5) Γ dX1_placeAtBeginningOf_27 (by decide) ?_
          refine x_lv [0, 1, 2] rfl ?_
          exact ih _ h3 hF
      · rw [if_pos (Int32.not_lt.mp c14)] at hF
        refine x_aload_n Γ dX1_placeAtBeginningOf_17 rfl rfl ?_
        refine x_getfN Γ kl1 0 (xv_get h2 rfl) (by decide) k_249 dX1_placeAtBeginningOf_18 ?_
        exact x_iret Γ rfl rfl (fun w2 e2 => ⟨hF, e2⟩) ⟨Nat.le_of_ble_eq_true rfl, Nat.le_of_ble_eq_true rfl⟩ dX1_placeAtBeginningOf_21
  refine x_aload_n Γ dX1_placeAtBeginningOf_0 rfl rfl ?_
  refine x_getf Γ kl2 6 (xv_get h hbf) (by decide) k_273 (Or.inl rfl) dX1_placeAtBeginningOf_1 ?_
  have hb2 : bv = .null ∨ ∃ z, bv = .ref z := tgAt_ref htg
  rcases hb2 with rfl | ⟨z, rfl⟩
  · refine x_astore_nN Γ dX1_placeAtBeginningOf_4 rfl rfl (by decide) ?_
    refine x_lv [0, 1, 2] rfl ?_
    exact loop tg _ htg rfl
  · refine x_astore_n Γ dX1_placeAtBeginningOf_4 rfl rfl (by decide) ?_
    refine x_lv [0, 1, 2] rfl ?_
    exact loop tg _ htg rfl
set_option maxRecDepth 100000 in
theorem t_thing {w : xW} {a k0 : Nat} {nu ow z c0 dy : Int32} (h : w a = some (k0, .inr (2, [.int 0, .int 0, .int 0, .int 0, .int 0, .int 0, .null, .int 0, .int 0, .int 0, .int 0, .int 0]))) : xMet l G yX1_init cX1_init 6 none ({ frames := 2, cells := 1, slots := 3, locals := 60 } : Room) [.ref a, .int nu, .int ow, .int z, .int c0, .int dy] w embV (fun _ w' => ∃ q, w q = none ∧ q ≠ a ∧ w' = xu (xu w q (110, .inr (1, [.int c0, .int (dy + 1), .null]))) a (k0, .inr (2, [.int nu, .int ow, .int z, .int dy, .int (20 * z), .int c0, .ref q, .int (-1), .int 0, .int 0, .int (-1), .int (-1)]))) := by
  refine xMet_of (by decide) (Nat.le_of_ble_eq_true rfl) ?_
  intro p e s m below meth c Γ hnm
  refine x_aload_n Γ dX1_init_0 rfl rfl ?_
  refine x_obj Γ k_241 ⟨Nat.le_of_ble_eq_true rfl, Nat.le_of_ble_eq_true rfl⟩ dX1_init_1 ?_
  refine x_aload_n Γ dX1_init_4 rfl rfl ?_
  refine x_iconst (v := (-1)) Γ dX1_init_5 (by decide) ?_
  refine x_putf (P' := fun w1 => w1 = xu w a (k0, .inr (2, [.int 0, .int 0, .int 0, .int 0, .int 0, .int 0, .null, .int (-1), .int 0, .int 0, .int 0, .int 0]))) Γ kl2 7 (fun w9 e9 => by rw [e9]; exact ⟨_, _, h, Nat.le_of_ble_eq_true rfl, rfl⟩) (by decide) k_274 (Or.inl rfl) rfl rfl rfl dX1_init_6 ?_
  refine x_aload_n Γ dX1_init_9 rfl rfl ?_
  refine x_iconst (v := 0) Γ dX1_init_10 (by decide) ?_
  refine x_putf (P' := fun w1 => w1 = xu w a (k0, .inr (2, [.int 0, .int 0, .int 0, .int 0, .int 0, .int 0, .null, .int (-1), .int 0, .int 0, .int 0, .int 0]))) Γ kl2 8 (fun w9 e9 => by rw [e9]; exact ⟨_, _, xu_eq _ _ _, Nat.le_of_ble_eq_true rfl, xu_xu _ _ _ _⟩) (by decide) k_276 (Or.inl rfl) rfl rfl rfl dX1_init_11 ?_
  refine x_aload_n Γ dX1_init_14 rfl rfl ?_
  refine x_iconst (v := 0) Γ dX1_init_15 (by decide) ?_
  refine x_putf (P' := fun w1 => w1 = xu w a (k0, .inr (2, [.int 0, .int 0, .int 0, .int 0, .int 0, .int 0, .null, .int (-1), .int 0, .int 0, .int 0, .int 0]))) Γ kl2 9 (fun w9 e9 => by rw [e9]; exact ⟨_, _, xu_eq _ _ _, Nat.le_of_ble_eq_true rfl, xu_xu _ _ _ _⟩) (by decide) k_278 (Or.inl rfl) rfl rfl rfl dX1_init_16 ?_
  refine x_aload_n Γ dX1_init_19 rfl rfl ?_
  refine x_iconst (v := (-1)) Γ dX1_init_20 (by decide) ?_
  refine x_putf (P' := fun w1 => w1 = xu w a (k0, .inr (2, [.int 0, .int 0, .int 0, .int 0, .int 0, .int 0, .null, .int (-1), .int 0, .int 0, .int (-1), .int 0]))) Γ kl2 10 (fun w9 e9 => by rw [e9]; exact ⟨_, _, xu_eq _ _ _, Nat.le_of_ble_eq_true rfl, xu_xu _ _ _ _⟩) (by decide) k_280 (Or.inl rfl) rfl rfl rfl dX1_init_21 ?_
  refine x_aload_n Γ dX1_init_24 rfl rfl ?_
  refine x_iconst (v := (-1)) Γ dX1_init_25 (by decide) ?_
  refine x_putf (P' := fun w1 => w1 = xu w a (k0, .inr (2, [.int 0, .int 0, .int 0, .int 0, .int 0, .int 0, .null, .int (-1), .int 0, .int 0, .int (-1), .int (-1)]))) Γ kl2 11 (fun w9 e9 => by rw [e9]; exact ⟨_, _, xu_eq _ _ _, Nat.le_of_ble_eq_true rfl, xu_xu _ _ _ _⟩) (by decide) k_282 (Or.inl rfl) rfl rfl rfl dX1_init_26 ?_
  refine x_aload_n Γ dX1_init_29 rfl rfl ?_
  refine x_iload_n Γ dX1_init_30 rfl rfl ?_
  refine x_putfF (P' := fun w1 => w1 = xu w a (k0, .inr (2, [.int nu, .int 0, .int 0, .int 0, .int 0, .int 0, .null, .int (-1), .int 0, .int 0, .int (-1), .int (-1)]))) Γ hnm kl2 0 (fun w9 e9 => by rw [e9]; exact ⟨_, _, xu_eq _ _ _, Nat.le_of_ble_eq_true rfl, xu_xu _ _ _ _⟩) (by decide) k_261 rfl rfl rfl rfl dX1_init_31 ?_
  refine x_aload_n Γ dX1_init_34 rfl rfl ?_
  refine x_iload_n Γ dX1_init_35 rfl rfl ?_
  refine x_putfF (P' := fun w1 => w1 = xu w a (k0, .inr (2, [.int nu, .int ow, .int 0, .int 0, .int 0, .int 0, .null, .int (-1), .int 0, .int 0, .int (-1), .int (-1)]))) Γ hnm kl2 1 (fun w9 e9 => by rw [e9]; exact ⟨_, _, xu_eq _ _ _, Nat.le_of_ble_eq_true rfl, xu_xu _ _ _ _⟩) (by decide) k_263 rfl rfl rfl rfl dX1_init_36 ?_
  refine x_aload_n Γ dX1_init_39 rfl rfl ?_
  refine x_iload_n Γ dX1_init_40 rfl rfl ?_
  refine x_putfF (P' := fun w1 => w1 = xu w a (k0, .inr (2, [.int nu, .int ow, .int z, .int 0, .int 0, .int 0, .null, .int (-1), .int 0, .int 0, .int (-1), .int (-1)]))) Γ hnm kl2 2 (fun w9 e9 => by rw [e9]; exact ⟨_, _, xu_eq _ _ _, Nat.le_of_ble_eq_true rfl, xu_xu _ _ _ _⟩) (by decide) k_265 rfl rfl rfl rfl dX1_init_41 ?_
  refine x_aload_n Γ dX1_init_44 rfl rfl ?_
  refine x_iload Γ dX1_init_45 rfl ?_
  refine x_putfF (P' := fun w1 => w1 = xu w a (k0, .inr (2, [.int nu, .int ow, .int z, .int dy, .int 0, .int 0, .null, .int (-1), .int 0, .int 0, .int (-1), .int (-1)]))) Γ hnm kl2 3 (fun w9 e9 => by rw [e9]; exact ⟨_, _, xu_eq _ _ _, Nat.le_of_ble_eq_true rfl, xu_xu _ _ _ _⟩) (by decide) k_267 rfl rfl rfl rfl dX1_init_47 ?_
  refine x_aload_n Γ dX1_init_50 rfl rfl ?_
  refine x_bipush (v := 20) Γ dX1_init_51 (by decide) ?_
  refine x_iload_n Γ dX1_init_53 rfl rfl ?_
  refine x_imul Γ dX1_init_54 ?_
  refine x_putf (P' := fun w1 => w1 = xu w a (k0, .inr (2, [.int nu, .int ow, .int z, .int dy, .int (20 * z), .int 0, .null, .int (-1), .int 0, .int 0, .int (-1), .int (-1)]))) Γ kl2 4 (fun w9 e9 => by rw [e9]; exact ⟨_, _, xu_eq _ _ _, Nat.le_of_ble_eq_true rfl, xu_xu _ _ _ _⟩) (by decide) k_269 (Or.inl rfl) rfl rfl rfl dX1_init_55 ?_
  refine x_aload_n Γ dX1_init_58 rfl rfl ?_
  refine x_iload Γ dX1_init_59 rfl ?_
  refine x_putf (P' := fun w1 => w1 = xu w a (k0, .inr (2, [.int nu, .int ow, .int z, .int dy, .int (20 * z), .int c0, .null, .int (-1), .int 0, .int 0, .int (-1), .int (-1)]))) Γ kl2 5 (fun w9 e9 => by rw [e9]; exact ⟨_, _, xu_eq _ _ _, Nat.le_of_ble_eq_true rfl, xu_xu _ _ _ _⟩) (by decide) k_271 (Or.inl rfl) rfl rfl rfl dX1_init_61 ?_
  refine x_aload_n Γ dX1_init_64 rfl rfl ?_
  refine x_new (F := fun q w2 => w2 = xu (xu w a (k0, .inr (2, [.int nu, .int ow, .int z, .int dy, .int (20 * z), .int c0, .null, .int (-1), .int 0, .int 0, .int (-1), .int (-1)]))) q (110, .inr (1, [.int 0, .int 0, .null])) ∧ (xu w a (k0, .inr (2, [.int nu, .int ow, .int z, .int dy, .int (20 * z), .int c0, .null, .int (-1), .int 0, .int 0, .int (-1), .int (-1)]))) q = none) Γ kl1 [.int 0, .int 0, .null] 110 (by decide) k_242 k_243 k_15 (fun w9 q e9 h9 => by subst e9; exact ⟨rfl, h9⟩) ⟨Nat.le_of_ble_eq_true rfl, Nat.le_of_ble_eq_true rfl⟩ dX1_init_65 ?_
  intro q
  refine x_then (P2 := fun w2 => w2 = xu (xu w a (k0, .inr (2, [.int nu, .int ow, .int z, .int dy, .int (20 * z), .int c0, .null, .int (-1), .int 0, .int 0, .int (-1), .int (-1)]))) q (110, .inr (1, [.int 0, .int 0, .null]))) (φ := (xu w a (k0, .inr (2, [.int nu, .int ow, .int z, .int dy, .int (20 * z), .int c0, .null, .int (-1), .int 0, .int 0, .int (-1), .int (-1)]))) q = none) (fun w9 h9 => ⟨h9.2, h9.1⟩) (fun hq => ?_)
  have hqa := xu_none hq
  refine x_dup Γ dX1_init_68 rfl ?_
  refine x_iload Γ dX1_init_69 rfl ?_
  refine x_iload Γ dX1_init_71 rfl ?_
  refine x_iconst (v := 1) Γ dX1_init_73 (by decide) ?_
  refine x_iadd Γ dX1_init_74 ?_
  refine x_null Γ dX1_init_75 ?_
  refine x_invIN (rm := ({ frames := 1, cells := 0, slots := 0, locals := 30 } : Room)) Γ [.int c0, .int (dy + 1), .null] (fun w1 _ w2 => w2 = xu w1 q (110, .inr (1, [.int c0, .int (dy + 1), .null]))) rfl (fun w1 h1 => t_tag (x0 := .int 0) (x1 := .int 0) (x2 := .null) (by rw [h1]; exact xu_eq _ _ _) (Or.inl rfl)) rfl k_246 k_15 k_244 k_245 hd_X0_init ⟨Nat.le_of_ble_eq_true rfl, Nat.le_of_ble_eq_true rfl⟩ ⟨Nat.le_of_ble_eq_true rfl, Nat.le_of_ble_eq_true rfl⟩ (Nat.le_of_ble_eq_true rfl) dX1_init_76 (fun _ => ?_)
  refine x_weak (P' := fun w2 => w2 = xu (xu w a (k0, .inr (2, [.int nu, .int ow, .int z, .int dy, .int (20 * z), .int c0, .null, .int (-1), .int 0, .int 0, .int (-1), .int (-1)]))) q (110, .inr (1, [.int c0, .int (dy + 1), .null]))) (fun w9 h9 => by obtain ⟨w8, h8, h7⟩ := h9; rw [h7, h8, xu_xu]) ?_
  refine x_putf (P' := fun w2 => w2 = xu (xu (xu w a (k0, .inr (2, [.int nu, .int ow, .int z, .int dy, .int (20 * z), .int c0, .null, .int (-1), .int 0, .int 0, .int (-1), .int (-1)]))) q (110, .inr (1, [.int c0, .int (dy + 1), .null]))) a (k0, .inr (2, [.int nu, .int ow, .int z, .int dy, .int (20 * z), .int c0, .ref q, .int (-1), .int 0, .int 0, .int (-1), .int (-1)]))) Γ kl2 6 (fun w9 e9 => by rw [e9]; exact ⟨_, _, by rw [xu_ne (fun z => hqa.2 z.symm)]; exact xu_eq _ _ _, Nat.le_of_ble_eq_true rfl, rfl⟩) (by decide) k_273 (Or.inl rfl) rfl rfl rfl dX1_init_79 ?_
  exact x_vret Γ rfl (fun w2 e2 => ⟨q, hqa.1, hqa.2, by rw [e2, xu_4]⟩) ⟨Nat.le_of_ble_eq_true rfl, Nat.le_of_ble_eq_true rfl⟩ dX1_init_82
end XC1
end
section
section XC2
theorem tFs_move (B : xS) (t q : Nat) (b : Value) (v : Int32) : ((tFs B t b).set 5 (.int v)).set 6 (.ref q) = tFs (mU B 9 t v) t (.ref q) := by simp [tFs, mU]
def tUp (T : Nat → xTg) (t : Nat) (q : Int32 × Int32) : Nat → xTg := fun i => if i = t then q :: T t else T i
theorem CRaw.move {G : xG} {w w' : xW} {ca th : Nat → Nat} {B : xS} {n t q : Nat} {L : List Nat} {T : Nat → xTg} {np dy : Int32} {b : Value} (h : CRaw G w ca th B n L T) (ht : t < n) (g1 : w (th t) = some (200 + t, .inr (2, tFs B t b))) (g2 : tgAt w (T t) b) (hq : w q = none) (hqa : q ≠ th t)
    (hw : w' = xu (xu w q (110, .inr (1, [.int np, .int dy, b]))) (th t) (200 + t, .inr (2, ((tFs B t b).set 5 (.int np)).set 6 (.ref q)))) : CRaw G w' ca th (mU B 9 t np) n L (tUp T t (np, dy)) ∧ KpX w w' := by
  have k1 : xKp (fun k => k ≠ 200 + t) w (xu w q (110, .inr (1, [.int np, .int dy, b]))) := xKp.new hq
  have hth : xu w q (110, .inr (1, [.int np, .int dy, b])) (th t) = some (200 + t, .inr (2, tFs B t b)) := by rw [xu_ne (fun z => hqa z.symm)]; exact g1
  have k2 : xKp (fun k => k ≠ 200 + t) w w' := by
    rw [hw]
    exact k1.tr (xKp.set hth (fun z => z rfl))
  refine ⟨h.thing (b' := .ref q) k2 (by rw [hw, xu_eq, tFs_move]) ?_ ⟨mU_j (by decide), mU_j (by decide), by rw [mU_j (by decide)], by rw [mU_j (by decide)], by rw [mU_j (by decide)]⟩ (fun i hi => ⟨if_neg hi, fun b => tFs_mU hi⟩), k2.mono (by intro k hk; omega)⟩
  have e : tUp T t (np, dy) t = (np, dy) :: T t := if_pos rfl
  rw [e]
  exact ⟨q, b, rfl, by rw [hw, xu_ne hqa]; exact xu_eq _ _ _, tgAt.kp k2 (by omega) g2⟩
theorem CRaw.hel {G : xG} {w : xW} {ca th : Nat → Nat} {B : xS} {n : Nat} {L : List Nat} {T : Nat → xTg} (h : CRaw G w ca th B n L T) {R : List Nat} (hR : ∀ q ∈ R, q < n) : ∀ j, j < R.length → ∃ k1 fs, w (th (R.getD j 0)) = some (k1, .inr (2, fs)) ∧ k1 ≠ 105 ∧ k1 ≠ 105 + 2 := fun j hj => by
  rw [List.getD_eq_getElem?_getD, List.getElem?_eq_getElem hj]
  obtain ⟨b, g1, -⟩ := h.2.2.2.2.2 R[j] (hR _ (List.getElem_mem hj))
  exact ⟨_, _, g1, by omega, by omega⟩
/-- the wishes' list anew -/
theorem CRaw.wish {G : xG} {w w' : xW} {ca th : Nat → Nat} {B : xS} {n : Nat} {L L' : List Nat} {T : Nat → xTg} (h : CRaw G w ca th B n L T) (hl : LstAt G w' (ca 4) 105 L'.length (fun j => th (L'.getD j 0))) (hk : KpL 105 w w') : CRaw G w' ca th B n L' T ∧ KpX w w' := by
  obtain ⟨h1, h2, h3, h4, h5, h6⟩ := h
  have k1 : xKp (fun k => k ≠ 105 ∧ k ≠ 107) w w' := fun b k e hb hs => hk b k e hb hs.1 hs.2
  refine ⟨⟨k1 _ _ _ h1 (by omega), k1 _ _ _ h2 (by omega), k1 _ _ _ h3 (by omega), h4.kp k1 (by omega) (by omega), hl, fun t ht => ?_⟩, k1.mono (by intro k hk; omega)⟩
  obtain ⟨b, g1, g2⟩ := h6 t ht
  exact ⟨b, k1 _ _ _ g1 (by omega), tgAt.kp k1 (by omega) g2⟩
theorem getD_erase (R : List Nat) (i j : Nat) : (R.eraseIdx i).getD j 0 = if j < i then R.getD j 0 else R.getD (j + 1) 0 := by
  rw [List.getD_eq_getElem?_getD, List.getElem?_eraseIdx, List.getD_eq_getElem?_getD, List.getD_eq_getElem?_getD]
  split <;> rfl
def fDE (B : xS) (L : List Nat) : List Nat := L.filter (fun q => !(B 15 q == -1))
variable {l : Launch} {G : xG}
set_option maxRecDepth 100000 in
theorem t_sizesAt {ca th : Nat → Nat} {B : xS} {n : Nat} {L : List Nat} {T : Nat → xTg} {w : xW} (h : CRaw G w ca th B n L T) (hn : n ≤ 24) {x : Int32} : xMet l G yX2_sizesAt cX2_sizesAt 5 (some .int) ({ frames := 3, cells := 0, slots := 0, locals := 80 } : Room) [.ref (ca 0), .int x] w embI (fun r w' => r = ldF B x n ∧ cP G ca th (B) n (L) (T) w w') := by
  refine xMet_of (by decide) (Nat.le_of_ble_eq_true rfl) ?_
  intro p e s m below meth c Γ hnm
  refine c_in h ?_
  have loop : ∀ d t, t + d = n → xJ p l e ({ frames := 3, cells := 0, slots := 0, locals := 80 } : Room) s m ([.ref (ca 0), .int x] : List Value).toArray below meth c G 5 (MQ below (xQ G embI (fun r w' => r = ldF B x n ∧ cP G ca th (B) n (L) (T) w w')) ([.ref (ca 0), .int x] : List Value).toArray s ({ frames := 3, cells := 0, slots := 0, locals := 80 } : Room).cells ({ frames := 3, cells := 0, slots := 0, locals := 80 } : Room).slots (xA G)) (cP G ca th B n L T w) 0 0 4 [(0, .ref (ca 0)), (1, .int x), (2, .int (ldF B x t)), (3, .int (nI t))] [] := by
    intro d
    induction d with
    | zero =>
      intro t ht
      refine x_iload_n Γ dX2_sizesAt_4 rfl rfl ?_
      refine x_aload_n Γ dX2_sizesAt_5 rfl rfl ?_
      refine c_this Γ 2 rfl (by decide) k_60 rfl dX2_sizesAt_6 ?_
      refine x_invV (emb := embI) (ci := 0) (rm := ({ frames := 0, cells := 0, slots := 0, locals := 0 } : Room)) Γ [] (fun w1 r w2 => r = nI n ∧ w2 = w1) rfl (fun w1 h1 => t_size h1.1.2.2.2.1) c_lst3 rfl k_91 k_4 k_88 k_89 k_90 hd_Jx4a65c_size_8abf5 ⟨Nat.le_of_ble_eq_true rfl, Nat.le_of_ble_eq_true rfl⟩ ⟨Nat.le_of_ble_eq_true rfl, Nat.le_of_ble_eq_true rfl⟩ (Nat.le_of_ble_eq_true rfl) dX2_sizesAt_9 (fun r => ?_)
      refine m_same (fun e9 => ?_)
      subst e9
      refine x_icmp_ge (tgt := 51) Γ dX2_sizesAt_12 (by decide) (fun c12 => ?_) (fun c12 => absurd (nI_le (by omega) (by omega)) c12)
      refine x_iload_n Γ dX2_sizesAt_51 rfl rfl ?_
      exact x_iret Γ rfl rfl (fun w2 e2 => ⟨by rw [show t = n by omega], e2⟩) ⟨Nat.le_of_ble_eq_true rfl, Nat.le_of_ble_eq_true rfl⟩ dX2_sizesAt_52
    | succ d ih =>
      intro t ht
      have htn : t < n := by omega
      have hend : ∀ v x4, v = ldF B x (t + 1) → xJ p l e ({ frames := 3, cells := 0, slots := 0, locals := 80 } : Room) s m ([.ref (ca 0), .int x] : List Value).toArray below meth c G 5 (MQ below (xQ G embI (fun r w' => r = ldF B x n ∧ cP G ca th (B) n (L) (T) w w')) ([.ref (ca 0), .int x] : List Value).toArray s ({ frames := 3, cells := 0, slots := 0, locals := 80 } : Room).cells ({ frames := 3, cells := 0, slots := 0, locals := 80 } : Room).slots (xA G)) (cP G ca th B n L T w) 0 0 45 [(4, .ref x4), (0, .ref (ca 0)), (1, .int x), (2, .int v), (3, .int (nI t))] [] := by
        intro v x4 hv
        subst hv
        refine x_iinc (v := _ + 1) Γ dX2_sizesAt_45 rfl rfl rfl (by decide) ?_
        rw [nI_1]
        refine x_goto (tgt := 4) Γ dX2_sizesAt_48 (by decide) ?_
        refine x_lv [0, 1, 2, 3] rfl ?_
        exact ih (t + 1) (by omega)
      refine x_iload_n Γ dX2_sizesAt_4 rfl rfl ?_
      refine x_aload_n Γ dX2_sizesAt_5 rfl rfl ?_
      refine c_this Γ 2 rfl (by decide) k_60 rfl dX2_sizesAt_6 ?_
      refine x_invV (emb := embI) (ci := 0) (rm := ({ frames := 0, cells := 0, slots := 0, locals := 0 } : Room)) Γ [] (fun w1 r w2 => r = nI n ∧ w2 = w1) rfl (fun w1 h1 => t_size h1.1.2.2.2.1) c_lst3 rfl k_91 k_4 k_88 k_89 k_90 hd_Jx4a65c_size_8abf5 ⟨Nat.le_of_ble_eq_true rfl, Nat.le_of_ble_eq_true rfl⟩ ⟨Nat.le_of_ble_eq_true rfl, Nat.le_of_ble_eq_true rfl⟩ (Nat.le_of_ble_eq_true rfl) dX2_sizesAt_9 (fun r => ?_)
      refine m_same (fun e9 => ?_)
      subst e9
      refine x_icmp_ge (tgt := 51) Γ dX2_sizesAt_12 (by decide) (fun c12 => absurd c12 (nI_ge (by omega) (by omega))) (fun c12 => ?_)
      refine x_aload_n Γ dX2_sizesAt_15 rfl rfl ?_
      refine c_this Γ 2 rfl (by decide) k_60 rfl dX2_sizesAt_16 ?_
      refine x_iload_n Γ dX2_sizesAt_19 rfl rfl ?_
      refine x_invV (emb := embA) (ci := 0) (rm := ({ frames := 2, cells := 0, slots := 0, locals := 43 } : Room)) Γ [.int (nI t)] (fun w1 r w2 => r = th t ∧ w2 = w1) rfl (fun w1 h1 => t_get h1.1.2.2.2.1 htn) c_lst3 rfl k_209 k_4 k_206 k_207 k_208 hd_Jx4a65c_get_915e3 ⟨Nat.le_of_ble_eq_true rfl, Nat.le_of_ble_eq_true rfl⟩ ⟨Nat.le_of_ble_eq_true rfl, Nat.le_of_ble_eq_true rfl⟩ (Nat.le_of_ble_eq_true rfl) dX2_sizesAt_20 (fun r => ?_)
      refine m_same (fun e9 => ?_)
      subst e9
      refine x_cast (C := RX1) (T := TX1) (N := 12) (ci := 2) Γ rfl (c_thing htn) k_220 dX2_sizesAt_23 ?_
      refine x_astore Γ dX2_sizesAt_26 rfl (by decide) ?_
      refine x_aload Γ dX2_sizesAt_28 rfl ?_
      refine c_getT Γ 5 htn (fun _ => rfl) (by decide) k_272 dX2_sizesAt_30 ?_
      refine x_iload_n Γ dX2_sizesAt_33 rfl rfl ?_
      refine x_icmp_ne (tgt := 45) Γ dX2_sizesAt_34 (by decide) (fun c34 => ?_) (fun c34 => ?_)
      · refine x_lv [4, 0, 1, 2, 3] rfl ?_
        exact hend _ _ (by rw [ldF]; first | rw [if_pos c34] | rw [if_neg c34, Int32.add_zero])
      · refine x_iload_n Γ dX2_sizesAt_37 rfl rfl ?_
        refine x_aload Γ dX2_sizesAt_38 rfl ?_
        refine c_getT Γ 2 htn (fun _ => rfl) (by decide) k_266 dX2_sizesAt_40 ?_
        refine x_iadd Γ dX2_sizesAt_43 ?_
        refine x_istore_n Γ dX2_sizesAt_44 rfl rfl (by decide) ?_
        refine x_lv [4, 0, 1, 2, 3] rfl ?_
        exact hend _ _ (by rw [ldF]; first | rw [if_pos c34] | rw [if_neg c34, Int32.add_zero])
  refine x_iconst (v := 0) Γ dX2_sizesAt_0 (by decide) ?_
  refine x_istore_n Γ dX2_sizesAt_1 rfl rfl (by decide) ?_
  refine x_iconst (v := 0) Γ dX2_sizesAt_2 (by decide) ?_
  refine x_istore_n Γ dX2_sizesAt_3 rfl rfl (by decide) ?_
  refine x_lv [0, 1, 2, 3] rfl ?_
  exact loop n 0 (by omega)
set_option maxRecDepth 100000 in
theorem t_hasRoom {ca th : Nat → Nat} {B : xS} {n : Nat} {L : List Nat} {T : Nat → xTg} {w : xW} (h : CRaw G w ca th B n L T) (hn : n ≤ 24) {x z : Int32} : xMet l G yX2_hasRoomFor cX2_hasRoomFor 3 (some .boolean) ({ frames := 4, cells := 0, slots := 0, locals := 120 } : Room) [.ref (ca 0), .int x, .int z] w embI (fun r w' => bq (rIn 0 4 x ∧ ldF B x n + z ≤ B 0 (ix x)) r ∧ cP G ca th (B) n (L) (T) w w') := by
  refine xMet_of (by decide) (Nat.le_of_ble_eq_true rfl) ?_
  intro p e s m below meth c Γ hnm
  refine c_in h ?_
  refine x_iload_n Γ dX2_hasRoomFor_0 rfl rfl ?_
  refine x_invS (emb := embI) (rm := ({ frames := 0, cells := 0, slots := 0, locals := 0 } : Room)) Γ [.int (x)] (fun w1 r w2 => bq (rIn 0 4 (x)) r ∧ w2 = w1) rfl (fun w1 h1 => t2_isCounter) k_106 k_1 k_104 k_105 hd_X2_isCounter ⟨Nat.le_of_ble_eq_true rfl, Nat.le_of_ble_eq_true rfl⟩ ⟨Nat.le_of_ble_eq_true rfl, Nat.le_of_ble_eq_true rfl⟩ (Nat.le_of_ble_eq_true rfl) dX2_hasRoomFor_1 (fun r => ?_)
  refine m_same (fun q1 => ?_)
  refine x_if_eq (tgt := 27) Γ dX2_hasRoomFor_4 (by decide) (fun c4 => ?_) (fun c4 => ?_)
  · refine x_iconst (v := 0) Γ dX2_hasRoomFor_27 (by decide) ?_
    exact x_iret Γ rfl rfl (fun w2 e2 => ⟨Or.inr ⟨fun y => q1.eq c4 y.1, rfl⟩, e2⟩) ⟨Nat.le_of_ble_eq_true rfl, Nat.le_of_ble_eq_true rfl⟩ dX2_hasRoomFor_28
  · obtain ⟨i, hi, rfl⟩ := rIn_nat (M := 4) (n := 4) (by decide) (q1.ne c4)
    refine x_aload_n Γ dX2_hasRoomFor_7 rfl rfl ?_
    refine x_iload_n Γ dX2_hasRoomFor_8 rfl rfl ?_
    refine x_invV (emb := embI) (ci := 3) (rm := ({ frames := 3, cells := 0, slots := 0, locals := 80 } : Room)) Γ [.int (nI i)] (fun w1 r w2 => r = ldF B (nI i) n ∧ cP G ca th (B) n (L) (T) w1 w2) rfl (fun w1 h1 => t_sizesAt h1.1 hn) c_self rfl k_205 k_1 k_202 k_204 s_2 hd_X2_sizesAt ⟨Nat.le_of_ble_eq_true rfl, Nat.le_of_ble_eq_true rfl⟩ ⟨Nat.le_of_ble_eq_true rfl, Nat.le_of_ble_eq_true rfl⟩ (Nat.le_of_ble_eq_true rfl) dX2_hasRoomFor_9 (fun r => ?_)
    refine c_then (B' := B) (L' := L) (T' := T) (fun e9 => ?_)
    subst e9
    refine x_iload_n Γ dX2_hasRoomFor_12 rfl rfl ?_
    refine x_iadd Γ dX2_hasRoomFor_13 ?_
    refine x_aload_n Γ dX2_hasRoomFor_14 rfl rfl ?_
    refine c_this Γ 0 rfl (by decide) k_58 rfl dX2_hasRoomFor_15 ?_
    refine x_iload_n Γ dX2_hasRoomFor_18 rfl rfl ?_
    refine c_ald (jj := 0) Γ rfl (Or.inl ⟨rfl, rfl, by omega⟩) dX2_hasRoomFor_19 ?_
    refine x_icmp_gt (tgt := 27) Γ dX2_hasRoomFor_20 (by decide) (fun c20 => ?_) (fun c20 => ?_)
    · refine x_iconst (v := 0) Γ dX2_hasRoomFor_27 (by decide) ?_
      exact x_iret Γ rfl rfl (fun w2 e2 => ⟨Or.inr ⟨fun y => Int32.not_le.mpr c20 (by have := y.2; rw [ixn (t := i) (by omega)] at this; exact this), rfl⟩, e2⟩) ⟨Nat.le_of_ble_eq_true rfl, Nat.le_of_ble_eq_true rfl⟩ dX2_hasRoomFor_28
    · refine x_iconst (v := 1) Γ dX2_hasRoomFor_23 (by decide) ?_
      refine x_goto (tgt := 28) Γ dX2_hasRoomFor_24 (by decide) ?_
      exact x_iret Γ rfl rfl (fun w2 e2 => ⟨Or.inl ⟨⟨q1.ne c4, by rw [ixn (t := i) (by omega)]; exact Int32.not_lt.mp c20⟩, rfl⟩, e2⟩) ⟨Nat.le_of_ble_eq_true rfl, Nat.le_of_ble_eq_true rfl⟩ dX2_hasRoomFor_28
def fPut (B : xS) (x z : Int32) : xS := if rIn 0 7 x then mU B 2 (ix x) (B 2 (ix x) + z) else B
set_option maxRecDepth 100000 in
theorem t_putPurse {ca th : Nat → Nat} {B : xS} {n : Nat} {L : List Nat} {T : Nat → xTg} {w : xW} (h : CRaw G w ca th B n L T) {x z : Int32} : xMet l G yX2_putIntoPurse cX2_putIntoPurse 3 none ({ frames := 1, cells := 0, slots := 0, locals := 40 } : Room) [.ref (ca 0), .int x, .int z] w embV (fun _ w' => cP G ca th (fPut B x z) n (L) (T) w w') := by
  refine xMet_of (by decide) (Nat.le_of_ble_eq_true rfl) ?_
  intro p e s m below meth c Γ hnm
  refine c_in h ?_
  refine x_iload_n Γ dX2_putIntoPurse_0 rfl rfl ?_
  refine x_invS (emb := embI) (rm := ({ frames := 0, cells := 0, slots := 0, locals := 0 } : Room)) Γ [.int (x)] (fun w1 r w2 => bq (rIn 0 7 (x)) r ∧ w2 = w1) rfl (fun w1 h1 => t2_isPerson) k_196 k_1 k_194 k_195 hd_X2_isPerson ⟨Nat.le_of_ble_eq_true rfl, Nat.le_of_ble_eq_true rfl⟩ ⟨Nat.le_of_ble_eq_true rfl, Nat.le_of_ble_eq_true rfl⟩ (Nat.le_of_ble_eq_true rfl) dX2_putIntoPurse_1 (fun r => ?_)
  refine m_same (fun q1 => ?_)
  refine x_if_eq (tgt := 17) Γ dX2_putIntoPurse_4 (by decide) (fun c4 => ?_) (fun c4 => ?_)
  · exact x_vret Γ rfl (fun w2 e2 => by unfold fPut; rw [if_neg (q1.eq c4)]; exact e2) ⟨Nat.le_of_ble_eq_true rfl, Nat.le_of_ble_eq_true rfl⟩ dX2_putIntoPurse_17
  · obtain ⟨i, hi, rfl⟩ := rIn_nat (M := 7) (n := 7) (by decide) (q1.ne c4)
    refine x_aload_n Γ dX2_putIntoPurse_7 rfl rfl ?_
    refine c_this Γ 1 rfl (by decide) k_59 rfl dX2_putIntoPurse_8 ?_
    refine x_iload_n Γ dX2_putIntoPurse_11 rfl rfl ?_
    refine x_dup2 Γ dX2_putIntoPurse_12 rfl rfl ?_
    refine c_ald (jj := 2) Γ rfl (Or.inr ⟨rfl, rfl, by omega⟩) dX2_putIntoPurse_13 ?_
    refine x_iload_n Γ dX2_putIntoPurse_14 rfl rfl ?_
    refine x_iadd Γ dX2_putIntoPurse_15 ?_
    refine c_ast (jj := 2) Γ rfl (Or.inr ⟨rfl, rfl, rfl⟩) (by omega) dX2_putIntoPurse_16 ?_
    exact x_vret Γ rfl (fun w2 e2 => by unfold fPut; rw [if_pos (q1.ne c4), ixn (t := i) (by omega)]; exact e2) ⟨Nat.le_of_ble_eq_true rfl, Nat.le_of_ble_eq_true rfl⟩ dX2_putIntoPurse_17
set_option maxRecDepth 100000 in
theorem t_dropEnded {ca th : Nat → Nat} {B : xS} {n : Nat} {L : List Nat} {T : Nat → xTg} {w : xW} (h : CRaw G w ca th B n L T) (hn : n ≤ 24) (hL : ∀ q ∈ L, q < n) (hlL : L.length ≤ 24) : xMet l G yX2_dropEndedWishes cX2_dropEndedWishes 2 none ({ frames := 3, cells := 0, slots := 0, locals := 110 } : Room) [.ref (ca 0)] w embV (fun _ w' => cP G ca th (B) n (fDE B L) (T) w w') := by
  refine xMet_of (by decide) (Nat.le_of_ble_eq_true rfl) ?_
  intro p e s m below meth c Γ hnm
  refine c_in h ?_
  have loop : ∀ k, k ≤ L.length → xJ p l e ({ frames := 3, cells := 0, slots := 0, locals := 110 } : Room) s m ([.ref (ca 0)] : List Value).toArray below meth c G 2 (MQ below (xQ G embV (fun _ w' => cP G ca th (B) n (fDE B L) (T) w w')) ([.ref (ca 0)] : List Value).toArray s ({ frames := 3, cells := 0, slots := 0, locals := 110 } : Room).cells ({ frames := 3, cells := 0, slots := 0, locals := 110 } : Room).slots (xA G)) (cP G ca th B n (L.take k ++ fDE B (L.drop k)) T w) 0 0 10 [(0, .ref (ca 0)), (1, .int (nI k - 1))] [] := by
    intro k
    induction k with
    | zero =>
      intro hk
      refine x_iload_n Γ dX2_dropEndedWishes_10 rfl rfl ?_
      refine x_if_lt (tgt := 47) Γ dX2_dropEndedWishes_11 (by decide) (fun c11 => ?_) (fun c11 => absurd (by decide) c11)
      exact x_vret Γ rfl (fun w2 e2 => e2) ⟨Nat.le_of_ble_eq_true rfl, Nat.le_of_ble_eq_true rfl⟩ dX2_dropEndedWishes_47
    | succ k ih =>
      intro hk
      obtain ⟨t, hq⟩ : ∃ t, L[k]? = some t := ⟨L[k], List.getElem?_eq_getElem (by omega)⟩
      have htn : t < n := hL t (List.mem_of_getElem? hq)
      have hd : L.drop k = t :: L.drop (k + 1) := by
        rw [List.drop_eq_getElem_cons (by omega)]
        congr 1
        exact Option.some.inj ((List.getElem?_eq_getElem (by omega)).symm.trans hq)
      have ht1 : L.take (k + 1) = L.take k ++ [t] := by rw [List.take_add_one, hq]; rfl
      have hlk : (L.take k).length = k := by rw [List.length_take]; omega
      have hat : (L.take (k + 1) ++ fDE B (L.drop (k + 1)))[k]? = some t := by
        rw [ht1, List.append_assoc, List.getElem?_append_right (by omega), hlk, Nat.sub_self]
        rfl
      have hmem : ∀ q ∈ L.take (k + 1) ++ fDE B (L.drop (k + 1)), q < n := fun q h9 => by
        rcases List.mem_append.mp h9 with h8 | h8
        · exact hL q (List.mem_of_mem_take h8)
        · exact hL q (List.mem_of_mem_drop (List.mem_filter.mp h8).1)
      have hlen2 : k < (L.take (k + 1) ++ fDE B (L.drop (k + 1))).length := (List.getElem?_eq_some_iff.mp hat).1
      rw [nI_pred]
      have hnx : xJ p l e ({ frames := 3, cells := 0, slots := 0, locals := 110 } : Room) s m ([.ref (ca 0)] : List Value).toArray below meth c G 2 (MQ below (xQ G embV (fun _ w' => cP G ca th (B) n (fDE B L) (T) w w')) ([.ref (ca 0)] : List Value).toArray s ({ frames := 3, cells := 0, slots := 0, locals := 110 } : Room).cells ({ frames := 3, cells := 0, slots := 0, locals := 110 } : Room).slots (xA G)) (cP G ca th B n (L.take k ++ fDE B (L.drop k)) T w) 0 0 41 [(0, .ref (ca 0)), (1, .int (nI k))] [] := by
        refine x_iinc (v := nI k - 1) Γ dX2_dropEndedWishes_41 rfl (by rw [Int32.sub_eq_add_neg]; rfl) rfl (by decide) ?_
        refine x_goto (tgt := 10) Γ dX2_dropEndedWishes_44 (by decide) ?_
        refine x_lv [0, 1] rfl ?_
        exact ih (by omega)
      refine x_iload_n Γ dX2_dropEndedWishes_10 rfl rfl ?_
      refine x_if_lt (tgt := 47) Γ dX2_dropEndedWishes_11 (by decide) (fun c11 => absurd c11 (nI_pos (by omega))) (fun c11 => ?_)
      refine x_aload_n Γ dX2_dropEndedWishes_14 rfl rfl ?_
      refine c_this Γ 3 rfl (by decide) k_61 rfl dX2_dropEndedWishes_15 ?_
      refine x_iload_n Γ dX2_dropEndedWishes_18 rfl rfl ?_
      refine x_invV (emb := embA) (ci := 0) (rm := ({ frames := 2, cells := 0, slots := 0, locals := 43 } : Room)) Γ [.int (nI k)] (fun w1 r w2 => r = th t ∧ w2 = w1) rfl (fun w1 h1 => by have h9 := t_get (l := l) (j := k) h1.1.2.2.2.2.1 (List.getElem?_eq_some_iff.mp hat).1; rw [List.getD_eq_getElem?_getD, hat] at h9; exact h9) c_lst4 rfl k_209 k_4 k_206 k_207 k_208 hd_Jx4a65c_get_915e3 ⟨Nat.le_of_ble_eq_true rfl, Nat.le_of_ble_eq_true rfl⟩ ⟨Nat.le_of_ble_eq_true rfl, Nat.le_of_ble_eq_true rfl⟩ (Nat.le_of_ble_eq_true rfl) dX2_dropEndedWishes_19 (fun r => ?_)
      refine m_same (fun e9 => ?_)
      subst e9
      refine x_cast (C := RX1) (T := TX1) (N := 12) (ci := 2) Γ rfl (c_thing htn) k_220 dX2_dropEndedWishes_22 ?_
      refine c_getT Γ 7 htn (fun _ => rfl) (by decide) k_275 dX2_dropEndedWishes_25 ?_
      refine x_iconst (v := (-1)) Γ dX2_dropEndedWishes_28 (by decide) ?_
      refine x_icmp_ne (tgt := 41) Γ dX2_dropEndedWishes_29 (by decide) (fun c29 => ?_) (fun c29 => ?_)
      · have hkeep : L.take k ++ fDE B (L.drop k) = L.take (k + 1) ++ fDE B (L.drop (k + 1)) := by
          rw [hd, ht1, List.append_assoc]
          congr 1
          unfold fDE
          rw [List.filter_cons_of_pos (by simpa using c29)]
          rfl
        rw [← hkeep]
        refine x_lv [0, 1] rfl ?_
        exact hnx
      · have hgone : (L.take (k + 1) ++ fDE B (L.drop (k + 1))).eraseIdx k = L.take k ++ fDE B (L.drop k) := by
          rw [hd, ht1, List.append_assoc, List.eraseIdx_append_of_length_le (by omega), hlk, Nat.sub_self]
          congr 1
          unfold fDE
          rw [List.filter_cons_of_neg (by simpa using c29)]
          rfl
        refine x_aload_n Γ dX2_dropEndedWishes_32 rfl rfl ?_
        refine c_this Γ 3 rfl (by decide) k_61 rfl dX2_dropEndedWishes_33 ?_
        refine x_iload_n Γ dX2_dropEndedWishes_36 rfl rfl ?_
        refine x_invV (emb := embA) (ci := 0) (rm := ({ frames := 2, cells := 0, slots := 0, locals := 70 } : Room)) Γ [.int (nI k)] (fun w1 r w2 => r = (fun j => th ((L.take (k + 1) ++ fDE B (L.drop (k + 1))).getD j 0)) k ∧ LstAt G w2 (ca 4) 105 ((L.take (k + 1) ++ fDE B (L.drop (k + 1))).length - 1) (fun j => if j < k then (fun j => th ((L.take (k + 1) ++ fDE B (L.drop (k + 1))).getD j 0)) j else (fun j => th ((L.take (k + 1) ++ fDE B (L.drop (k + 1))).getD j 0)) (j + 1)) ∧ KpL 105 w1 w2) rfl (fun w1 h1 => t_remove h1.1.2.2.2.2.1 (h1.1.hel hmem) hlen2) c_lst4 rfl k_413 k_4 k_410 k_411 k_412 hd_Jx4a65c_remove_915e3 ⟨Nat.le_of_ble_eq_true rfl, Nat.le_of_ble_eq_true rfl⟩ ⟨Nat.le_of_ble_eq_true rfl, Nat.le_of_ble_eq_true rfl⟩ (Nat.le_of_ble_eq_true rfl) dX2_dropEndedWishes_37 (fun r => ?_)
        refine x_weak (P' := cP G ca th B n (L.take k ++ fDE B (L.drop k)) T w) (fun w2 h2 => ?_) ?_
        · obtain ⟨w1, h1, -, h3, h4⟩ := h2
          have h9 := h1.1.wish (L' := L.take k ++ fDE B (L.drop k)) ?_ h4
          · exact ⟨h9.1, h1.2.tr h9.2⟩
          · rw [← hgone, List.length_eraseIdx_of_lt hlen2]
            exact h3.congr (fun i hi => by rw [getD_erase]; split <;> rfl)
        refine x_pop Γ dX2_dropEndedWishes_40 rfl ?_
        refine x_lv [0, 1] rfl ?_
        exact hnx
  refine x_aload_n Γ dX2_dropEndedWishes_0 rfl rfl ?_
  refine c_this Γ 3 rfl (by decide) k_61 rfl dX2_dropEndedWishes_1 ?_
  refine x_invV (emb := embI) (ci := 0) (rm := ({ frames := 0, cells := 0, slots := 0, locals := 0 } : Room)) Γ [] (fun w1 r w2 => r = nI (L).length ∧ w2 = w1) rfl (fun w1 h1 => t_size h1.1.2.2.2.2.1) c_lst4 rfl k_91 k_4 k_88 k_89 k_90 hd_Jx4a65c_size_8abf5 ⟨Nat.le_of_ble_eq_true rfl, Nat.le_of_ble_eq_true rfl⟩ ⟨Nat.le_of_ble_eq_true rfl, Nat.le_of_ble_eq_true rfl⟩ (Nat.le_of_ble_eq_true rfl) dX2_dropEndedWishes_4 (fun r => ?_)
  refine m_same (fun e9 => ?_)
  subst e9
  refine x_iconst (v := 1) Γ dX2_dropEndedWishes_7 (by decide) ?_
  refine x_isub Γ dX2_dropEndedWishes_8 ?_
  refine x_istore_n Γ dX2_dropEndedWishes_9 rfl rfl (by decide) ?_
  refine x_lv [0, 1] rfl ?_
  have h9 := loop L.length (Nat.le_refl _)
  rw [List.take_length, List.drop_length, show fDE B [] = [] from rfl, List.append_nil] at h9
  exact h9
end XC2
end
section
section XC3
theorem xMet_post {l : Launch} {G : xG} {α : Type} {y : MethodName} {cc : ByteArray} {maxL : Nat} {rt : Option FieldType} {rm : Room} {av : List Value} {w : xW} {emb : α → Option Value} {post post' : α → xW → Prop} (h : xMet l G y cc maxL rt rm av w emb post) (hp : ∀ r w', post r w' → post' r w') : xMet l G y cc maxL rt rm av w emb post' := by
  intro p e hadm hf hc s m args below hinv happ hP hK
  obtain ⟨n, oc, h1, h2, h3, ⟨⟨v, w', h4, h5, h6⟩, h7⟩, h8⟩ := h p e hadm hf hc s m args below hinv happ hP hK
  exact ⟨n, oc, h1, h2, h3, ⟨⟨v, w', h4, hp v w' h5, h6⟩, h7⟩, h8⟩
variable {l : Launch} {G : xG}
theorem t_cmove {ca th : Nat → Nat} {B : xS} {n : Nat} {L : List Nat} {T : Nat → xTg} {w : xW} (h : CRaw G w ca th B n L T) {t : Nat} (htn : t < n) {np dy : Int32} : xMet l G yX1_moveTo cX1_moveTo 3 none ({ frames := 2, cells := 1, slots := 3, locals := 60 } : Room) [.ref (th t), .int np, .int dy] w embV (fun _ w' => cP G ca th (mU B 9 t np) n L (tUp T t (np, dy + 1)) w w') := by
  obtain ⟨b, g1, g2⟩ := h.2.2.2.2.2 t htn
  refine xMet_post (t_moveTo g1 rfl rfl (tgAt_ref g2)) (fun _ w' h9 => ?_)
  obtain ⟨q, h1, h2, h3⟩ := h9
  exact h.move htn g1 g2 h1 h2 h3
theorem t_cbeginLoan {ca th : Nat → Nat} {B : xS} {n : Nat} {L : List Nat} {T : Nat → xTg} {w : xW} (h : CRaw G w ca th B n L T) {t : Nat} (htn : t < n) {x z : Int32} : xMet l G yX1_beginLoan cX1_beginLoan 3 none ({ frames := 0, cells := 0, slots := 0, locals := 0 } : Room) [.ref (th t), .int x, .int z] w embV (fun _ w' => cP G ca th (mU (mU B 13 t x) 12 t z) n L T w w') := by
  obtain ⟨b, g1, g2⟩ := h.2.2.2.2.2 t htn
  refine xMet_post (t_beginLoan g1 rfl) (fun _ w' h9 => ?_)
  have k1 : xKp (fun k => k ≠ 200 + t) w w' := by rw [h9]; exact xKp.set g1 (fun z => z rfl)
  refine ⟨h.thing (b' := b) k1 (by rw [h9, xu_eq]; simp [tFs, mU]) (tgAt.kp k1 (by omega) g2) ⟨by simp [mU_j], by simp [mU_j], by simp [mU_j], by simp [mU_j], by simp [mU_j]⟩ (fun i hi => ⟨rfl, fun b => by simp only [tFs_mU hi]⟩), k1.mono (by intro k hk; omega)⟩
theorem t_cendLoan {ca th : Nat → Nat} {B : xS} {n : Nat} {L : List Nat} {T : Nat → xTg} {w : xW} (h : CRaw G w ca th B n L T) {t : Nat} (htn : t < n) : xMet l G yX1_endLoan cX1_endLoan 1 none ({ frames := 0, cells := 0, slots := 0, locals := 0 } : Room) [.ref (th t)] w embV (fun _ w' => cP G ca th (mU (mU (mU B 13 t (-1)) 12 t 0) 14 t (-1)) n L T w w') := by
  obtain ⟨b, g1, g2⟩ := h.2.2.2.2.2 t htn
  refine xMet_post (t_endLoan g1 rfl) (fun _ w' h9 => ?_)
  have k1 : xKp (fun k => k ≠ 200 + t) w w' := by rw [h9]; exact xKp.set g1 (fun z => z rfl)
  refine ⟨h.thing (b' := b) k1 (by rw [h9, xu_eq]; simp [tFs, mU]) (tgAt.kp k1 (by omega) g2) ⟨by simp [mU_j], by simp [mU_j], by simp [mU_j], by simp [mU_j], by simp [mU_j]⟩ (fun i hi => ⟨rfl, fun b => by simp only [tFs_mU hi]⟩), k1.mono (by intro k hk; omega)⟩
def fGa (B : xS) (t : Nat) (pd pl : Int32) : xS := mU (mU (mU (mU B 3 0 (B 3 0 + pd)) 11 t pd) 15 t (-1)) 9 t pl
set_option maxRecDepth 100000 in
theorem t_giveAway {ca th : Nat → Nat} {B : xS} {n : Nat} {L : List Nat} {T : Nat → xTg} {w : xW} (h : CRaw G w ca th B n L T) {t : Nat} (htn : t < n) (hn : n ≤ 24) (hL : ∀ q ∈ L, q < n) (hlL : L.length ≤ 24) {pd pl : Int32} : xMet l G yX2_giveAway cX2_giveAway 4 none ({ frames := 4, cells := 1, slots := 3, locals := 150 } : Room) [.ref (ca 0), .ref (th t), .int pd, .int pl] w embV (fun _ w' => cP G ca th (fGa B t pd pl) n (fDE (mU (mU (mU B 3 0 (B 3 0 + pd)) 11 t pd) 15 t (-1)) L) (tUp T t (pl, B 4 0 + 1)) w w') := by
  refine xMet_of (by decide) (Nat.le_of_ble_eq_true rfl) ?_
  intro p e s m below meth c Γ hnm
  refine c_in h ?_
  refine x_aload_n Γ dX2_giveAway_0 rfl rfl ?_
  refine x_dup Γ dX2_giveAway_1 rfl ?_
  refine c_this Γ 6 rfl (by decide) k_64 rfl dX2_giveAway_2 ?_
  refine x_iload_n Γ dX2_giveAway_5 rfl rfl ?_
  refine x_iadd Γ dX2_giveAway_6 ?_
  refine c_putthis Γ 6 3 rfl (by decide) (by decide) k_64 rfl rfl rfl dX2_giveAway_7 ?_
  refine x_aload_n Γ dX2_giveAway_10 rfl rfl ?_
  refine x_iload_n Γ dX2_giveAway_11 rfl rfl ?_
  refine c_putT Γ 8 11 htn (fun _ => by simp [tFs, mU]) (by decide) (by decide) k_277 rfl rfl dX2_giveAway_12 ?_
  refine x_aload_n Γ dX2_giveAway_15 rfl rfl ?_
  refine x_iconst (v := (-1)) Γ dX2_giveAway_16 (by decide) ?_
  refine c_putT Γ 7 15 htn (fun _ => by simp [tFs, mU]) (by decide) (by decide) k_275 rfl rfl dX2_giveAway_17 ?_
  refine x_aload_n Γ dX2_giveAway_20 rfl rfl ?_
  refine x_invV (emb := embV) (ci := 3) (rm := ({ frames := 3, cells := 0, slots := 0, locals := 110 } : Room)) Γ [] (fun w1 _ w2 => cP G ca th (mU (mU (mU B 3 0 (B 3 0 + pd)) 11 t pd) 15 t (-1)) n (fDE (mU (mU (mU B 3 0 (B 3 0 + pd)) 11 t pd) 15 t (-1)) L) (T) w1 w2) rfl (fun w1 h1 => t_dropEnded h1.1 hn hL hlL) c_self rfl k_409 k_1 k_406 k_408 s_10 hd_X2_dropEndedWishes ⟨Nat.le_of_ble_eq_true rfl, Nat.le_of_ble_eq_true rfl⟩ ⟨Nat.le_of_ble_eq_true rfl, Nat.le_of_ble_eq_true rfl⟩ (Nat.le_of_ble_eq_true rfl) dX2_giveAway_21 (fun _ => ?_)
  refine c_then0 (B' := mU (mU (mU B 3 0 (B 3 0 + pd)) 11 t pd) 15 t (-1)) (L' := fDE (mU (mU (mU B 3 0 (B 3 0 + pd)) 11 t pd) 15 t (-1)) L) (T' := T) ?_
  refine x_aload_n Γ dX2_giveAway_24 rfl rfl ?_
  refine x_iload_n Γ dX2_giveAway_25 rfl rfl ?_
  refine x_aload_n Γ dX2_giveAway_26 rfl rfl ?_
  refine c_this Γ 5 rfl (by decide) k_63 rfl dX2_giveAway_27 ?_
  refine x_invVN (emb := embV) (ci := 2) (rm := ({ frames := 2, cells := 1, slots := 3, locals := 60 } : Room)) Γ [.int pl, .int (B 4 0)] (fun w1 _ w2 => cP G ca th (fGa B t pd pl) n (fDE (mU (mU (mU B 3 0 (B 3 0 + pd)) 11 t pd) 15 t (-1)) L) (tUp T t (pl, B 4 0 + 1)) w1 w2) rfl (fun w1 h1 => t_cmove h1.1 htn) (c_thing htn) rfl k_422 k_14 k_419 k_421 s_12 hd_X1_moveTo ⟨Nat.le_of_ble_eq_true rfl, Nat.le_of_ble_eq_true rfl⟩ ⟨Nat.le_of_ble_eq_true rfl, Nat.le_of_ble_eq_true rfl⟩ (Nat.le_of_ble_eq_true rfl) dX2_giveAway_30 (fun _ => ?_)
  refine c_then0 (B' := fGa B t pd pl) (L' := fDE (mU (mU (mU B 3 0 (B 3 0 + pd)) 11 t pd) 15 t (-1)) L) (T' := tUp T t (pl, B 4 0 + 1)) ?_
  exact x_vret Γ rfl (fun w2 e2 => e2) ⟨Nat.le_of_ble_eq_true rfl, Nat.le_of_ble_eq_true rfl⟩ dX2_giveAway_33
set_option maxRecDepth 100000 in
theorem t_thingNumbered {ca th : Nat → Nat} {B : xS} {n : Nat} {L : List Nat} {T : Nat → xTg} {w : xW} (h : CRaw G w ca th B n L T) (hfl : l.stackTraces = false) (hn : n ≤ 24) {x : Int32} : xMetX l G yX2_thingNumbered cX2_thingNumbered 2 (some (.object "LeftThings$Thing")) ({ frames := 6, cells := 1, slots := 6, locals := 100 } : Room) [.ref (ca 0), .int x] w embA (fun r w' => (∃ t, t < n ∧ x = nI t ∧ r = th t) ∧ cP G ca th (B) n (L) (T) w w') (fun E w' => (E = "java/lang/IndexOutOfBoundsException" ∧ ¬ rIn 0 (nI n - 1) x) ∧ cP G ca th (B) n (L) (T) w w') := by
  refine xMetX_of (by decide) (Nat.le_of_ble_eq_true rfl) ?_
  intro p e s m below meth c Γ hout
  refine c_in h ?_
  refine x_iload_n Γ dX2_thingNumbered_0 rfl rfl ?_
  refine x_if_lt (tgt := 15) Γ dX2_thingNumbered_1 (by decide) (fun c1 => ?_) (fun c1 => ?_)
  · exact x_throw Γ hfl (by decide) k_376 k_19 (show (188, "there is no such thing") ∈ xStr by simp [xStr]) at_IOE dX2_thingNumbered_15 dX2_thingNumbered_18 dX2_thingNumbered_19 dX2_thingNumbered_21 dX2_thingNumbered_24 hout ⟨Nat.le_of_ble_eq_true rfl, Nat.le_of_ble_eq_true rfl⟩ ⟨Nat.le_of_ble_eq_true rfl, Nat.le_of_ble_eq_true rfl⟩ ((fun w9 h9 => ⟨⟨rfl, fun y => absurd c1 (Int32.not_lt.mpr y.1)⟩, h9⟩)) ⟨Nat.le_of_ble_eq_true rfl, Nat.le_of_ble_eq_true rfl⟩
  · obtain ⟨t, ht31, rfl⟩ := nI_of (Int32.not_lt.mpr (Int32.not_lt.mp c1))
    refine x_iload_n Γ dX2_thingNumbered_4 rfl rfl ?_
    refine x_aload_n Γ dX2_thingNumbered_5 rfl rfl ?_
    refine c_this Γ 2 rfl (by decide) k_60 rfl dX2_thingNumbered_6 ?_
    refine x_invV (emb := embI) (ci := 0) (rm := ({ frames := 0, cells := 0, slots := 0, locals := 0 } : Room)) Γ [] (fun w1 r w2 => r = nI n ∧ w2 = w1) rfl (fun w1 h1 => t_size h1.1.2.2.2.1) c_lst3 rfl k_91 k_4 k_88 k_89 k_90 hd_Jx4a65c_size_8abf5 ⟨Nat.le_of_ble_eq_true rfl, Nat.le_of_ble_eq_true rfl⟩ ⟨Nat.le_of_ble_eq_true rfl, Nat.le_of_ble_eq_true rfl⟩ (Nat.le_of_ble_eq_true rfl) dX2_thingNumbered_9 (fun r => ?_)
    refine m_same (fun e9 => ?_)
    subst e9
    refine x_icmp_lt (tgt := 25) Γ dX2_thingNumbered_12 (by decide) (fun c12 => ?_) (fun c12 => ?_)
    · have htn : t < n := (nI_ltI ht31 (by omega)).mp c12
      refine x_ends ?_
      refine x_aload_n Γ dX2_thingNumbered_25 rfl rfl ?_
      refine c_this Γ 2 rfl (by decide) k_60 rfl dX2_thingNumbered_26 ?_
      refine x_iload_n Γ dX2_thingNumbered_29 rfl rfl ?_
      refine x_invV (emb := embA) (ci := 0) (rm := ({ frames := 2, cells := 0, slots := 0, locals := 43 } : Room)) Γ [.int (nI t)] (fun w1 r w2 => r = th t ∧ w2 = w1) rfl (fun w1 h1 => t_get h1.1.2.2.2.1 htn) c_lst3 rfl k_209 k_4 k_206 k_207 k_208 hd_Jx4a65c_get_915e3 ⟨Nat.le_of_ble_eq_true rfl, Nat.le_of_ble_eq_true rfl⟩ ⟨Nat.le_of_ble_eq_true rfl, Nat.le_of_ble_eq_true rfl⟩ (Nat.le_of_ble_eq_true rfl) dX2_thingNumbered_30 (fun r => ?_)
      refine m_same (fun e9 => ?_)
      subst e9
      refine x_cast (C := RX1) (T := TX1) (N := 12) (ci := 2) Γ rfl (c_thing htn) k_220 dX2_thingNumbered_33 ?_
      exact x_aret Γ rfl (Or.inl ⟨_, rfl⟩) (fun w2 e2 => ⟨⟨t, htn, rfl, rfl⟩, e2⟩) ⟨Nat.le_of_ble_eq_true rfl, Nat.le_of_ble_eq_true rfl⟩ dX2_thingNumbered_36
    · exact x_throw Γ hfl (by decide) k_376 k_19 (show (188, "there is no such thing") ∈ xStr by simp [xStr]) at_IOE dX2_thingNumbered_15 dX2_thingNumbered_18 dX2_thingNumbered_19 dX2_thingNumbered_21 dX2_thingNumbered_24 hout ⟨Nat.le_of_ble_eq_true rfl, Nat.le_of_ble_eq_true rfl⟩ ⟨Nat.le_of_ble_eq_true rfl, Nat.le_of_ble_eq_true rfl⟩ ((fun w9 h9 => ⟨⟨rfl, fun y => by obtain ⟨j, h7, h8⟩ := rT_nat (by omega) y; exact c12 (by rw [h8]; exact nI_lt h7 (by omega))⟩, h9⟩)) ⟨Nat.le_of_ble_eq_true rfl, Nat.le_of_ble_eq_true rfl⟩
set_option maxRecDepth 100000 in
theorem t_fill {w : xW} {a k0 len : Nat} {v : Int32} {f : Nat → Int32} (h : w a = some (k0, .inl (G.2 1, len, .inl f))) (hlen : len < 1000) : xMet l G yJ7_fill_53178 cJ7_fill_53178 4 none ({ frames := 0, cells := 0, slots := 0, locals := 0 } : Room) [.ref a, .int v] w embV (fun _ w' => w' = xu w a (k0, .inl (G.2 1, len, .inl (fun i => if i < len then v else f i)))) := by
  refine xMet_of (by decide) (Nat.le_of_ble_eq_true rfl) ?_
  intro p e s m below meth c Γ hnm
  have hup : ∀ t, upd (fun i => if i < t then v else f i) t v = fun i => if i < t + 1 then v else f i := by
    intro t
    funext i
    by_cases hi : i = t
    · subst hi
      simp [upd]
    · by_cases h2 : i < t
      · simp [upd, hi, h2, show i < t + 1 by omega]
      · simp [upd, hi, h2, show ¬ i < t + 1 by omega]
  have loop : ∀ d t, t + d = len → xJ p l e ({ frames := 0, cells := 0, slots := 0, locals := 0 } : Room) s m ([.ref a, .int v] : List Value).toArray below meth c G 4 (MQ below (xQ G embV (fun _ w' => w' = xu w a (k0, .inl (G.2 1, len, .inl (fun i => if i < len then v else f i))))) ([.ref a, .int v] : List Value).toArray s ({ frames := 0, cells := 0, slots := 0, locals := 0 } : Room).cells ({ frames := 0, cells := 0, slots := 0, locals := 0 } : Room).slots (xA G)) (fun w1 => w1 = xu w a (k0, .inl (G.2 1, len, .inl (fun i => if i < t then v else f i)))) 0 0 5 [(0, .ref a), (1, .int v), (2, .int (nI t)), (3, .int (nI len))] [] := by
    intro d
    induction d with
    | zero =>
      intro t ht
      refine x_iload_n Γ dJ7_fill_53178_5 rfl rfl ?_
      refine x_iload_n Γ dJ7_fill_53178_6 rfl rfl ?_
      refine x_icmp_ge (tgt := 20) Γ dJ7_fill_53178_7 (by decide) (fun c7 => ?_) (fun c7 => absurd (nI_le (by omega) (by omega)) c7)
      exact x_vret Γ rfl (fun w2 e2 => by rw [e2, show t = len by omega]) ⟨Nat.le_of_ble_eq_true rfl, Nat.le_of_ble_eq_true rfl⟩ dJ7_fill_53178_20
    | succ d ih =>
      intro t ht
      refine x_iload_n Γ dJ7_fill_53178_5 rfl rfl ?_
      refine x_iload_n Γ dJ7_fill_53178_6 rfl rfl ?_
      refine x_icmp_ge (tgt := 20) Γ dJ7_fill_53178_7 (by decide) (fun c7 => absurd c7 (nI_ge (by omega) (by omega))) (fun c7 => ?_)
      refine x_aload_n Γ dJ7_fill_53178_10 rfl rfl ?_
      refine x_iload_n Γ dJ7_fill_53178_11 rfl rfl ?_
      refine x_iload_n Γ dJ7_fill_53178_12 rfl rfl ?_
      refine x_iast (P' := fun w1 => w1 = xu w a (k0, .inl (G.2 1, len, .inl (fun i => if i < (t + 1) then v else f i)))) (N := len) (f := fun i => if i < t then v else f i) Γ (fun w9 e9 => by rw [e9]; refine ⟨_, xu_eq _ _ _, ?_⟩; rw [xu_xu, nI_clamp (by omega), hup t]) (vp_in_nI (by omega) (by omega)) dJ7_fill_53178_13 ?_
      refine x_iinc (v := _ + 1) Γ dJ7_fill_53178_14 rfl rfl rfl (by decide) ?_
      rw [nI_1]
      refine x_goto (tgt := 5) Γ dJ7_fill_53178_17 (by decide) ?_
      refine x_lv [0, 1, 2, 3] rfl ?_
      exact ih (t + 1) (by omega)
  refine x_iconst (v := 0) Γ dJ7_fill_53178_0 (by decide) ?_
  refine x_istore_n Γ dJ7_fill_53178_1 rfl rfl (by decide) ?_
  refine x_aload_n Γ dJ7_fill_53178_2 rfl rfl ?_
  refine x_alen Γ (fun w1 e1 => by rw [e1]; exact ⟨k0, _, Or.inl h⟩) dJ7_fill_53178_3 ?_
  refine x_istore_n Γ dJ7_fill_53178_4 rfl rfl (by decide) ?_
  refine x_weak (P' := fun w1 => w1 = xu w a (k0, .inl (G.2 1, len, .inl (fun i => if i < 0 then v else f i)))) (fun w1 e1 => ?_) ?_
  · rw [e1]
    have e : (fun i => if i < 0 then v else f i) = f := funext fun i => if_neg (Nat.not_lt_zero i)
    rw [e]
    funext q
    by_cases hq : q = a
    · subst hq; rw [xu_eq, h]
    · rw [xu_ne hq]
  refine x_lv [0, 1, 2, 3] rfl ?_
  exact loop len 0 (by omega)
end XC3
end
section
section XC4
def iP (G : xG) (w0 : xW) (x : Nat) (fs : List Value) (o1 o2 o3 o4 : Option Nat) : xW → Prop := fun w => w x = some (100, .inr (3, fs)) ∧ (∀ a, o1 = some a → w a = some (101, .inl (G.2 1, 5, .inl (fun _ => 0)))) ∧ (∀ a, o2 = some a → w a = some (102, .inl (G.2 1, 8, .inl (fun _ => 0)))) ∧ (∀ a, o3 = some a → LstAt G w a 104 0 (fun _ => 0)) ∧ (∀ a, o4 = some a → LstAt G w a 105 0 (fun _ => 0)) ∧ KpX w0 w
theorem iP.kp {G : xG} {w0 w w' : xW} {x : Nat} {fs fs' : List Value} {o1 o2 o3 o4 : Option Nat} (h : iP G w0 x fs o1 o2 o3 o4 w) (hx : w' x = some (100, .inr (3, fs'))) (hk : xKp (fun k => k ≠ 100) w w') : iP G w0 x fs' o1 o2 o3 o4 w' :=
  ⟨hx, fun a ha => hk _ _ _ (h.2.1 a ha) (by omega), fun a ha => hk _ _ _ (h.2.2.1 a ha) (by omega), fun a ha => (h.2.2.2.1 a ha).kp hk (by omega) (by omega), fun a ha => (h.2.2.2.2.1 a ha).kp hk (by omega) (by omega), h.2.2.2.2.2.tr (hk.mono (by intro k hk; omega))⟩
theorem iP.put {G : xG} {w0 w : xW} {x j : Nat} {fs : List Value} {v : Value} {o1 o2 o3 o4 : Option Nat} (h : iP G w0 x fs o1 o2 o3 o4 w) : iP G w0 x (fs.set j v) o1 o2 o3 o4 (xu w x (100, .inr (3, fs.set j v))) := h.kp (xu_eq _ _ _) (xKp.set h.1 (fun z => z rfl))
theorem iP.new {G : xG} {w0 w : xW} {x a : Nat} {e : Nat × va_E} {fs : List Value} {o1 o2 o3 o4 : Option Nat} (h : iP G w0 x fs o1 o2 o3 o4 w) (ha : w a = none) : iP G w0 x fs o1 o2 o3 o4 (xu w a e) := h.kp (xu_new h.1 ha) (xKp.new ha)
variable {l : Launch} {G : xG}
set_option maxRecDepth 100000 in
theorem t_cinit {x : Nat} {w : xW} (h : w x = some (100, .inr (3, [.null, .null, .null, .null, .int 0, .int 0, .int 0]))) : xMet l G yX2_init cX2_init 1 none ({ frames := 4, cells := 4, slots := 19, locals := 80 } : Room) [.ref x] w embV (fun _ w' => ∃ ca th, ca 0 = x ∧ CRaw G w' ca th (mIni 5 24048) 0 [] (fun _ => []) ∧ KpX w w') := by
  refine xMet_of (by decide) (Nat.le_of_ble_eq_true rfl) ?_
  intro p e s m below meth c Γ hnm
  refine x_weak (P' := iP G w x [.null, .null, .null, .null, .int 0, .int 0, .int 0] none none none none) (fun w1 h1 => by rw [h1]; exact ⟨h, fun a ha => (by cases ha), fun a ha => (by cases ha), fun a ha => (by cases ha), fun a ha => (by cases ha), xKp.rf⟩) ?_
  refine x_aload_n Γ dX2_init_0 rfl rfl ?_
  refine x_obj Γ k_25 ⟨Nat.le_of_ble_eq_true rfl, Nat.le_of_ble_eq_true rfl⟩ dX2_init_1 ?_
  refine x_aload_n Γ dX2_init_4 rfl rfl ?_
  refine x_iconst (v := 5) Γ dX2_init_5 (by decide) ?_
  refine x_newI (F := fun a => iP G w x [.null, .null, .null, .null, .int 0, .int 0, .int 0] (some a) none none none) Γ 101 (N := 5) (by decide) (by decide) (fun w1 a h1 h2 => ?_) ⟨Nat.le_of_ble_eq_true rfl, Nat.le_of_ble_eq_true rfl⟩ dX2_init_6 ?_
  · have h3 := iP.new (e := (101, .inl (G.2 1, 5, .inl (fun _ => 0)))) h1 h2
    exact ⟨h3.1, fun b hb => by cases hb; exact xu_eq _ _ _, h3.2.2.1, h3.2.2.2.1, h3.2.2.2.2.1, h3.2.2.2.2.2⟩
  intro a1
  refine x_putfF (P' := iP G w x [.ref a1, .null, .null, .null, .int 0, .int 0, .int 0] (some a1) none none none) Γ hnm kl3 0 (fun w1 h1 => ⟨_, _, h1.1, Nat.le_of_ble_eq_true rfl, h1.put⟩) (by decide) k_58 rfl rfl rfl rfl dX2_init_8 ?_
  refine x_aload_n Γ dX2_init_11 rfl rfl ?_
  refine x_bipush (v := 8) Γ dX2_init_12 (by decide) ?_
  refine x_newI (F := fun a => iP G w x [.ref a1, .null, .null, .null, .int 0, .int 0, .int 0] (some a1) (some a) none none) Γ 102 (N := 8) (by decide) (by decide) (fun w1 a h1 h2 => ?_) ⟨Nat.le_of_ble_eq_true rfl, Nat.le_of_ble_eq_true rfl⟩ dX2_init_14 ?_
  · have h3 := iP.new (e := (102, .inl (G.2 1, 8, .inl (fun _ => 0)))) h1 h2
    exact ⟨h3.1, h3.2.1, fun b hb => by cases hb; exact xu_eq _ _ _, h3.2.2.2.1, h3.2.2.2.2.1, h3.2.2.2.2.2⟩
  intro a2
  refine x_putfF (P' := iP G w x [.ref a1, .ref a2, .null, .null, .int 0, .int 0, .int 0] (some a1) (some a2) none none) Γ hnm kl3 1 (fun w1 h1 => ⟨_, _, h1.1, Nat.le_of_ble_eq_true rfl, h1.put⟩) (by decide) k_59 rfl rfl rfl rfl dX2_init_16 ?_
  refine x_aload_n Γ dX2_init_19 rfl rfl ?_
  refine x_new (F := fun a w2 => iP G w x [.ref a1, .ref a2, .null, .null, .int 0, .int 0, .int 0] (some a1) (some a2) none none w2 ∧ w2 a = some (104, .inr (0, [.int 0, .null, .int 0]))) Γ kl0 [.int 0, .null, .int 0] 104 (by decide) k_28 k_29 k_4 (fun w1 a h1 h2 => ⟨h1.new h2, xu_eq _ _ _⟩) ⟨Nat.le_of_ble_eq_true rfl, Nat.le_of_ble_eq_true rfl⟩ dX2_init_20 ?_
  intro a3
  refine x_dup Γ dX2_init_23 rfl ?_
  refine x_invI (rm := ({ frames := 3, cells := 0, slots := 0, locals := 52 } : Room)) Γ [] (fun w1 _ w2 => LstAt G w2 a3 104 0 (fun _ => 0) ∧ KpL 104 w1 w2) rfl (fun w1 h1 => t_newlist h1.2) rfl k_32 k_4 k_30 k_31 hd_Jx4a65c_init_da8c8 ⟨Nat.le_of_ble_eq_true rfl, Nat.le_of_ble_eq_true rfl⟩ ⟨Nat.le_of_ble_eq_true rfl, Nat.le_of_ble_eq_true rfl⟩ (Nat.le_of_ble_eq_true rfl) dX2_init_24 (fun _ => ?_)
  refine x_weak (P' := iP G w x [.ref a1, .ref a2, .null, .null, .int 0, .int 0, .int 0] (some a1) (some a2) (some a3) none) (fun w2 h2 => ?_) ?_
  · obtain ⟨w1, ⟨h1, -⟩, h3, h4⟩ := h2
    have k1 : xKp (fun k => k ≠ 104 ∧ k ≠ 106) w1 w2 := fun b k e hb hs => h4 b k e hb hs.1 hs.2
    exact ⟨k1 _ _ _ h1.1 (by omega), fun a ha => k1 _ _ _ (h1.2.1 a ha) (by omega), fun a ha => k1 _ _ _ (h1.2.2.1 a ha) (by omega), fun a ha => (by cases ha; exact h3), fun a ha => (by cases ha), h1.2.2.2.2.2.tr (k1.mono (by intro k hk; omega))⟩
  refine x_putfF (P' := iP G w x [.ref a1, .ref a2, .ref a3, .null, .int 0, .int 0, .int 0] (some a1) (some a2) (some a3) none) Γ hnm kl3 2 (fun w1 h1 => ⟨_, _, h1.1, Nat.le_of_ble_eq_true rfl, h1.put⟩) (by decide) k_60 rfl rfl rfl rfl dX2_init_27 ?_
  refine x_aload_n Γ dX2_init_30 rfl rfl ?_
  refine x_new (F := fun a w2 => iP G w x [.ref a1, .ref a2, .ref a3, .null, .int 0, .int 0, .int 0] (some a1) (some a2) (some a3) none w2 ∧ w2 a = some (105, .inr (0, [.int 0, .null, .int 0]))) Γ kl0 [.int 0, .null, .int 0] 105 (by decide) k_28 k_29 k_4 (fun w1 a h1 h2 => ⟨h1.new h2, xu_eq _ _ _⟩) ⟨Nat.le_of_ble_eq_true rfl, Nat.le_of_ble_eq_true rfl⟩ dX2_init_31 ?_
  intro a4
  refine x_dup Γ dX2_init_34 rfl ?_
  refine x_invI (rm := ({ frames := 3, cells := 0, slots := 0, locals := 52 } : Room)) Γ [] (fun w1 _ w2 => LstAt G w2 a4 105 0 (fun _ => 0) ∧ KpL 105 w1 w2) rfl (fun w1 h1 => t_newlist h1.2) rfl k_32 k_4 k_30 k_31 hd_Jx4a65c_init_da8c8 ⟨Nat.le_of_ble_eq_true rfl, Nat.le_of_ble_eq_true rfl⟩ ⟨Nat.le_of_ble_eq_true rfl, Nat.le_of_ble_eq_true rfl⟩ (Nat.le_of_ble_eq_true rfl) dX2_init_35 (fun _ => ?_)
  refine x_weak (P' := iP G w x [.ref a1, .ref a2, .ref a3, .null, .int 0, .int 0, .int 0] (some a1) (some a2) (some a3) (some a4)) (fun w2 h2 => ?_) ?_
  · obtain ⟨w1, ⟨h1, -⟩, h3, h4⟩ := h2
    have k1 : xKp (fun k => k ≠ 105 ∧ k ≠ 107) w1 w2 := fun b k e hb hs => h4 b k e hb hs.1 hs.2
    exact ⟨k1 _ _ _ h1.1 (by omega), fun a ha => k1 _ _ _ (h1.2.1 a ha) (by omega), fun a ha => k1 _ _ _ (h1.2.2.1 a ha) (by omega), fun a ha => (h1.2.2.2.1 a ha).kp k1 (by omega) (by omega), fun a ha => (by cases ha; exact h3), h1.2.2.2.2.2.tr (k1.mono (by intro k hk; omega))⟩
  refine x_putfF (P' := iP G w x [.ref a1, .ref a2, .ref a3, .ref a4, .int 0, .int 0, .int 0] (some a1) (some a2) (some a3) (some a4)) Γ hnm kl3 3 (fun w1 h1 => ⟨_, _, h1.1, Nat.le_of_ble_eq_true rfl, h1.put⟩) (by decide) k_61 rfl rfl rfl rfl dX2_init_38 ?_
  refine x_aload_n Γ dX2_init_41 rfl rfl ?_
  refine x_bipush (v := 6) Γ dX2_init_42 (by decide) ?_
  refine x_putf (P' := iP G w x [.ref a1, .ref a2, .ref a3, .ref a4, .int 6, .int 0, .int 0] (some a1) (some a2) (some a3) (some a4)) Γ kl3 4 (fun w1 h1 => ⟨_, _, h1.1, Nat.le_of_ble_eq_true rfl, h1.put⟩) (by decide) k_62 (Or.inl rfl) rfl rfl rfl dX2_init_44 ?_
  refine x_aload_n Γ dX2_init_47 rfl rfl ?_
  refine x_iconst (v := 0) Γ dX2_init_48 (by decide) ?_
  refine x_putf (P' := iP G w x [.ref a1, .ref a2, .ref a3, .ref a4, .int 6, .int 0, .int 0] (some a1) (some a2) (some a3) (some a4)) Γ kl3 5 (fun w1 h1 => ⟨_, _, h1.1, Nat.le_of_ble_eq_true rfl, h1.put⟩) (by decide) k_63 (Or.inl rfl) rfl rfl rfl dX2_init_49 ?_
  refine x_aload_n Γ dX2_init_52 rfl rfl ?_
  refine x_iconst (v := 0) Γ dX2_init_53 (by decide) ?_
  refine x_putf (P' := iP G w x [.ref a1, .ref a2, .ref a3, .ref a4, .int 6, .int 0, .int 0] (some a1) (some a2) (some a3) (some a4)) Γ kl3 6 (fun w1 h1 => ⟨_, _, h1.1, Nat.le_of_ble_eq_true rfl, h1.put⟩) (by decide) k_64 (Or.inl rfl) rfl rfl rfl dX2_init_54 ?_
  refine x_aload_n Γ dX2_init_57 rfl rfl ?_
  refine x_getf Γ kl3 0 (fun w1 h1 => ⟨_, _, h1.1, rfl⟩) (by decide) k_58 (Or.inl rfl) dX2_init_58 ?_
  refine x_bipush (v := 10) Γ dX2_init_61 (by decide) ?_
  refine x_invS (emb := embV) (rm := ({ frames := 0, cells := 0, slots := 0, locals := 0 } : Room)) Γ [.ref a1, .int 10] (fun w1 _ w2 => w2 = xu w1 a1 (101, .inl (G.2 1, 5, .inl (fun i => if i < 5 then 10 else 0)))) rfl (fun w1 h1 => t_fill (h1.2.1 a1 rfl) (by omega)) k_57 k_5 k_55 k_56 hd_J7_fill_53178 ⟨Nat.le_of_ble_eq_true rfl, Nat.le_of_ble_eq_true rfl⟩ ⟨Nat.le_of_ble_eq_true rfl, Nat.le_of_ble_eq_true rfl⟩ (Nat.le_of_ble_eq_true rfl) dX2_init_63 (fun _ => ?_)
  refine x_vret Γ rfl (fun w2 h2 => ?_) ⟨Nat.le_of_ble_eq_true rfl, Nat.le_of_ble_eq_true rfl⟩ dX2_init_66
  obtain ⟨w1, h1, h3⟩ := h2
  obtain ⟨g1, g2, g3, g4, g5, g6⟩ := h1
  have k1 : xKp (fun k => k ≠ 101) w1 w2 := by rw [h3]; exact xKp.set (g2 a1 rfl) (fun z => z rfl)
  refine ⟨fun i => if i = 0 then x else if i = 1 then a1 else if i = 2 then a2 else if i = 3 then a3 else a4, fun _ => 0, rfl, ⟨k1 _ _ _ g1 (by omega), ?_, k1 _ _ _ (g3 a2 rfl) (by omega), ?_, ?_, fun t ht => absurd ht (Nat.not_lt_zero t)⟩, g6.tr (k1.mono (by intro k hk; omega))⟩
  · show w2 a1 = _
    rw [h3]; exact xu_eq _ _ _
  · exact (g4 a3 rfl).kp k1 (by omega) (by omega)
  · exact ((g5 a4 rfl).kp k1 (by omega) (by omega)).congr (fun i hi => absurd hi (Nat.not_lt_zero i))
end XC4
end
section
section XIN
/-! what holds of class and reference between calls -/
def cB (A : xS) : xS := fun j i => if j = 13 then (if 0 < A 12 i then A 13 i else -1) else A j i
theorem cB_j {A : xS} {j : Nat} (h : j ≠ 13) : cB A j = A j := funext fun i => if_neg h
def pI (A : xS) (n : Nat) (L : List Nat) : Prop :=
  aI A n ∧ lI A n L ∧ (∀ t, t < n → t ∉ L → A 15 t = -1) ∧ (∀ t, t < n → 0 ≤ A 9 t) ∧ (∀ t, t ∈ L → A 9 t < 5) ∧ (∀ t, t < n → A 12 t = 0 ∨ (0 < A 12 t ∧ A 9 t < 5)) ∧
  (∀ t, t < n → A 12 t = 0 → A 14 t = -1) ∧ (∀ t, t < n → 0 ≤ A 8 t) ∧ ∀ t, n ≤ t → t < 24 → A 11 t = 0 ∧ A 12 t = 0 ∧ ∀ d, d ≤ 1000 → A 18 (24 * d + t) = 12
def calI (A : xS) (n : Nat) : Prop := ∀ t, t < n → A 14 t = -1 ∨ A 4 0 ≤ A 14 t
def calS (A : xS) (n : Nat) : Prop := ∀ t, t < n → A 14 t = -1 ∨ A 4 0 < A 14 t
def tgI (A : xS) (n D : Nat) (T : Nat → xTg) : Prop := ∀ t, t < n → (∃ f r, T t = (A 9 t, f) :: r) ∧ (∀ q ∈ T t, q.2 ≤ nI (D + 1)) ∧ ∀ d, d ≤ D → lkp (nI d) (T t) = A 18 (24 * d + t)
theorem tgI.same {A A' : xS} {n D : Nat} {T : Nat → xTg} (h : tgI A n D T) (h9 : A' 9 = A 9) (h18 : A' 18 = A 18) : tgI A' n D T := by
  unfold tgI
  rw [h9, h18]
  exact h
theorem tgI.move {A A' : xS} {n D t : Nat} {T : Nat → xTg} {np : Int32} (h : tgI A n D T) (hD : D ≤ 1000) (h9 : ∀ i, i ≠ t → A' 9 i = A 9 i) (h9t : A' 9 t = np) (h18 : A' 18 = A 18) : tgI A' n D (tUp T t (np, nI (D + 1))) := by
  intro i hi
  obtain ⟨g1, g2, g3⟩ := h i hi
  by_cases hit : i = t
  · subst hit
    have e : tUp T i (np, nI (D + 1)) i = (np, nI (D + 1)) :: T i := if_pos rfl
    rw [e, h9t, h18]
    refine ⟨⟨_, _, rfl⟩, fun q hq => ?_, fun d hd => ?_⟩
    · rcases List.mem_cons.mp hq with rfl | hq
      · exact Int32.le_refl _
      · exact g2 q hq
    · rw [lkp, if_neg (nI_ge (by omega) (by omega))]
      exact g3 d hd
  · have e : tUp T t (np, nI (D + 1)) i = T i := if_neg hit
    rw [e, h9 i hit, h18]
    exact ⟨g1, g2, g3⟩
theorem fBeg_at {B : xS} {D t : Nat} (hB : B 4 0 = nI (D + 1)) (hD : D + 1 ≤ 1000) : ∀ m, m ≤ 24 → t < m → fBeg m B 18 (24 * (D + 1) + t) = B 9 t
  | 0, _, h => absurd h (Nat.not_lt_zero t)
  | m + 1, hm, h => by
    rw [fBeg, hB, show (24 : Int32) = nI 24 from rfl, nI_mul, nI_add, ixn2 (by omega)]
    by_cases htm : t = m
    · subst htm
      rw [mU_eq]
    · rw [mU_i (by omega)]
      exact fBeg_at hB hD m (by omega) (by omega)
theorem fBeg_ne {B : xS} {D k : Nat} (hB : B 4 0 = nI (D + 1)) (hD : D + 1 ≤ 1000) : ∀ m, m ≤ 24 → (∀ t, t < m → k ≠ 24 * (D + 1) + t) → fBeg m B 18 k = B 18 k
  | 0, _, _ => rfl
  | m + 1, hm, h => by
    rw [fBeg, hB, show (24 : Int32) = nI 24 from rfl, nI_mul, nI_add, ixn2 (by omega), mU_i (h m (by omega))]
    exact fBeg_ne hB hD m (by omega) (fun t ht => h t (by omega))
theorem tgI.tick {A : xS} {n D : Nat} {T : Nat → xTg} (h : tgI A n D T) (hn : n ≤ 24) (hD : D + 1 ≤ 1000) : tgI (fBeg n (mU A 4 0 (nI (D + 1)))) n (D + 1) T := by
  intro t ht
  obtain ⟨⟨f, r, g1⟩, g2, g3⟩ := h t ht
  have hB : mU A 4 0 (nI (D + 1)) 4 0 = nI (D + 1) := mU_eq _ _ _ _
  refine ⟨⟨f, r, ?_⟩, fun q hq => ?_, fun d hd => ?_⟩
  · rw [fBeg_j (by decide), mU_j (by decide)]; exact g1
  · exact Int32.le_trans (g2 q hq) (nI_le (by omega) (by omega))
  · by_cases hdD : d = D + 1
    · subst hdD
      rw [fBeg_at hB hD n hn ht, mU_j (by decide), g1, lkp, if_pos (g2 _ (by rw [g1]; exact List.mem_cons_self))]
    · rw [fBeg_ne hB hD n hn (fun i hi => by omega), mU_j (by decide)]
      exact g3 d (by omega)
/-! one thing sold -/
theorem sell_ne {A : xS} {t i j : Nat} (hi : i ≠ t) (h2 : j ≠ 2) (h3 : j ≠ 3) : fSell t A j i = A j i := by
  unfold fSell sA3 sA2
  rw [mU_i hi, mU_i hi, mU_i hi, mU_i hi, mU_j h2, mU_j h3, mU_i hi, sA1_j h2]
theorem sell_j {A : xS} {t j : Nat} (h : stb j = true) : fSell t A j = A j := sameR_sell A t j h
theorem sell_12 (A : xS) (t : Nat) : fSell t A 12 t = 0 := by
  unfold fSell
  rw [mU_j (by decide), mU_j (by decide), mU_j (by decide), mU_eq]
theorem sell_14 (A : xS) (t : Nat) : fSell t A 14 t = -1 := by
  unfold fSell
  rw [mU_j (by decide), mU_j (by decide), mU_eq]
theorem sell_9 (A : xS) (t : Nat) : fSell t A 9 t = 11 := by
  unfold fSell
  rw [mU_j (by decide), mU_eq]
theorem sell_at15 (A : xS) (t : Nat) : fSell t A 15 t = -1 := by
  unfold fSell
  rw [mU_eq]
theorem fFor_in {t q : Nat} {L : List Nat} (h : q ∈ L) (hq : q ≠ t) : q ∈ fFor t L := List.mem_filter.mpr ⟨h, by simp [hq]⟩
theorem pI.sell {A : xS} {n t : Nat} {L : List Nat} (h : pI A n L) (ht : t < n) : pI (fSell t A) n (fFor t L) := by
  obtain ⟨h1, h2, h3, h4, h5, h6, h7, h8, h9⟩ := h
  refine ⟨sameR_aI (sameR_sell A t) h1, lI_sell h2, fun q hq hL => ?_, fun q hq => ?_, fun q hq => ?_, fun q hq => ?_, fun q hq => ?_, fun q hq => ?_, fun q hq hq2 => ?_⟩
  · by_cases e : q = t
    · subst e; exact sell_at15 A q
    · rw [sell_ne e (by decide) (by decide)]
      exact h3 q hq (fun z => hL (fFor_in z e))
  · by_cases e : q = t
    · subst e; rw [sell_9]; decide
    · rw [sell_ne e (by decide) (by decide)]; exact h4 q hq
  · have hm := fFor_mem hq
    rw [sell_ne hm.2 (by decide) (by decide)]; exact h5 q hm.1
  · by_cases e : q = t
    · subst e; exact Or.inl (sell_12 A q)
    · rw [sell_ne e (by decide) (by decide), sell_ne e (by decide) (by decide)]; exact h6 q hq
  · by_cases e : q = t
    · subst e; intro _; exact sell_14 A q
    · rw [sell_ne e (by decide) (by decide), sell_ne e (by decide) (by decide)]; exact h7 q hq
  · rw [sell_j rfl]; exact h8 q hq
  · have e : q ≠ t := by omega
    rw [sell_ne e (by decide) (by decide), sell_ne e (by decide) (by decide), sell_j rfl]
    exact h9 q hq hq2
theorem calI.sell {A : xS} {n t : Nat} (h : calI A n) : calI (fSell t A) n := fun q hq => by
  rw [sell_j (j := 4) rfl]
  by_cases e : q = t
  · subst e; exact Or.inl (sell_14 A q)
  · rw [sell_ne e (by decide) (by decide)]; exact h q hq
theorem calS.sell {A : xS} {n t : Nat} (h : calS A n) : calS (fSell t A) n := fun q hq => by
  rw [sell_j (j := 4) rfl]
  by_cases e : q = t
  · subst e; exact Or.inl (sell_14 A q)
  · rw [sell_ne e (by decide) (by decide)]; exact h q hq
theorem pI.owe {A : xS} {n t : Nat} {L : List Nat} {v : Int32} (h : pI A n L) (ht : t < n) : pI (mU A 11 t v) n L := by
  obtain ⟨h1, h2, h3, h4, h5, h6, h7, h8, h9⟩ := h
  refine ⟨sameR_aI (sameR_mU rfl) h1, lI_same h2 (mU_j (by decide)), h3, h4, h5, h6, h7, h8, fun q hq hq2 => ?_⟩
  rw [mU_i (by omega)]
  exact h9 q hq hq2
theorem pI.owes {A : xS} {n : Nat} {L : List Nat} (h : pI A n L) : ∀ t, t ≤ n → pI (fOwe t A) n L
  | 0, _ => h
  | t + 1, ht => (pI.owes h t (by omega)).owe (by omega)
theorem pI.move {A : xS} {n t : Nat} {L : List Nat} (h : pI A n L) (ht : t ∈ L) : pI (fMove A t) n (fFor t L) := by
  obtain ⟨h1, h2, h3, h4, h5, h6, h7, h8, h9⟩ := h
  obtain ⟨htn, c, hc, hg⟩ := h2.2.2 t ht
  have e9 : ∀ q, fMove A t 9 q = if q = t then nI c else A 9 q := fun q => by
    unfold fMove
    rw [mU_j (by decide), hg]
    by_cases e : q = t
    · subst e; rw [mU_eq, if_pos rfl]
    · rw [mU_i e, if_neg e]
  have ej : ∀ j, j ≠ 9 → j ≠ 15 → fMove A t j = A j := fun j g1 g2 => by
    unfold fMove
    rw [mU_j g2, mU_j g1]
  have hc5 : nI c < 5 := nI_lt (b := 5) hc (by decide)
  refine ⟨sameR_aI (sameR_move A t) h1, lI_move h2, fun q hq hL => ?_, fun q hq => ?_, fun q hq => ?_, fun q hq => ?_, fun q hq => ?_, fun q hq => ?_, fun q hq hq2 => ?_⟩
  · by_cases e : q = t
    · subst e; unfold fMove; rw [mU_eq]
    · rw [move_15 e]
      exact h3 q hq (fun z => hL (fFor_in z e))
  · rw [e9]
    split
    · exact nI_pos' (by omega)
    · exact h4 q hq
  · have hm := fFor_mem hq
    rw [e9, if_neg hm.2]; exact h5 q hm.1
  · rw [e9, ej 12 (by decide) (by decide)]
    split
    · rcases h6 q hq with h | h
      · exact Or.inl h
      · exact Or.inr ⟨h.1, hc5⟩
    · exact h6 q hq
  · rw [ej 12 (by decide) (by decide), ej 14 (by decide) (by decide)]; exact h7 q hq
  · rw [ej 8 (by decide) (by decide)]; exact h8 q hq
  · rw [ej 11 (by decide) (by decide), ej 12 (by decide) (by decide), ej 18 (by decide) (by decide)]; exact h9 q hq hq2
theorem calS.move {A : xS} {n t : Nat} (h : calS A n) : calS (fMove A t) n := fun q hq => by
  have ej : ∀ j, j ≠ 9 → j ≠ 15 → fMove A t j = A j := fun j g1 g2 => by
    unfold fMove
    rw [mU_j g2, mU_j g1]
  rw [ej 4 (by decide) (by decide), ej 14 (by decide) (by decide)]
  exact h q hq
theorem le_lt {D : Nat} {x : Int32} (hD : D ≤ 1000) (h : nI D < x) : nI (D + 1) ≤ x := by
  rw [Int32.lt_iff_toInt_lt, nI_int (by omega)] at h
  rw [Int32.le_iff_toInt_le, nI_int (by omega)]
  omega
theorem pI.tick {A : xS} {n D : Nat} {L : List Nat} (h : pI A n L) (hD : A 4 0 = nI D) (hD1 : D + 1 ≤ 1000) : pI (fBeg n (mU A 4 0 (nI (D + 1)))) n L := by
  obtain ⟨⟨a1, a2, a3, a4, a5⟩, h2, h3, h4, h5, h6, h7, h8, h9⟩ := h
  have hB : mU A 4 0 (nI (D + 1)) 4 0 = nI (D + 1) := mU_eq _ _ _ _
  have ej : ∀ j, j ≠ 4 → j ≠ 18 → fBeg n (mU A 4 0 (nI (D + 1))) j = A j := fun j g1 g2 => by rw [fBeg_j g2, mU_j g1]
  have e4 : fBeg n (mU A 4 0 (nI (D + 1))) 4 0 = nI (D + 1) := by rw [fBeg_j (by decide), mU_eq]
  refine ⟨⟨by rw [ej 5 (by decide) (by decide)]; exact a1, a2, ⟨D + 1, hD1, e4⟩, by rw [ej 6 (by decide) (by decide)]; exact a4, by rw [ej 13 (by decide) (by decide)]; exact a5⟩, lI_same h2 (ej 15 (by decide) (by decide)), ?_, ?_, ?_, ?_, ?_, ?_, fun q hq hq2 => ?_⟩
  · rw [ej 15 (by decide) (by decide)]; exact h3
  · rw [ej 9 (by decide) (by decide)]; exact h4
  · rw [ej 9 (by decide) (by decide)]; exact h5
  · rw [ej 12 (by decide) (by decide), ej 9 (by decide) (by decide)]; exact h6
  · rw [ej 12 (by decide) (by decide), ej 14 (by decide) (by decide)]; exact h7
  · rw [ej 8 (by decide) (by decide)]; exact h8
  · rw [ej 11 (by decide) (by decide), ej 12 (by decide) (by decide)]
    refine ⟨(h9 q hq hq2).1, (h9 q hq hq2).2.1, fun d hd => ?_⟩
    rw [fBeg_ne hB hD1 n a2 (fun i hi => by omega), mU_j (by decide)]
    exact (h9 q hq hq2).2.2 d hd
theorem calS.tick {A : xS} {n D : Nat} (h : calS A n) (hD : A 4 0 = nI D) (hD1 : D + 1 ≤ 1000) : calI (fBeg n (mU A 4 0 (nI (D + 1)))) n := fun q hq => by
  rw [fBeg_j (by decide), fBeg_j (by decide), mU_j (by decide), mU_eq]
  rcases h q hq with g | g
  · exact Or.inl g
  · rw [hD] at g
    exact Or.inr (le_lt (by omega) g)
/-! the day's loops -/
theorem le_ne_lt {x y : Int32} (h : x ≤ y) (h2 : ¬ y = x) : x < y := by
  rw [Int32.le_iff_toInt_le] at h
  rw [Int32.lt_iff_toInt_lt]
  have : y.toInt ≠ x.toInt := fun z => h2 (Int32.toInt_inj.mp z)
  omega
theorem fCalT_iff {A : xS} {n t : Nat} {L : List Nat} (h : pI A n L) (hc : calI A n) (ht : t < n) : fCalT A t ↔ ¬ A 14 t = -1 ∧ A 14 t ≤ A 4 0 := by
  obtain ⟨h1, h2, h3, h4, h5, h6, h7, h8, h9⟩ := h
  obtain ⟨d, hd, h4d⟩ := h1.2.2.1
  constructor
  · rintro ⟨g1, g2, g3⟩
    refine ⟨?_, by rw [g3]; exact Int32.le_refl _⟩
    rw [g3, h4d]
    intro z
    have := nI_int (n := d) (by omega)
    rw [z] at this
    have h9 : ((-1 : Int32)).toInt = -1 := by decide
    omega
  · rintro ⟨g1, g2⟩
    rcases hc t ht with g | g
    · exact absurd g g1
    · rcases h6 t ht with k | k
      · exact absurd (h7 t ht k) g1
      · exact ⟨k.2, k.1, Int32.le_antisymm g2 g⟩
theorem fCal_P {A : xS} {n : Nat} {L : List Nat} (x : Int32) (h : pI A n L) (hc : calI A n) : ∀ m, m ≤ n → pI (fCal m (x, A, L)).2.1 n (fCal m (x, A, L)).2.2 ∧ calI (fCal m (x, A, L)).2.1 n ∧ ∀ q, q < m → (fCal m (x, A, L)).2.1 14 q = -1 ∨ (fCal m (x, A, L)).2.1 4 0 < (fCal m (x, A, L)).2.1 14 q
  | 0, _ => ⟨h, hc, fun q hq => absurd hq (Nat.not_lt_zero q)⟩
  | m + 1, hm => by
    obtain ⟨i1, i2, i3⟩ := fCal_P x h hc m (by omega)
    rw [fCal]
    split
    · refine ⟨i1.sell (by omega), i2.sell, fun q hq => ?_⟩
      show fSell m _ 14 q = -1 ∨ fSell m _ 4 0 < fSell m _ 14 q
      by_cases e : q = m
      · subst e; exact Or.inl (sell_14 _ _)
      · rw [sell_ne e (by decide) (by decide), sell_j (j := 4) rfl]
        exact i3 q (by omega)
    · rename_i hno
      refine ⟨i1, i2, fun q hq => ?_⟩
      by_cases e : q = m
      · subst e
        rcases i2 q (by omega) with g | g
        · exact Or.inl g
        · by_cases g2 : (fCal q (x, A, L)).2.1 14 q = -1
          · exact Or.inl g2
          · refine Or.inr (le_ne_lt g (fun z => hno ((fCalT_iff i1 i2 (by omega)).mpr ⟨g2, by rw [z]; exact Int32.le_refl _⟩)))
      · exact i3 q (by omega)
theorem fUnf_P {A : xS} {n : Nat} {L : List Nat} (x : Int32) (h : pI A n L) (hc : calS A n) : ∀ m, m ≤ n → pI (fUnf m (x, A, L)).2.1 n (fUnf m (x, A, L)).2.2 ∧ calS (fUnf m (x, A, L)).2.1 n
  | 0, _ => ⟨h, hc⟩
  | m + 1, hm => by
    obtain ⟨i1, i2⟩ := fUnf_P x h hc m (by omega)
    rw [fUnf]
    split
    · exact ⟨i1.sell (by omega), i2.sell⟩
    · exact ⟨i1, i2⟩
theorem fUnf_shift (x : Int32) (S : xS × List Nat) : ∀ m, fUnf m (x, S) = (x + (fUnf m (0, S)).1, (fUnf m (0, S)).2)
  | 0 => by simp [fUnf]
  | m + 1 => by
    have ih := fUnf_shift x S m
    rw [fUnf, fUnf, ih]
    split
    · simp only [vSell, Int32.add_assoc]
    · rfl
/-! how many things may still be moved -/
def atC (A : xS) : Nat → Nat
  | 0 => 0
  | t + 1 => atC A t + (if A 9 t < 5 then 1 else 0)
def phi (A : xS) (n : Nat) (L : List Nat) : Nat := atC A n + L.length
theorem atC_le (A : xS) : ∀ n, atC A n ≤ n
  | 0 => Nat.le_refl _
  | n + 1 => by
    have := atC_le A n
    rw [atC]
    split <;> omega
theorem atC_same {A A' : xS} (h : ∀ i, A' 9 i < 5 ↔ A 9 i < 5) : ∀ n, atC A' n = atC A n
  | 0 => rfl
  | n + 1 => by
    rw [atC, atC, atC_same h n]
    by_cases g : A 9 n < 5
    · rw [if_pos g, if_pos ((h n).mpr g)]
    · rw [if_neg g, if_neg (fun z => g ((h n).mp z))]
theorem atC_sell {A A' : xS} {t : Nat} (h : ∀ i, i ≠ t → A' 9 i = A 9 i) (ht : A 9 t < 5) (h2 : ¬ A' 9 t < 5) : ∀ n, atC A' n + (if t < n then 1 else 0) = atC A n
  | 0 => rfl
  | n + 1 => by
    have ih := atC_sell h ht h2 n
    rw [atC, atC]
    by_cases e : n = t
    · subst e
      rw [if_neg h2, if_pos ht, if_pos (by omega)]
      rw [if_neg (Nat.lt_irrefl _)] at ih
      omega
    · rw [h n e]
      by_cases g : t < n
      · rw [if_pos g] at ih
        rw [if_pos (by omega : t < n + 1)]
        omega
      · rw [if_neg g] at ih
        rw [if_neg (by omega : ¬ t < n + 1)]
        omega
theorem fFor_del {t : Nat} : ∀ {L : List Nat}, t ∈ L → (fFor t L).length + 1 ≤ L.length
  | q :: r, h => by
    by_cases e : q = t
    · subst e
      rw [fFor_cons_eq]
      have := fFor_len q r
      simp only [List.length_cons]
      omega
    · rw [fFor_cons_ne e]
      rcases List.mem_cons.mp h with h2 | h2
      · exact absurd h2.symm e
      · have := fFor_del h2
        simp only [List.length_cons]
        omega
theorem phi_sell {A : xS} {n t : Nat} {L : List Nat} (ht : t < n) (h9 : A 9 t < 5) : phi (fSell t A) n (fFor t L) + 1 ≤ phi A n L := by
  have h1 := atC_sell (A := A) (A' := fSell t A) (t := t) (fun i hi => sell_ne hi (by decide) (by decide)) h9 (by rw [sell_9]; decide) n
  rw [if_pos ht] at h1
  have := fFor_len t L
  unfold phi
  omega
theorem phi_move {A : xS} {n t : Nat} {L : List Nat} (h : pI A n L) (ht : t ∈ L) : phi (fMove A t) n (fFor t L) + 1 ≤ phi A n L := by
  obtain ⟨htn, c, hc, hg⟩ := h.2.1.2.2 t ht
  have h1 : atC (fMove A t) n = atC A n := atC_same (fun i => by
    unfold fMove
    rw [mU_j (by decide), hg]
    by_cases e : i = t
    · subst e
      rw [mU_eq]
      exact ⟨fun _ => h.2.2.2.2.1 i ht, fun _ => nI_lt (b := 5) hc (by decide)⟩
    · rw [mU_i e]) n
  have := fFor_del ht
  unfold phi
  omega
abbrev phv (n : Nat) (V : xV) : Nat := phi V.2.1 n V.2.2
theorem fCal_phi {n : Nat} (V : xV) (m : Nat) : ∀ k, m + k ≤ n → phv n (fCal (m + k) V) ≤ phv n (fCal m V)
  | 0, _ => Nat.le_refl _
  | k + 1, h => by
    have ih := fCal_phi (n := n) V m k (by omega)
    refine Nat.le_trans ?_ ih
    rw [← Nat.add_assoc, fCal]
    split
    · rename_i hc
      exact Nat.le_of_succ_le (phi_sell (L := (fCal (m + k) V).2.2) (show m + k < n by omega) hc.1)
    · exact Nat.le_refl _
theorem fUnf_phi {n : Nat} (V : xV) (m : Nat) : ∀ k, m + k ≤ n → phv n (fUnf (m + k) V) ≤ phv n (fUnf m V)
  | 0, _ => Nat.le_refl _
  | k + 1, h => by
    have ih := fUnf_phi (n := n) V m k (by omega)
    refine Nat.le_trans ?_ ih
    rw [← Nat.add_assoc, fUnf]
    split
    · rename_i hc
      exact Nat.le_of_succ_le (phi_sell (L := (fUnf (m + k) V).2.2) (show m + k < n by omega) hc.1)
    · exact Nat.le_refl _
theorem fDrv_P {n : Nat} : ∀ (R : List Nat) (V : xV), pI V.2.1 n V.2.2 → calS V.2.1 n → R.Nodup → (∀ q ∈ R, q ∈ V.2.2) → pI (fDrv n R V).2.1 n (fDrv n R V).2.2 ∧ calS (fDrv n R V).2.1 n ∧ phv n (fDrv n R V) ≤ phv n V
  | [], V, h, hc, _, _ => ⟨h, hc, Nat.le_refl _⟩
  | t :: r, V, h, hc, hd, hs => by
    have h1 := List.nodup_cons.mp hd
    rw [fDrv]
    split
    · have ht := hs t List.mem_cons_self
      have g := fDrv_P r (V.1 - V.2.1 7 t, fMove V.2.1 t, fFor t V.2.2) (h.move ht) hc.move h1.2 (fun q hq => fFor_in (hs q (List.mem_cons_of_mem _ hq)) (fun z => h1.1 (z ▸ hq)))
      refine ⟨g.1, g.2.1, Nat.le_trans g.2.2 ?_⟩
      have := phi_move h ht
      show phi (fMove V.2.1 t) n (fFor t V.2.2) ≤ phi V.2.1 n V.2.2
      omega
    · exact fDrv_P r V h hc h1.2 (fun q hq => hs q (List.mem_cons_of_mem _ hq))
theorem phi_owe {A : xS} {n t : Nat} {L : List Nat} : phi (fOwe t A) n L = phi A n L := by
  unfold phi
  rw [atC_same (A := A) (A' := fOwe t A) (fun i => by rw [fOwe_j (by decide)])]
end XIN
end
section
section XC5
def cQ (G : xG) (ca th : Nat → Nat) (A : xS) (n : Nat) (L : List Nat) (D : Nat) (w0 : xW) : xW → Prop := fun w => (∃ T, tgI A n D T ∧ CRaw G w ca th (cB A) n L T) ∧ KpX w0 w
theorem mU_id {A : xS} {j i : Nat} {v : Int32} (h : v = A j i) : mU A j i v = A := by
  funext j' i'
  by_cases hq : j' = j ∧ i' = i
  · rw [hq.1, hq.2, mU_eq, h]
  · exact if_neg hq
theorem cB_mU {A : xS} {j t : Nat} {v : Int32} (h : j ≠ 12) (h2 : j ≠ 13) : cB (mU A j t v) = mU (cB A) j t v := by
  funext j' i
  by_cases e : j' = 13
  · subst e
    rw [mU_j (Ne.symm h2)]
    show (if 0 < mU A j t v 12 i then mU A j t v 13 i else -1) = (if 0 < A 12 i then A 13 i else -1)
    rw [mU_j (Ne.symm h), mU_j (Ne.symm h2)]
  · rw [cB_j e]
    by_cases e2 : j' = j ∧ i = t
    · rw [e2.1, e2.2, mU_eq, mU_eq]
    · by_cases e3 : j' = j
      · subst e3
        have e4 : i ≠ t := fun z => e2 ⟨rfl, z⟩
        rw [mU_i e4, mU_i e4, cB_j e]
      · rw [mU_j e3, mU_j e3, cB_j e]
theorem imn_min (x y : Int32) : (if y < x then y else x) = imn x y := by
  unfold imn
  by_cases h1 : y < x
  · rw [if_pos h1, if_neg (fun h2 => by rw [Int32.lt_iff_toInt_lt] at h1 h2; omega)]
  · rw [if_neg h1]
    by_cases h2 : x < y
    · rw [if_pos h2]
    · rw [if_neg h2]
      exact Int32.le_antisymm (Int32.not_lt.mp h1) (Int32.not_lt.mp h2)
theorem fPut_in {B : xS} {i : Nat} {z : Int32} (h : i < 8) : fPut B (nI i) z = mU B 2 i (B 2 i + z) := by
  unfold fPut
  rw [if_pos ⟨nI_pos' (by omega), nI_le (b := 7) (by omega) (by omega)⟩, ixn (by omega)]
theorem sell_B1 {A : xS} {n t : Nat} {L : List Nat} (h : pI A n L) (ht : t < n) : fPut (cB A) (cB A 13 t) (sBack A t) 2 = sA1 A t 2 ∧ ∀ j, j ≠ 2 → fPut (cB A) (cB A 13 t) (sBack A t) j = cB A j := by
  obtain ⟨h1, h2, h3, h4, h5, h6, h7, h8, h9⟩ := h
  obtain ⟨lr, hlr, hl⟩ := h1.2.2.2.2 t (by have := h1.2.1; omega)
  rcases h6 t ht with g | g
  · have e : cB A 13 t = -1 := by
      show (if 0 < A 12 t then A 13 t else -1) = -1
      rw [if_neg (by rw [g]; decide)]
    have e2 : fPut (cB A) (-1) (sBack A t) = cB A := if_neg (by decide)
    have e3 : ¬ 0 < sBack A t := by
      unfold sBack imn
      rw [g]
      split
      · decide
      · assumption
    rw [e, e2]
    refine ⟨?_, fun j _ => rfl⟩
    unfold sA1
    rw [if_neg e3]
    exact cB_j (by decide)
  · have e : cB A 13 t = nI lr := by
      show (if 0 < A 12 t then A 13 t else -1) = _
      rw [if_pos g.1, hl]
    rw [e, fPut_in hlr]
    refine ⟨?_, fun j hj => mU_j hj⟩
    unfold sA1
    by_cases e3 : 0 < sBack A t
    · rw [if_pos e3, hl, ixn (by omega), mU_row, mU_row, cB_j (by decide)]
    · rw [if_neg e3]
      have e4 : sBack A t = 0 := by
        refine Int32.le_antisymm (Int32.not_lt.mp e3) ?_
        unfold sBack imn
        split
        · exact Int32.le_of_lt g.1
        · exact h8 t ht
      rw [e4, mU_id (by rw [Int32.add_zero])]
      exact cB_j (by decide)
theorem fDE_for {B : xS} {t : Nat} {L : List Nat} (h1 : B 15 t = -1) (h2 : ∀ q ∈ L, q ≠ t → ¬ B 15 q = -1) : fDE B L = fFor t L := by
  unfold fDE fFor
  refine List.filter_congr (fun q hq => ?_)
  by_cases e : q = t
  · subst e
    simp [h1]
  · rw [show (B 15 q == -1) = false from beq_eq_false_iff_ne.mpr (h2 q hq e), show (q == t) = false from beq_eq_false_iff_ne.mpr e]
theorem nI_nm1 {c : Nat} (h : c < 100) : ¬ nI c = -1 := fun z => by
  have h9 := nI_int (n := c) (by omega)
  rw [z] at h9
  have : ((-1 : Int32)).toInt = -1 := by decide
  omega
theorem sell_fin {A B1 : xS} {n t ow : Nat} (how : A 6 t = nI ow) (ho : ow < 8) (hB2 : B1 2 = sA1 A t 2) (hBr : ∀ j, j ≠ 2 → B1 j = cB A j) (X : Int32) (hX : X = A 8 t - sBack A t - sPaid A t) :
    cEq n (fGa (fPut (mU (mU (mU B1 13 t (-1)) 12 t 0) 14 t (-1)) (nI ow) X) t (sPaid A t) 11) (cB (fSell t A)) := by
  subst hX
  rw [fPut_in ho]
  have s2 : fSell t A 2 = upd (sA1 A t 2) ow (sA1 A t 2 ow + (A 8 t - sBack A t - sPaid A t)) := by
    unfold fSell sA3
    rw [mU_j (by decide), mU_j (by decide), mU_j (by decide), mU_j (by decide), how, ixn (by omega), mU_row]
    unfold sA2
    rw [mU_j (by decide), mU_j (by decide)]
  have s3 : fSell t A 3 0 = A 3 0 + sPaid A t := by
    unfold fSell sA3
    rw [mU_j (by decide), mU_j (by decide), mU_j (by decide), mU_j (by decide), mU_j (by decide)]
    unfold sA2
    rw [mU_eq]
  have s11 : ∀ i, fSell t A 11 i = if i = t then sPaid A t else A 11 i := fun i => by
    unfold fSell sA3
    rw [mU_j (by decide), mU_j (by decide), mU_j (by decide), mU_j (by decide), mU_j (by decide)]
    unfold sA2
    rw [mU_j (by decide)]
    by_cases e : i = t
    · subst e; rw [mU_eq, if_pos rfl]
    · rw [mU_i e, if_neg e, sA1_j (by decide)]
  refine ⟨?_, ?_, ⟨?_, ?_, ?_⟩, fun i hi => ?_⟩
  · unfold fGa
    simp only [mU_j (show (0 : Nat) ≠ 2 by decide), mU_j (show (0 : Nat) ≠ 3 by decide), mU_j (show (0 : Nat) ≠ 9 by decide), mU_j (show (0 : Nat) ≠ 11 by decide), mU_j (show (0 : Nat) ≠ 12 by decide), mU_j (show (0 : Nat) ≠ 13 by decide), mU_j (show (0 : Nat) ≠ 14 by decide), mU_j (show (0 : Nat) ≠ 15 by decide)]
    rw [hBr 0 (by decide), cB_j (by decide), cB_j (by decide), sell_j rfl]
  · unfold fGa
    simp only [mU_j (show (2 : Nat) ≠ 3 by decide), mU_j (show (2 : Nat) ≠ 9 by decide), mU_j (show (2 : Nat) ≠ 11 by decide), mU_j (show (2 : Nat) ≠ 12 by decide), mU_j (show (2 : Nat) ≠ 13 by decide), mU_j (show (2 : Nat) ≠ 14 by decide), mU_j (show (2 : Nat) ≠ 15 by decide), mU_row, hB2]
    rw [cB_j (by decide), s2]
  · unfold fGa
    simp only [mU_j (show (1 : Nat) ≠ 2 by decide), mU_j (show (1 : Nat) ≠ 3 by decide), mU_j (show (1 : Nat) ≠ 9 by decide), mU_j (show (1 : Nat) ≠ 11 by decide), mU_j (show (1 : Nat) ≠ 12 by decide), mU_j (show (1 : Nat) ≠ 13 by decide), mU_j (show (1 : Nat) ≠ 14 by decide), mU_j (show (1 : Nat) ≠ 15 by decide)]
    rw [hBr 1 (by decide), cB_j (by decide), cB_j (by decide), sell_j rfl]
  · unfold fGa
    simp only [mU_j (show (3 : Nat) ≠ 2 by decide), mU_j (show (3 : Nat) ≠ 9 by decide), mU_j (show (3 : Nat) ≠ 11 by decide), mU_j (show (3 : Nat) ≠ 12 by decide), mU_j (show (3 : Nat) ≠ 13 by decide), mU_j (show (3 : Nat) ≠ 14 by decide), mU_j (show (3 : Nat) ≠ 15 by decide), mU_eq]
    rw [hBr 3 (by decide), cB_j (by decide), cB_j (by decide), s3]
  · unfold fGa
    simp only [mU_j (show (4 : Nat) ≠ 2 by decide), mU_j (show (4 : Nat) ≠ 3 by decide), mU_j (show (4 : Nat) ≠ 9 by decide), mU_j (show (4 : Nat) ≠ 11 by decide), mU_j (show (4 : Nat) ≠ 12 by decide), mU_j (show (4 : Nat) ≠ 13 by decide), mU_j (show (4 : Nat) ≠ 14 by decide), mU_j (show (4 : Nat) ≠ 15 by decide)]
    rw [hBr 4 (by decide), cB_j (by decide), cB_j (by decide), sell_j rfl]
  · have c13 : cB (fSell t A) 13 i = if i = t then -1 else cB A 13 i := by
      show (if 0 < fSell t A 12 i then fSell t A 13 i else -1) = _
      by_cases e : i = t
      · subst e
        rw [sell_12, if_pos rfl]
        rfl
      · rw [if_neg e, sell_ne e (by decide) (by decide), sell_j (j := 13) rfl]
        rfl
    rw [c13, cB_j (show (6 : Nat) ≠ 13 by decide), cB_j (show (7 : Nat) ≠ 13 by decide), cB_j (show (10 : Nat) ≠ 13 by decide), cB_j (show (8 : Nat) ≠ 13 by decide), cB_j (show (9 : Nat) ≠ 13 by decide), cB_j (show (15 : Nat) ≠ 13 by decide), cB_j (show (11 : Nat) ≠ 13 by decide), cB_j (show (12 : Nat) ≠ 13 by decide), cB_j (show (14 : Nat) ≠ 13 by decide), s11, sell_j (j := 6) rfl, sell_j (j := 7) rfl, sell_j (j := 10) rfl, sell_j (j := 8) rfl]
    have b := fun j (h : j ≠ 2) => congrFun (hBr j h) i
    by_cases e : i = t
    · subst e
      rw [sell_9, sell_at15, sell_12, sell_14]
      simp [fGa, mU, b, cB]
    · rw [sell_ne e (by decide) (by decide), sell_ne e (by decide) (by decide), sell_ne e (by decide) (by decide), sell_ne e (by decide) (by decide)]
      simp [fGa, mU, b, cB, e]
section XC5a
variable {p : Program} {l : Launch} {e : Env} {R : Room} {s : State} {m : MethodId} {args : Array Value} {below : List Frame} {meth : Method} {c : Code} {G : xG} {cc : ByteArray} {nL : Nat} {own : String} {rt : Option FieldType} {Q : State → Prop} {P P' : xW → Prop} {k n pc : Nat} {lv : List (Nat × Value)} {st : List Value}
variable {ca th : Nat → Nat} {A A' B : xS} {N D : Nat} {L L' : List Nat} {T : Nat → xTg} {w0 : xW}
theorem c_thenQ (kk : ∀ T', tgI A' N D T' → xJ p l e R s m args below meth c G nL Q (cP G ca th (cB A') N L' T' w0) k n pc lv st) : xJ p l e R s m args below meth c G nL Q (fun w' => ∃ w1, cP G ca th B N L T w0 w1 ∧ cQ G ca th A' N L' D w1 w') k n pc lv st := fun w H locs ls hp hh hs hl => by
  obtain ⟨w1, h1, ⟨T', h2, h3⟩, h4⟩ := hp
  exact kk T' h2 w H locs ls ⟨h3, h1.2.tr h4⟩ hh hs hl
theorem c_thenQ1 {φ : Prop} (kk : φ → ∀ T', tgI A' N D T' → xJ p l e R s m args below meth c G nL Q (cP G ca th (cB A') N L' T' w0) k n pc lv st) : xJ p l e R s m args below meth c G nL Q (fun w' => ∃ w1, cP G ca th B N L T w0 w1 ∧ φ ∧ cQ G ca th A' N L' D w1 w') k n pc lv st := fun w H locs ls hp hh hs hl => by
  obtain ⟨w1, h1, h5, ⟨T', h2, h3⟩, h4⟩ := hp
  exact kk h5 T' h2 w H locs ls ⟨h3, h1.2.tr h4⟩ hh hs hl
theorem c_at (hB : B = cB A) (kk : xJ p l e R s m args below meth c G nL Q (cP G ca th (cB A) N L T w0) k n pc lv st) : xJ p l e R s m args below meth c G nL Q (cP G ca th B N L T w0) k n pc lv st := by subst hB; exact kk
end XC5a
variable {l : Launch} {G : xG}
set_option maxRecDepth 100000 in
theorem t_sell {ca th : Nat → Nat} {A : xS} {n : Nat} {L : List Nat} {T : Nat → xTg} {w : xW} (h : CRaw G w ca th (cB A) n L T) {t : Nat} (htn : t < n) {D : Nat} (hI : pI A n L) (hT : tgI A n D T) (hD : A 4 0 = nI D) (hD1 : D ≤ 1000) : xMet l G yX2_sell cX2_sell 5 none ({ frames := 5, cells := 1, slots := 3, locals := 190 } : Room) [.ref (ca 0), .ref (th t)] w embV (fun _ w' => cQ G ca th (fSell t A) n (fFor t L) D w w') := by
  refine xMet_of (by decide) (Nat.le_of_ble_eq_true rfl) ?_
  intro p e s m below meth c Γ hnm
  have hn := hI.1.2.1
  have hlL : L.length ≤ 24 := Nat.le_trans hI.2.1.1 hn
  have hL : ∀ q ∈ L, q < n := fun q hq => (hI.2.1.2.2 q hq).1
  obtain ⟨ow, how8, how⟩ := hI.1.2.2.2.1 t (by omega)
  obtain ⟨hB2, hBr⟩ := sell_B1 hI htn
  refine c_in h ?_
  refine x_aload_n Γ dX2_sell_0 rfl rfl ?_
  refine c_getT Γ 9 htn (fun _ => rfl) (by decide) k_279 dX2_sell_1 ?_
  refine x_aload_n Γ dX2_sell_4 rfl rfl ?_
  refine c_getT Γ 4 htn (fun _ => rfl) (by decide) k_270 dX2_sell_5 ?_
  refine x_min Γ k_507 k_357 k_358 k_17 ⟨Nat.le_of_ble_eq_true rfl, Nat.le_of_ble_eq_true rfl, Nat.le_of_ble_eq_true rfl, Nat.le_of_ble_eq_true rfl⟩ dX2_sell_8 ?_
  rw [imn_min, show imn (cB A 12 t) (cB A 8 t) = sBack A t from rfl]
  refine x_istore_n Γ dX2_sell_11 rfl rfl (by decide) ?_
  refine x_aload_n Γ dX2_sell_12 rfl rfl ?_
  refine x_aload_n Γ dX2_sell_13 rfl rfl ?_
  refine c_getT Γ 10 htn (fun _ => rfl) (by decide) k_281 dX2_sell_14 ?_
  refine x_iload_n Γ dX2_sell_17 rfl rfl ?_
  refine x_invV (emb := embV) (ci := 3) (rm := ({ frames := 1, cells := 0, slots := 0, locals := 40 } : Room)) Γ [.int (cB A 13 t), .int (sBack A t)] (fun w1 _ w2 => cP G ca th (fPut (cB A) (cB A 13 t) (sBack A t)) n (L) (T) w1 w2) rfl (fun w1 h1 => t_putPurse h1.1) c_self rfl k_457 k_1 k_454 k_456 s_14 hd_X2_putIntoPurse ⟨Nat.le_of_ble_eq_true rfl, Nat.le_of_ble_eq_true rfl⟩ ⟨Nat.le_of_ble_eq_true rfl, Nat.le_of_ble_eq_true rfl⟩ (Nat.le_of_ble_eq_true rfl) dX2_sell_18 (fun _ => ?_)
  refine c_then0 (B' := fPut (cB A) (cB A 13 t) (sBack A t)) (L' := L) (T' := T) ?_
  generalize fPut (cB A) (cB A 13 t) (sBack A t) = B1 at hB2 hBr ⊢
  refine x_aload_n Γ dX2_sell_21 rfl rfl ?_
  refine x_invVN (emb := embV) (ci := 2) (rm := ({ frames := 0, cells := 0, slots := 0, locals := 0 } : Room)) Γ [] (fun w1 _ w2 => cP G ca th (mU (mU (mU B1 13 t (-1)) 12 t 0) 14 t (-1)) n (L) (T) w1 w2) rfl (fun w1 h1 => t_cendLoan h1.1 htn) (c_thing htn) rfl k_469 k_14 k_466 k_468 s_15 hd_X1_endLoan ⟨Nat.le_of_ble_eq_true rfl, Nat.le_of_ble_eq_true rfl⟩ ⟨Nat.le_of_ble_eq_true rfl, Nat.le_of_ble_eq_true rfl⟩ (Nat.le_of_ble_eq_true rfl) dX2_sell_22 (fun _ => ?_)
  refine c_then0 (B' := mU (mU (mU B1 13 t (-1)) 12 t 0) 14 t (-1)) (L' := L) (T' := T) ?_
  refine x_aload_n Γ dX2_sell_25 rfl rfl ?_
  refine c_getT (v := .int (A 8 t)) Γ 4 htn (fun _ => by show some (Value.int (B1 8 t)) = _; rw [hBr 8 (by decide), cB_j (by decide)]) (by decide) k_270 dX2_sell_26 ?_
  refine x_iload_n Γ dX2_sell_29 rfl rfl ?_
  refine x_isub Γ dX2_sell_30 ?_
  refine x_istore_n Γ dX2_sell_31 rfl rfl (by decide) ?_
  refine x_aload_n Γ dX2_sell_32 rfl rfl ?_
  refine c_getT (v := .int (A 11 t)) Γ 8 htn (fun _ => by show some (Value.int (B1 11 t)) = _; rw [hBr 11 (by decide), cB_j (by decide)]) (by decide) k_277 dX2_sell_33 ?_
  refine x_iload_n Γ dX2_sell_36 rfl rfl ?_
  refine x_min Γ k_507 k_357 k_358 k_17 ⟨Nat.le_of_ble_eq_true rfl, Nat.le_of_ble_eq_true rfl, Nat.le_of_ble_eq_true rfl, Nat.le_of_ble_eq_true rfl⟩ dX2_sell_37 ?_
  rw [imn_min, show imn (A 11 t) (A 8 t - sBack A t) = sPaid A t from rfl]
  refine x_istore Γ dX2_sell_40 rfl (by decide) ?_
  refine x_aload_n Γ dX2_sell_42 rfl rfl ?_
  refine x_aload_n Γ dX2_sell_43 rfl rfl ?_
  refine c_getT (v := .int (nI ow)) Γ 1 htn (fun _ => by show some (Value.int (B1 6 t)) = _; rw [hBr 6 (by decide), cB_j (by decide), how]) (by decide) k_264 dX2_sell_44 ?_
  refine x_iload_n Γ dX2_sell_47 rfl rfl ?_
  refine x_iload Γ dX2_sell_48 rfl ?_
  refine x_isub Γ dX2_sell_50 ?_
  refine x_invV (emb := embV) (ci := 3) (rm := ({ frames := 1, cells := 0, slots := 0, locals := 40 } : Room)) Γ [.int (nI ow), .int (A 8 t - sBack A t - sPaid A t)] (fun w1 _ w2 => cP G ca th (fPut (mU (mU (mU B1 13 t (-1)) 12 t 0) 14 t (-1)) (nI ow) (A 8 t - sBack A t - sPaid A t)) n (L) (T) w1 w2) rfl (fun w1 h1 => t_putPurse h1.1) c_self rfl k_457 k_1 k_454 k_456 s_14 hd_X2_putIntoPurse ⟨Nat.le_of_ble_eq_true rfl, Nat.le_of_ble_eq_true rfl⟩ ⟨Nat.le_of_ble_eq_true rfl, Nat.le_of_ble_eq_true rfl⟩ (Nat.le_of_ble_eq_true rfl) dX2_sell_51 (fun _ => ?_)
  refine c_then0 (B' := fPut (mU (mU (mU B1 13 t (-1)) 12 t 0) 14 t (-1)) (nI ow) (A 8 t - sBack A t - sPaid A t)) (L' := L) (T' := T) ?_
  refine x_aload_n Γ dX2_sell_54 rfl rfl ?_
  refine x_aload_n Γ dX2_sell_55 rfl rfl ?_
  refine x_iload Γ dX2_sell_56 rfl ?_
  refine x_bipush (v := 11) Γ dX2_sell_58 (by decide) ?_
  refine x_invV (emb := embV) (ci := 3) (rm := ({ frames := 4, cells := 1, slots := 3, locals := 150 } : Room)) Γ [.ref (th t), .int (sPaid A t), .int 11] (fun w1 _ w2 => cP G ca th (fGa (fPut (mU (mU (mU B1 13 t (-1)) 12 t 0) 14 t (-1)) (nI ow) (A 8 t - sBack A t - sPaid A t)) t (sPaid A t) 11) n (fDE (mU (mU (mU (fPut (mU (mU (mU B1 13 t (-1)) 12 t 0) 14 t (-1)) (nI ow) (A 8 t - sBack A t - sPaid A t)) 3 0 ((fPut (mU (mU (mU B1 13 t (-1)) 12 t 0) 14 t (-1)) (nI ow) (A 8 t - sBack A t - sPaid A t)) 3 0 + sPaid A t)) 11 t (sPaid A t)) 15 t (-1)) L) (tUp T t (11, (fPut (mU (mU (mU B1 13 t (-1)) 12 t 0) 14 t (-1)) (nI ow) (A 8 t - sBack A t - sPaid A t)) 4 0 + 1)) w1 w2) rfl (fun w1 h1 => t_giveAway h1.1 htn hn hL hlL) c_self rfl k_405 k_1 k_402 k_404 s_9 hd_X2_giveAway ⟨Nat.le_of_ble_eq_true rfl, Nat.le_of_ble_eq_true rfl⟩ ⟨Nat.le_of_ble_eq_true rfl, Nat.le_of_ble_eq_true rfl⟩ (Nat.le_of_ble_eq_true rfl) dX2_sell_60 (fun _ => ?_)
  refine c_then0 (B' := fGa (fPut (mU (mU (mU B1 13 t (-1)) 12 t 0) 14 t (-1)) (nI ow) (A 8 t - sBack A t - sPaid A t)) t (sPaid A t) 11) (L' := fDE (mU (mU (mU (fPut (mU (mU (mU B1 13 t (-1)) 12 t 0) 14 t (-1)) (nI ow) (A 8 t - sBack A t - sPaid A t)) 3 0 ((fPut (mU (mU (mU B1 13 t (-1)) 12 t 0) 14 t (-1)) (nI ow) (A 8 t - sBack A t - sPaid A t)) 3 0 + sPaid A t)) 11 t (sPaid A t)) 15 t (-1)) L) (T' := tUp T t (11, (fPut (mU (mU (mU B1 13 t (-1)) 12 t 0) 14 t (-1)) (nI ow) (A 8 t - sBack A t - sPaid A t)) 4 0 + 1)) ?_
  refine x_vret Γ rfl (fun w2 e2 => ?_) ⟨Nat.le_of_ble_eq_true rfl, Nat.le_of_ble_eq_true rfl⟩ dX2_sell_63
  have e4 : (fPut (mU (mU (mU B1 13 t (-1)) 12 t 0) 14 t (-1)) (nI ow) (A 8 t - sBack A t - sPaid A t)) 4 0 + 1 = nI (D + 1) := by
    rw [fPut_in how8, mU_j (by decide), mU_j (by decide), mU_j (by decide), mU_j (by decide), hBr 4 (by decide), cB_j (by decide), hD, nI_1]
  have e15 : fDE (mU (mU (mU (fPut (mU (mU (mU B1 13 t (-1)) 12 t 0) 14 t (-1)) (nI ow) (A 8 t - sBack A t - sPaid A t)) 3 0 ((fPut (mU (mU (mU B1 13 t (-1)) 12 t 0) 14 t (-1)) (nI ow) (A 8 t - sBack A t - sPaid A t)) 3 0 + sPaid A t)) 11 t (sPaid A t)) 15 t (-1)) L = fFor t L := by
    refine fDE_for (mU_eq _ _ _ _) (fun q hq hqt => ?_)
    rw [mU_i hqt, mU_j (by decide), mU_j (by decide), fPut_in how8, mU_j (by decide), mU_j (by decide), mU_j (by decide), mU_j (by decide), hBr 15 (by decide), cB_j (by decide)]
    obtain ⟨-, ci, hci, hg⟩ := hI.2.1.2.2 q hq
    rw [hg]
    exact nI_nm1 (by omega)
  rw [e4, e15] at e2
  exact ⟨⟨_, hT.move hD1 (fun i hi => sell_ne hi (by decide) (by decide)) (sell_9 A t) (sell_j rfl), e2.1.congr (sell_fin how how8 hB2 hBr _ rfl)⟩, e2.2⟩
set_option maxRecDepth 100000 in
theorem t_oweFees {ca th : Nat → Nat} {A : xS} {n : Nat} {L : List Nat} {T : Nat → xTg} {w : xW} (h : CRaw G w ca th (cB A) n L T) (hI : pI A n L) : xMet l G yX2_oweFees cX2_oweFees 3 none ({ frames := 3, cells := 0, slots := 0, locals := 80 } : Room) [.ref (ca 0)] w embV (fun _ w' => cP G ca th (cB (fOwe n A)) n L T w w') := by
  refine xMet_of (by decide) (Nat.le_of_ble_eq_true rfl) ?_
  intro p e s m below meth c Γ hnm
  have hn := hI.1.2.1
  refine c_in h ?_
  have loop : ∀ d t, t + d = n → xJ p l e ({ frames := 3, cells := 0, slots := 0, locals := 80 } : Room) s m ([.ref (ca 0)] : List Value).toArray below meth c G 3 (MQ below (xQ G embV (fun _ w' => cP G ca th (cB (fOwe n A)) n L T w w')) ([.ref (ca 0)] : List Value).toArray s ({ frames := 3, cells := 0, slots := 0, locals := 80 } : Room).cells ({ frames := 3, cells := 0, slots := 0, locals := 80 } : Room).slots (xA G)) (cP G ca th (cB (fOwe t A)) n L T w) 0 0 2 [(0, .ref (ca 0)), (1, .int (nI t))] [] := by
    intro d
    induction d with
    | zero =>
      intro t ht
      refine x_iload_n Γ dX2_oweFees_2 rfl rfl ?_
      refine x_aload_n Γ dX2_oweFees_3 rfl rfl ?_
      refine c_this Γ 2 rfl (by decide) k_60 rfl dX2_oweFees_4 ?_
      refine x_invV (emb := embI) (ci := 0) (rm := ({ frames := 0, cells := 0, slots := 0, locals := 0 } : Room)) Γ [] (fun w1 r w2 => r = nI n ∧ w2 = w1) rfl (fun w1 h1 => t_size h1.1.2.2.2.1) c_lst3 rfl k_91 k_4 k_88 k_89 k_90 hd_Jx4a65c_size_8abf5 ⟨Nat.le_of_ble_eq_true rfl, Nat.le_of_ble_eq_true rfl⟩ ⟨Nat.le_of_ble_eq_true rfl, Nat.le_of_ble_eq_true rfl⟩ (Nat.le_of_ble_eq_true rfl) dX2_oweFees_7 (fun r => ?_)
      refine m_same (fun e9 => ?_)
      subst e9
      refine x_icmp_ge (tgt := 64) Γ dX2_oweFees_10 (by decide) (fun c10 => ?_) (fun c10 => absurd (nI_le (by omega) (by omega)) c10)
      refine x_vret Γ rfl (fun w2 e2 => ?_) ⟨Nat.le_of_ble_eq_true rfl, Nat.le_of_ble_eq_true rfl⟩ dX2_oweFees_64
      have hnt : t = n := by omega
      subst hnt
      exact e2
    | succ d ih =>
      intro t ht
      have htn : t < n := by omega
      obtain ⟨i1, i2, i3, i4, i5, i6, i7, i8, i9⟩ := pI.owes hI t (by omega)
      have hnx : ∀ x2 B, B = cB (fOwe (t + 1) A) → xJ p l e ({ frames := 3, cells := 0, slots := 0, locals := 80 } : Room) s m ([.ref (ca 0)] : List Value).toArray below meth c G 3 (MQ below (xQ G embV (fun _ w' => cP G ca th (cB (fOwe n A)) n L T w w')) ([.ref (ca 0)] : List Value).toArray s ({ frames := 3, cells := 0, slots := 0, locals := 80 } : Room).cells ({ frames := 3, cells := 0, slots := 0, locals := 80 } : Room).slots (xA G)) (cP G ca th B n L T w) 0 0 58 [(2, .ref x2), (0, .ref (ca 0)), (1, .int (nI t))] [] := by
        intro x2 B hB
        subst hB
        refine x_iinc (v := _ + 1) Γ dX2_oweFees_58 rfl rfl rfl (by decide) ?_
        rw [nI_1]
        refine x_goto (tgt := 2) Γ dX2_oweFees_61 (by decide) ?_
        refine x_lv [0, 1] rfl ?_
        exact ih (t + 1) (by omega)
      refine x_iload_n Γ dX2_oweFees_2 rfl rfl ?_
      refine x_aload_n Γ dX2_oweFees_3 rfl rfl ?_
      refine c_this Γ 2 rfl (by decide) k_60 rfl dX2_oweFees_4 ?_
      refine x_invV (emb := embI) (ci := 0) (rm := ({ frames := 0, cells := 0, slots := 0, locals := 0 } : Room)) Γ [] (fun w1 r w2 => r = nI n ∧ w2 = w1) rfl (fun w1 h1 => t_size h1.1.2.2.2.1) c_lst3 rfl k_91 k_4 k_88 k_89 k_90 hd_Jx4a65c_size_8abf5 ⟨Nat.le_of_ble_eq_true rfl, Nat.le_of_ble_eq_true rfl⟩ ⟨Nat.le_of_ble_eq_true rfl, Nat.le_of_ble_eq_true rfl⟩ (Nat.le_of_ble_eq_true rfl) dX2_oweFees_7 (fun r => ?_)
      refine m_same (fun e9 => ?_)
      subst e9
      refine x_icmp_ge (tgt := 64) Γ dX2_oweFees_10 (by decide) (fun c10 => absurd c10 (nI_ge (by omega) (by omega))) (fun c10 => ?_)
      refine x_aload_n Γ dX2_oweFees_13 rfl rfl ?_
      refine c_this Γ 2 rfl (by decide) k_60 rfl dX2_oweFees_14 ?_
      refine x_iload_n Γ dX2_oweFees_17 rfl rfl ?_
      refine x_invV (emb := embA) (ci := 0) (rm := ({ frames := 2, cells := 0, slots := 0, locals := 43 } : Room)) Γ [.int (nI t)] (fun w1 r w2 => r = th t ∧ w2 = w1) rfl (fun w1 h1 => t_get h1.1.2.2.2.1 htn) c_lst3 rfl k_209 k_4 k_206 k_207 k_208 hd_Jx4a65c_get_915e3 ⟨Nat.le_of_ble_eq_true rfl, Nat.le_of_ble_eq_true rfl⟩ ⟨Nat.le_of_ble_eq_true rfl, Nat.le_of_ble_eq_true rfl⟩ (Nat.le_of_ble_eq_true rfl) dX2_oweFees_18 (fun r => ?_)
      refine m_same (fun e9 => ?_)
      subst e9
      refine x_cast (C := RX1) (T := TX1) (N := 12) (ci := 2) Γ rfl (c_thing htn) k_220 dX2_oweFees_21 ?_
      refine x_astore_n Γ dX2_oweFees_24 rfl rfl (by decide) ?_
      refine x_aload_n Γ dX2_oweFees_25 rfl rfl ?_
      refine x_invVN (emb := embI) (ci := 2) (rm := ({ frames := 1, cells := 0, slots := 0, locals := 40 } : Room)) Γ [] (fun w1 r w2 => bq (rIn 0 4 ((cB (fOwe t A)) 9 t)) r ∧ w2 = w1) rfl (fun w1 h1 => by obtain ⟨b9, g1, g2⟩ := h1.1.2.2.2.2.2 t htn; exact t_isAtC g1 rfl) (c_thing htn) rfl k_395 k_14 k_392 k_394 s_7 hd_X1_isAtCounter ⟨Nat.le_of_ble_eq_true rfl, Nat.le_of_ble_eq_true rfl⟩ ⟨Nat.le_of_ble_eq_true rfl, Nat.le_of_ble_eq_true rfl⟩ (Nat.le_of_ble_eq_true rfl) dX2_oweFees_26 (fun r => ?_)
      refine m_same (fun qA => ?_)
      refine x_if_eq (tgt := 58) Γ dX2_oweFees_29 (by decide) (fun c29 => ?_) (fun c29 => ?_)
      · refine x_lv [2, 0, 1] rfl ?_
        refine hnx _ _ ?_
        rw [fOwe]
        have ev : owes (fOwe t A) t = 0 := by
          unfold owes
          rw [if_pos (show ¬ fOwe t A 9 t < 5 from fun z => qA.eq c29 ⟨i4 t htn, (lt_le (by decide)).mp z⟩)]
        rw [ev, Int32.add_zero, mU_id rfl]
      · have hat : fOwe t A 9 t < 5 := (lt_le (by decide)).mpr (qA.ne c29).2
        refine x_aload_n Γ dX2_oweFees_32 rfl rfl ?_
        refine x_dup Γ dX2_oweFees_33 rfl ?_
        refine c_getT Γ 8 htn (fun _ => rfl) (by decide) k_277 dX2_oweFees_34 ?_
        refine x_aload_n Γ dX2_oweFees_37 rfl rfl ?_
        refine c_getT Γ 2 htn (fun _ => rfl) (by decide) k_266 dX2_oweFees_38 ?_
        refine x_aload_n Γ dX2_oweFees_41 rfl rfl ?_
        refine x_invVN (emb := embI) (ci := 2) (rm := ({ frames := 0, cells := 0, slots := 0, locals := 0 } : Room)) Γ [] (fun w1 r w2 => bq (0 < (cB (fOwe t A)) 12 t) r ∧ w2 = w1) rfl (fun w1 h1 => by obtain ⟨b9, g1, g2⟩ := h1.1.2.2.2.2.2 t htn; exact t_hasLoan g1 rfl) (c_thing htn) rfl k_400 k_14 k_397 k_399 s_8 hd_X1_hasLoan ⟨Nat.le_of_ble_eq_true rfl, Nat.le_of_ble_eq_true rfl⟩ ⟨Nat.le_of_ble_eq_true rfl, Nat.le_of_ble_eq_true rfl⟩ (Nat.le_of_ble_eq_true rfl) dX2_oweFees_42 (fun r => ?_)
        refine m_same (fun qL => ?_)
        refine x_if_eq (tgt := 52) Γ dX2_oweFees_45 (by decide) (fun c45 => ?_) (fun c45 => ?_)
        · have hlo : ¬ 0 < fOwe t A 12 t := qL.eq c45
          have ev : owes (fOwe t A) t = fOwe t A 7 t * 2 := by
            unfold owes
            rw [if_neg (not_not_intro hat), if_neg hlo]
            exact Int32.mul_comm _ _
          refine x_iconst (v := 2) Γ dX2_oweFees_52 (by decide) ?_
          refine x_imul Γ dX2_oweFees_53 ?_
          refine x_iadd Γ dX2_oweFees_54 ?_
          refine c_putT Γ 8 11 htn (fun _ => by simp [tFs, mU]) (by decide) (by decide) k_277 rfl rfl dX2_oweFees_55 ?_
          refine x_lv [2, 0, 1] rfl ?_
          refine hnx _ _ ?_
          rw [fOwe, cB_mU (by decide) (by decide)]
          rw [ev]
          rfl
        · have hlo : 0 < fOwe t A 12 t := qL.ne c45
          have ev : owes (fOwe t A) t = fOwe t A 7 t * 1 := by
            unfold owes
            rw [if_neg (not_not_intro hat), if_pos hlo]
            exact (Int32.mul_one _).symm
          refine x_iconst (v := 1) Γ dX2_oweFees_48 (by decide) ?_
          refine x_goto (tgt := 53) Γ dX2_oweFees_49 (by decide) ?_
          refine x_imul Γ dX2_oweFees_53 ?_
          refine x_iadd Γ dX2_oweFees_54 ?_
          refine c_putT Γ 8 11 htn (fun _ => by simp [tFs, mU]) (by decide) (by decide) k_277 rfl rfl dX2_oweFees_55 ?_
          refine x_lv [2, 0, 1] rfl ?_
          refine hnx _ _ ?_
          rw [fOwe, cB_mU (by decide) (by decide)]
          rw [ev]
          rfl
  refine x_iconst (v := 0) Γ dX2_oweFees_0 (by decide) ?_
  refine x_istore_n Γ dX2_oweFees_1 rfl rfl (by decide) ?_
  refine x_lv [0, 1] rfl ?_
  exact loop n 0 (by omega)
set_option maxRecDepth 100000 in
theorem t_sellCalled {ca th : Nat → Nat} {A : xS} {n : Nat} {L : List Nat} {T : Nat → xTg} {w : xW} (h : CRaw G w ca th (cB A) n L T) {kb : Nat} {D : Nat} (hI : pI A n L) (hT : tgI A n D T) (hD : A 4 0 = nI D) (hD1 : D ≤ 1000) (hC : calI A n) (hkb : phi A n L ≤ phv n (fCal n (0, A, L)) + kb) : xMet l G yX2_sellCalled cX2_sellCalled 4 (some .int) ({ frames := 6, cells := kb, slots := 3 * kb, locals := 230 } : Room) [.ref (ca 0)] w embI (fun r w' => r = (fCal n (0, A, L)).1 ∧ cQ G ca th (fCal n (0, A, L)).2.1 n (fCal n (0, A, L)).2.2 D w w') := by
  refine xMet_of (by decide) (Nat.le_of_ble_eq_true rfl) ?_
  intro p e s m below meth c Γ hnm
  have hn := hI.1.2.1
  have hmono := fun m h9 => fCal_phi (n := n) (0, A, L) m (n - m) h9
  refine c_in h ?_
  have loop : ∀ d t T, t + d = n → tgI (fCal t (0, A, L)).2.1 n D T → xJ p l e ({ frames := 6, cells := kb, slots := 3 * kb, locals := 230 } : Room) s m ([.ref (ca 0)] : List Value).toArray below meth c G 4 (MQ below (xQ G embI (fun r w' => r = (fCal n (0, A, L)).1 ∧ cQ G ca th (fCal n (0, A, L)).2.1 n (fCal n (0, A, L)).2.2 D w w')) ([.ref (ca 0)] : List Value).toArray s ({ frames := 6, cells := kb, slots := 3 * kb, locals := 230 } : Room).cells ({ frames := 6, cells := kb, slots := 3 * kb, locals := 230 } : Room).slots (xA G)) (cP G ca th (cB (fCal t (0, A, L)).2.1) n (fCal t (0, A, L)).2.2 T w) (phi A n L - phv n (fCal t (0, A, L))) (3 * (phi A n L - phv n (fCal t (0, A, L)))) 4 [(0, .ref (ca 0)), (1, .int (fCal t (0, A, L)).1), (2, .int (nI t))] [] := by
    intro d
    induction d with
    | zero =>
      intro t T ht hTt
      have hmt := hmono t (by omega)
      rw [show t + (n - t) = n by omega] at hmt
      refine x_iload_n Γ dX2_sellCalled_4 rfl rfl ?_
      refine x_aload_n Γ dX2_sellCalled_5 rfl rfl ?_
      refine c_this Γ 2 rfl (by decide) k_60 rfl dX2_sellCalled_6 ?_
      refine x_invV (emb := embI) (ci := 0) (rm := ({ frames := 0, cells := 0, slots := 0, locals := 0 } : Room)) Γ [] (fun w1 r w2 => r = nI n ∧ w2 = w1) rfl (fun w1 h1 => t_size h1.1.2.2.2.1) c_lst3 rfl k_91 k_4 k_88 k_89 k_90 hd_Jx4a65c_size_8abf5 ⟨Nat.le_of_ble_eq_true rfl, Nat.le_of_ble_eq_true rfl⟩ ⟨by show phi A n L - phv n (fCal t (0, A, L)) ≤ kb; omega, by show 3 * (phi A n L - phv n (fCal t (0, A, L))) ≤ 3 * kb; omega⟩ (Nat.le_of_ble_eq_true rfl) dX2_sellCalled_9 (fun r => ?_)
      refine m_same (fun e9 => ?_)
      subst e9
      refine x_icmp_ge (tgt := 59) Γ dX2_sellCalled_12 (by decide) (fun c12 => ?_) (fun c12 => absurd (nI_le (by omega) (by omega)) c12)
      refine x_iload_n Γ dX2_sellCalled_59 rfl rfl ?_
      have hnt : t = n := by omega
      subst hnt
      exact x_iret Γ rfl rfl (fun w2 e2 => ⟨rfl, ⟨_, hTt, e2.1⟩, e2.2⟩) ⟨by show phi A t L - phv t (fCal t (0, A, L)) ≤ kb; omega, by show 3 * (phi A t L - phv t (fCal t (0, A, L))) ≤ 3 * kb; omega⟩ dX2_sellCalled_60
    | succ d ih =>
      intro t T ht hTt
      have htn : t < n := by omega
      have ip := fCal_P (0 : Int32) hI hC t (by omega)
      have hIt := ip.1
      obtain ⟨hs, -⟩ := fCal_I (n := n) (0, A, L) t hI.2.1
      have h4 : (fCal t (0, A, L)).2.1 4 0 = nI D := (congrFun (hs 4 rfl) 0).trans hD
      have hm0 : phv n (fCal t (0, A, L)) ≤ phi A n L := by have := fCal_phi (n := n) (0, A, L) 0 t (by omega); rw [Nat.zero_add] at this; exact this
      have hmt := hmono t (by omega)
      rw [show t + (n - t) = n by omega] at hmt
      have hm1 := hmono (t + 1) (by omega)
      rw [show t + 1 + (n - (t + 1)) = n by omega] at hm1
      have hnx : ∀ (V2 : xV) T' lx, fCal (t + 1) (0, A, L) = V2 → tgI V2.2.1 n D T' → xpick lx [0, 1, 2] = [(0, .ref (ca 0)), (1, .int V2.1), (2, .int (nI t))] → xJ p l e ({ frames := 6, cells := kb, slots := 3 * kb, locals := 230 } : Room) s m ([.ref (ca 0)] : List Value).toArray below meth c G 4 (MQ below (xQ G embI (fun r w' => r = (fCal n (0, A, L)).1 ∧ cQ G ca th (fCal n (0, A, L)).2.1 n (fCal n (0, A, L)).2.2 D w w')) ([.ref (ca 0)] : List Value).toArray s ({ frames := 6, cells := kb, slots := 3 * kb, locals := 230 } : Room).cells ({ frames := 6, cells := kb, slots := 3 * kb, locals := 230 } : Room).slots (xA G)) (cP G ca th (cB V2.2.1) n V2.2.2 T' w) (phi A n L - phv n V2) (3 * (phi A n L - phv n V2)) 53 lx [] := by
        intro V2 T' lx hV hT2 hlx
        subst hV
        refine x_lv [0, 1, 2] hlx ?_
        refine x_iinc (v := _ + 1) Γ dX2_sellCalled_53 rfl rfl rfl (by decide) ?_
        rw [nI_1]
        refine x_goto (tgt := 4) Γ dX2_sellCalled_56 (by decide) ?_
        refine x_lv [0, 1, 2] rfl ?_
        exact ih (t + 1) T' (by omega) hT2
      refine x_iload_n Γ dX2_sellCalled_4 rfl rfl ?_
      refine x_aload_n Γ dX2_sellCalled_5 rfl rfl ?_
      refine c_this Γ 2 rfl (by decide) k_60 rfl dX2_sellCalled_6 ?_
      refine x_invV (emb := embI) (ci := 0) (rm := ({ frames := 0, cells := 0, slots := 0, locals := 0 } : Room)) Γ [] (fun w1 r w2 => r = nI n ∧ w2 = w1) rfl (fun w1 h1 => t_size h1.1.2.2.2.1) c_lst3 rfl k_91 k_4 k_88 k_89 k_90 hd_Jx4a65c_size_8abf5 ⟨Nat.le_of_ble_eq_true rfl, Nat.le_of_ble_eq_true rfl⟩ ⟨by show phi A n L - phv n (fCal t (0, A, L)) ≤ kb; omega, by show 3 * (phi A n L - phv n (fCal t (0, A, L))) ≤ 3 * kb; omega⟩ (Nat.le_of_ble_eq_true rfl) dX2_sellCalled_9 (fun r => ?_)
      refine m_same (fun e9 => ?_)
      subst e9
      refine x_icmp_ge (tgt := 59) Γ dX2_sellCalled_12 (by decide) (fun c12 => absurd c12 (nI_ge (by omega) (by omega))) (fun c12 => ?_)
      refine x_aload_n Γ dX2_sellCalled_15 rfl rfl ?_
      refine c_this Γ 2 rfl (by decide) k_60 rfl dX2_sellCalled_16 ?_
      refine x_iload_n Γ dX2_sellCalled_19 rfl rfl ?_
      refine x_invV (emb := embA) (ci := 0) (rm := ({ frames := 2, cells := 0, slots := 0, locals := 43 } : Room)) Γ [.int (nI t)] (fun w1 r w2 => r = th t ∧ w2 = w1) rfl (fun w1 h1 => t_get h1.1.2.2.2.1 htn) c_lst3 rfl k_209 k_4 k_206 k_207 k_208 hd_Jx4a65c_get_915e3 ⟨Nat.le_of_ble_eq_true rfl, Nat.le_of_ble_eq_true rfl⟩ ⟨by show phi A n L - phv n (fCal t (0, A, L)) ≤ kb; omega, by show 3 * (phi A n L - phv n (fCal t (0, A, L))) ≤ 3 * kb; omega⟩ (Nat.le_of_ble_eq_true rfl) dX2_sellCalled_20 (fun r => ?_)
      refine m_same (fun e9 => ?_)
      subst e9
      refine x_cast (C := RX1) (T := TX1) (N := 12) (ci := 2) Γ rfl (c_thing htn) k_220 dX2_sellCalled_23 ?_
      refine x_astore_n Γ dX2_sellCalled_26 rfl rfl (by decide) ?_
      refine x_aload_n Γ dX2_sellCalled_27 rfl rfl ?_
      refine x_invVN (emb := embI) (ci := 2) (rm := ({ frames := 0, cells := 0, slots := 0, locals := 0 } : Room)) Γ [] (fun w1 r w2 => bq (¬ (cB (fCal t (0, A, L)).2.1) 14 t = -1) r ∧ w2 = w1) rfl (fun w1 h1 => by obtain ⟨b9, g1, g2⟩ := h1.1.2.2.2.2.2 t htn; exact t_isCalled g1 rfl) (c_thing htn) rfl k_480 k_14 k_477 k_479 s_16 hd_X1_isCalled ⟨Nat.le_of_ble_eq_true rfl, Nat.le_of_ble_eq_true rfl⟩ ⟨by show phi A n L - phv n (fCal t (0, A, L)) ≤ kb; omega, by show 3 * (phi A n L - phv n (fCal t (0, A, L))) ≤ 3 * kb; omega⟩ (Nat.le_of_ble_eq_true rfl) dX2_sellCalled_28 (fun r => ?_)
      refine m_same (fun qC => ?_)
      refine x_if_eq (tgt := 53) Γ dX2_sellCalled_31 (by decide) (fun c31 => ?_) (fun c31 => ?_)
      · exact hnx (fCal t (0, A, L)) T _ (by rw [fCal, if_neg (fun z => qC.eq c31 ((fCalT_iff hIt ip.2.1 htn).mp z).1)]) hTt rfl
      · refine x_aload_n Γ dX2_sellCalled_34 rfl rfl ?_
        refine c_getT Γ 11 htn (fun _ => rfl) (by decide) k_283 dX2_sellCalled_35 ?_
        refine x_aload_n Γ dX2_sellCalled_38 rfl rfl ?_
        refine c_this Γ 5 rfl (by decide) k_63 rfl dX2_sellCalled_39 ?_
        refine x_icmp_gt (tgt := 53) Γ dX2_sellCalled_42 (by decide) (fun c42 => ?_) (fun c42 => ?_)
        · exact hnx (fCal t (0, A, L)) T _ (by rw [fCal, if_neg (fun z => absurd c42 (Int32.not_lt.mpr ((fCalT_iff hIt ip.2.1 htn).mp z).2))]) hTt rfl
        · refine x_aload_n Γ dX2_sellCalled_45 rfl rfl ?_
          refine x_aload_n Γ dX2_sellCalled_46 rfl rfl ?_
          have hc : fCalT (fCal t (0, A, L)).2.1 t := (fCalT_iff hIt ip.2.1 htn).mpr ⟨qC.ne c31, Int32.not_lt.mp c42⟩
          have hps := phi_sell (L := (fCal t (0, A, L)).2.2) htn hc.1
          have hstep : fCal (t + 1) (0, A, L) = vSell t (fCal t (0, A, L)) := by rw [fCal, if_pos hc]
          rw [hstep] at hm1
          have hps : phv n (vSell t (fCal t (0, A, L))) + 1 ≤ phv n (fCal t (0, A, L)) := hps
          refine x_invV (emb := embV) (ci := 3) (rm := ({ frames := 5, cells := 1, slots := 3, locals := 190 } : Room)) Γ [.ref (th t)] (fun w1 _ w2 => cQ G ca th (fSell t (fCal t (0, A, L)).2.1) n (fFor t (fCal t (0, A, L)).2.2) D w1 w2) rfl (fun w1 h1 => t_sell h1.1 htn hIt hTt h4 hD1) c_self rfl k_506 k_1 k_503 k_505 s_20 hd_X2_sell ⟨Nat.le_of_ble_eq_true rfl, Nat.le_of_ble_eq_true rfl⟩ ⟨by show phi A n L - phv n (fCal t (0, A, L)) + 1 ≤ kb; omega, by show 3 * (phi A n L - phv n (fCal t (0, A, L))) + 3 ≤ 3 * kb; omega⟩ (Nat.le_of_ble_eq_true rfl) dX2_sellCalled_47 (fun _ => ?_)
          refine c_thenQ (A' := fSell t (fCal t (0, A, L)).2.1) (L' := fFor t (fCal t (0, A, L)).2.2) (D := D) (fun T' hT' => ?_)
          refine x_wide (k' := phi A n L - phv n (vSell t (fCal t (0, A, L)))) (n' := 3 * (phi A n L - phv n (vSell t (fCal t (0, A, L))))) (by show phi A n L - phv n (fCal t (0, A, L)) + 1 ≤ phi A n L - phv n (vSell t (fCal t (0, A, L))); omega) (by show 3 * (phi A n L - phv n (fCal t (0, A, L))) + 3 ≤ 3 * (phi A n L - phv n (vSell t (fCal t (0, A, L)))); omega) ?_
          refine x_iinc (v := _ + 1) Γ dX2_sellCalled_50 rfl rfl rfl (by decide) ?_
          exact hnx (vSell t (fCal t (0, A, L))) T' _ hstep hT' rfl
  refine x_iconst (v := 0) Γ dX2_sellCalled_0 (by decide) ?_
  refine x_istore_n Γ dX2_sellCalled_1 rfl rfl (by decide) ?_
  refine x_iconst (v := 0) Γ dX2_sellCalled_2 (by decide) ?_
  refine x_istore_n Γ dX2_sellCalled_3 rfl rfl (by decide) ?_
  refine x_lv [0, 1, 2] rfl ?_
  refine x_wide (k' := phi A n L - phv n (fCal 0 (0, A, L))) (n' := 3 * (phi A n L - phv n (fCal 0 (0, A, L)))) (Nat.zero_le _) (Nat.zero_le _) ?_
  exact loop n 0 T (by omega) hT
set_option maxRecDepth 100000 in
theorem t_sellUnfetched {ca th : Nat → Nat} {A : xS} {n : Nat} {L : List Nat} {T : Nat → xTg} {w : xW} (h : CRaw G w ca th (cB A) n L T) {kb : Nat} {D : Nat} (hI : pI A n L) (hT : tgI A n D T) (hD : A 4 0 = nI D) (hD1 : D ≤ 1000) (hC : calS A n) (hkb : phi A n L ≤ phv n (fUnf n (0, A, L)) + kb) : xMet l G yX2_sellUnfetched cX2_sellUnfetched 5 (some .int) ({ frames := 6, cells := kb, slots := 3 * kb, locals := 230 } : Room) [.ref (ca 0)] w embI (fun r w' => r = (fUnf n (0, A, L)).1 ∧ cQ G ca th (fUnf n (0, A, L)).2.1 n (fUnf n (0, A, L)).2.2 D w w') := by
  refine xMet_of (by decide) (Nat.le_of_ble_eq_true rfl) ?_
  intro p e s m below meth c Γ hnm
  have hn := hI.1.2.1
  have hmono := fun m h9 => fUnf_phi (n := n) (0, A, L) m (n - m) h9
  refine c_in h ?_
  have loop : ∀ d t T, t + d = n → tgI (fUnf t (0, A, L)).2.1 n D T → xJ p l e ({ frames := 6, cells := kb, slots := 3 * kb, locals := 230 } : Room) s m ([.ref (ca 0)] : List Value).toArray below meth c G 5 (MQ below (xQ G embI (fun r w' => r = (fUnf n (0, A, L)).1 ∧ cQ G ca th (fUnf n (0, A, L)).2.1 n (fUnf n (0, A, L)).2.2 D w w')) ([.ref (ca 0)] : List Value).toArray s ({ frames := 6, cells := kb, slots := 3 * kb, locals := 230 } : Room).cells ({ frames := 6, cells := kb, slots := 3 * kb, locals := 230 } : Room).slots (xA G)) (cP G ca th (cB (fUnf t (0, A, L)).2.1) n (fUnf t (0, A, L)).2.2 T w) (phi A n L - phv n (fUnf t (0, A, L))) (3 * (phi A n L - phv n (fUnf t (0, A, L)))) 4 [(0, .ref (ca 0)), (1, .int (fUnf t (0, A, L)).1), (2, .int (nI t))] [] := by
    intro d
    induction d with
    | zero =>
      intro t T ht hTt
      have hmt := hmono t (by omega)
      rw [show t + (n - t) = n by omega] at hmt
      refine x_iload_n Γ dX2_sellUnfetched_4 rfl rfl ?_
      refine x_aload_n Γ dX2_sellUnfetched_5 rfl rfl ?_
      refine c_this Γ 2 rfl (by decide) k_60 rfl dX2_sellUnfetched_6 ?_
      refine x_invV (emb := embI) (ci := 0) (rm := ({ frames := 0, cells := 0, slots := 0, locals := 0 } : Room)) Γ [] (fun w1 r w2 => r = nI n ∧ w2 = w1) rfl (fun w1 h1 => t_size h1.1.2.2.2.1) c_lst3 rfl k_91 k_4 k_88 k_89 k_90 hd_Jx4a65c_size_8abf5 ⟨Nat.le_of_ble_eq_true rfl, Nat.le_of_ble_eq_true rfl⟩ ⟨by show phi A n L - phv n (fUnf t (0, A, L)) ≤ kb; omega, by show 3 * (phi A n L - phv n (fUnf t (0, A, L))) ≤ 3 * kb; omega⟩ (Nat.le_of_ble_eq_true rfl) dX2_sellUnfetched_9 (fun r => ?_)
      refine m_same (fun e9 => ?_)
      subst e9
      refine x_icmp_ge (tgt := 75) Γ dX2_sellUnfetched_12 (by decide) (fun c12 => ?_) (fun c12 => absurd (nI_le (by omega) (by omega)) c12)
      refine x_iload_n Γ dX2_sellUnfetched_75 rfl rfl ?_
      have hnt : t = n := by omega
      subst hnt
      exact x_iret Γ rfl rfl (fun w2 e2 => ⟨rfl, ⟨_, hTt, e2.1⟩, e2.2⟩) ⟨by show phi A t L - phv t (fUnf t (0, A, L)) ≤ kb; omega, by show 3 * (phi A t L - phv t (fUnf t (0, A, L))) ≤ 3 * kb; omega⟩ dX2_sellUnfetched_76
    | succ d ih =>
      intro t T ht hTt
      have htn : t < n := by omega
      have ip := fUnf_P (0 : Int32) hI hC t (by omega)
      have hIt := ip.1
      obtain ⟨hs, -⟩ := fUnf_I (n := n) (0, A, L) t hI.2.1
      have h4 : (fUnf t (0, A, L)).2.1 4 0 = nI D := (congrFun (hs 4 rfl) 0).trans hD
      have hm0 : phv n (fUnf t (0, A, L)) ≤ phi A n L := by have := fUnf_phi (n := n) (0, A, L) 0 t (by omega); rw [Nat.zero_add] at this; exact this
      have hmt := hmono t (by omega)
      rw [show t + (n - t) = n by omega] at hmt
      have hm1 := hmono (t + 1) (by omega)
      rw [show t + 1 + (n - (t + 1)) = n by omega] at hm1
      have hnx : ∀ (V2 : xV) T' lx, fUnf (t + 1) (0, A, L) = V2 → tgI V2.2.1 n D T' → xpick lx [0, 1, 2] = [(0, .ref (ca 0)), (1, .int V2.1), (2, .int (nI t))] → xJ p l e ({ frames := 6, cells := kb, slots := 3 * kb, locals := 230 } : Room) s m ([.ref (ca 0)] : List Value).toArray below meth c G 5 (MQ below (xQ G embI (fun r w' => r = (fUnf n (0, A, L)).1 ∧ cQ G ca th (fUnf n (0, A, L)).2.1 n (fUnf n (0, A, L)).2.2 D w w')) ([.ref (ca 0)] : List Value).toArray s ({ frames := 6, cells := kb, slots := 3 * kb, locals := 230 } : Room).cells ({ frames := 6, cells := kb, slots := 3 * kb, locals := 230 } : Room).slots (xA G)) (cP G ca th (cB V2.2.1) n V2.2.2 T' w) (phi A n L - phv n V2) (3 * (phi A n L - phv n V2)) 69 lx [] := by
        intro V2 T' lx hV hT2 hlx
        subst hV
        refine x_lv [0, 1, 2] hlx ?_
        refine x_iinc (v := _ + 1) Γ dX2_sellUnfetched_69 rfl rfl rfl (by decide) ?_
        rw [nI_1]
        refine x_goto (tgt := 4) Γ dX2_sellUnfetched_72 (by decide) ?_
        refine x_lv [0, 1, 2] rfl ?_
        exact ih (t + 1) T' (by omega) hT2
      refine x_iload_n Γ dX2_sellUnfetched_4 rfl rfl ?_
      refine x_aload_n Γ dX2_sellUnfetched_5 rfl rfl ?_
      refine c_this Γ 2 rfl (by decide) k_60 rfl dX2_sellUnfetched_6 ?_
      refine x_invV (emb := embI) (ci := 0) (rm := ({ frames := 0, cells := 0, slots := 0, locals := 0 } : Room)) Γ [] (fun w1 r w2 => r = nI n ∧ w2 = w1) rfl (fun w1 h1 => t_size h1.1.2.2.2.1) c_lst3 rfl k_91 k_4 k_88 k_89 k_90 hd_Jx4a65c_size_8abf5 ⟨Nat.le_of_ble_eq_true rfl, Nat.le_of_ble_eq_true rfl⟩ ⟨by show phi A n L - phv n (fUnf t (0, A, L)) ≤ kb; omega, by show 3 * (phi A n L - phv n (fUnf t (0, A, L))) ≤ 3 * kb; omega⟩ (Nat.le_of_ble_eq_true rfl) dX2_sellUnfetched_9 (fun r => ?_)
      refine m_same (fun e9 => ?_)
      subst e9
      refine x_icmp_ge (tgt := 75) Γ dX2_sellUnfetched_12 (by decide) (fun c12 => absurd c12 (nI_ge (by omega) (by omega))) (fun c12 => ?_)
      refine x_aload_n Γ dX2_sellUnfetched_15 rfl rfl ?_
      refine c_this Γ 2 rfl (by decide) k_60 rfl dX2_sellUnfetched_16 ?_
      refine x_iload_n Γ dX2_sellUnfetched_19 rfl rfl ?_
      refine x_invV (emb := embA) (ci := 0) (rm := ({ frames := 2, cells := 0, slots := 0, locals := 43 } : Room)) Γ [.int (nI t)] (fun w1 r w2 => r = th t ∧ w2 = w1) rfl (fun w1 h1 => t_get h1.1.2.2.2.1 htn) c_lst3 rfl k_209 k_4 k_206 k_207 k_208 hd_Jx4a65c_get_915e3 ⟨Nat.le_of_ble_eq_true rfl, Nat.le_of_ble_eq_true rfl⟩ ⟨by show phi A n L - phv n (fUnf t (0, A, L)) ≤ kb; omega, by show 3 * (phi A n L - phv n (fUnf t (0, A, L))) ≤ 3 * kb; omega⟩ (Nat.le_of_ble_eq_true rfl) dX2_sellUnfetched_20 (fun r => ?_)
      refine m_same (fun e9 => ?_)
      subst e9
      refine x_cast (C := RX1) (T := TX1) (N := 12) (ci := 2) Γ rfl (c_thing htn) k_220 dX2_sellUnfetched_23 ?_
      refine x_astore_n Γ dX2_sellUnfetched_26 rfl rfl (by decide) ?_
      refine x_aload_n Γ dX2_sellUnfetched_27 rfl rfl ?_
      refine c_this Γ 5 rfl (by decide) k_63 rfl dX2_sellUnfetched_28 ?_
      refine x_iconst (v := 1) Γ dX2_sellUnfetched_31 (by decide) ?_
      refine x_iadd Γ dX2_sellUnfetched_32 ?_
      refine x_aload_n Γ dX2_sellUnfetched_33 rfl rfl ?_
      refine c_getT Γ 3 htn (fun _ => rfl) (by decide) k_268 dX2_sellUnfetched_34 ?_
      refine x_isub Γ dX2_sellUnfetched_37 ?_
      refine x_istore Γ dX2_sellUnfetched_38 rfl (by decide) ?_
      refine x_aload_n Γ dX2_sellUnfetched_40 rfl rfl ?_
      have esub : (fUnf t (0, A, L)).2.1 4 0 + 1 - (fUnf t (0, A, L)).2.1 10 t = (fUnf t (0, A, L)).2.1 4 0 - (fUnf t (0, A, L)).2.1 10 t + 1 := by rw [Int32.sub_eq_add_neg, Int32.sub_eq_add_neg, Int32.add_assoc, Int32.add_comm 1, Int32.add_assoc]
      refine x_invVN (emb := embI) (ci := 2) (rm := ({ frames := 1, cells := 0, slots := 0, locals := 40 } : Room)) Γ [] (fun w1 r w2 => bq (rIn 0 4 ((cB (fUnf t (0, A, L)).2.1) 9 t)) r ∧ w2 = w1) rfl (fun w1 h1 => by obtain ⟨b9, g1, g2⟩ := h1.1.2.2.2.2.2 t htn; exact t_isAtC g1 rfl) (c_thing htn) rfl k_395 k_14 k_392 k_394 s_7 hd_X1_isAtCounter ⟨Nat.le_of_ble_eq_true rfl, Nat.le_of_ble_eq_true rfl⟩ ⟨by show phi A n L - phv n (fUnf t (0, A, L)) ≤ kb; omega, by show 3 * (phi A n L - phv n (fUnf t (0, A, L))) ≤ 3 * kb; omega⟩ (Nat.le_of_ble_eq_true rfl) dX2_sellUnfetched_41 (fun r => ?_)
      refine m_same (fun qA => ?_)
      refine x_if_eq (tgt := 69) Γ dX2_sellUnfetched_44 (by decide) (fun c44 => ?_) (fun c44 => ?_)
      · exact hnx (fUnf t (0, A, L)) T _ (by rw [fUnf, if_neg (fun z => qA.eq c44 ⟨hIt.2.2.2.1 t htn, (lt_le (by decide)).mp z.1⟩)]) hTt rfl
      · refine x_aload_n Γ dX2_sellUnfetched_47 rfl rfl ?_
        refine x_invVN (emb := embI) (ci := 2) (rm := ({ frames := 0, cells := 0, slots := 0, locals := 0 } : Room)) Γ [] (fun w1 r w2 => bq (0 < (cB (fUnf t (0, A, L)).2.1) 12 t) r ∧ w2 = w1) rfl (fun w1 h1 => by obtain ⟨b9, g1, g2⟩ := h1.1.2.2.2.2.2 t htn; exact t_hasLoan g1 rfl) (c_thing htn) rfl k_400 k_14 k_397 k_399 s_8 hd_X1_hasLoan ⟨Nat.le_of_ble_eq_true rfl, Nat.le_of_ble_eq_true rfl⟩ ⟨by show phi A n L - phv n (fUnf t (0, A, L)) ≤ kb; omega, by show 3 * (phi A n L - phv n (fUnf t (0, A, L))) ≤ 3 * kb; omega⟩ (Nat.le_of_ble_eq_true rfl) dX2_sellUnfetched_48 (fun r => ?_)
        refine m_same (fun qL => ?_)
        refine x_if_ne (tgt := 69) Γ dX2_sellUnfetched_51 (by decide) (fun c51 => ?_) (fun c51 => ?_)
        · exact hnx (fUnf t (0, A, L)) T _ (by rw [fUnf, if_neg (fun z => c51 (qL.zero (show ¬ 0 < (fUnf t (0, A, L)).2.1 12 t by rw [z.2.1]; decide)))]) hTt rfl
        · refine x_iload Γ dX2_sellUnfetched_54 rfl ?_
          refine x_bipush (v := 30) Γ dX2_sellUnfetched_56 (by decide) ?_
          refine x_icmp_lt (tgt := 69) Γ dX2_sellUnfetched_58 (by decide) (fun c58 => ?_) (fun c58 => ?_)
          · exact hnx (fUnf t (0, A, L)) T _ (by rw [fUnf, if_neg (fun z => absurd c58 (Int32.not_lt.mpr (by show 30 ≤ (fUnf t (0, A, L)).2.1 4 0 + 1 - (fUnf t (0, A, L)).2.1 10 t; rw [esub]; exact z.2.2)))]) hTt rfl
          · refine x_aload_n Γ dX2_sellUnfetched_61 rfl rfl ?_
            refine x_aload_n Γ dX2_sellUnfetched_62 rfl rfl ?_
            have hc : fUnfT (fUnf t (0, A, L)).2.1 t := ⟨(lt_le (by decide)).mpr (qA.ne c44).2, (hIt.2.2.2.2.2.1 t htn).elim id (fun z => absurd z.1 (qL.eq (by first | exact c51 | exact Decidable.not_not.mp c51))), by rw [← esub]; exact Int32.not_lt.mp c58⟩
            have hps := phi_sell (L := (fUnf t (0, A, L)).2.2) htn hc.1
            have hstep : fUnf (t + 1) (0, A, L) = vSell t (fUnf t (0, A, L)) := by rw [fUnf, if_pos hc]
            rw [hstep] at hm1
            have hps : phv n (vSell t (fUnf t (0, A, L))) + 1 ≤ phv n (fUnf t (0, A, L)) := hps
            refine x_invV (emb := embV) (ci := 3) (rm := ({ frames := 5, cells := 1, slots := 3, locals := 190 } : Room)) Γ [.ref (th t)] (fun w1 _ w2 => cQ G ca th (fSell t (fUnf t (0, A, L)).2.1) n (fFor t (fUnf t (0, A, L)).2.2) D w1 w2) rfl (fun w1 h1 => t_sell h1.1 htn hIt hTt h4 hD1) c_self rfl k_506 k_1 k_503 k_505 s_20 hd_X2_sell ⟨Nat.le_of_ble_eq_true rfl, Nat.le_of_ble_eq_true rfl⟩ ⟨by show phi A n L - phv n (fUnf t (0, A, L)) + 1 ≤ kb; omega, by show 3 * (phi A n L - phv n (fUnf t (0, A, L))) + 3 ≤ 3 * kb; omega⟩ (Nat.le_of_ble_eq_true rfl) dX2_sellUnfetched_63 (fun _ => ?_)
            refine c_thenQ (A' := fSell t (fUnf t (0, A, L)).2.1) (L' := fFor t (fUnf t (0, A, L)).2.2) (D := D) (fun T' hT' => ?_)
            refine x_wide (k' := phi A n L - phv n (vSell t (fUnf t (0, A, L)))) (n' := 3 * (phi A n L - phv n (vSell t (fUnf t (0, A, L))))) (by show phi A n L - phv n (fUnf t (0, A, L)) + 1 ≤ phi A n L - phv n (vSell t (fUnf t (0, A, L))); omega) (by show 3 * (phi A n L - phv n (fUnf t (0, A, L))) + 3 ≤ 3 * (phi A n L - phv n (vSell t (fUnf t (0, A, L)))); omega) ?_
            refine x_iinc (v := _ + 1) Γ dX2_sellUnfetched_66 rfl rfl rfl (by decide) ?_
            exact hnx (vSell t (fUnf t (0, A, L))) T' _ hstep hT' rfl
  refine x_iconst (v := 0) Γ dX2_sellUnfetched_0 (by decide) ?_
  refine x_istore_n Γ dX2_sellUnfetched_1 rfl rfl (by decide) ?_
  refine x_iconst (v := 0) Γ dX2_sellUnfetched_2 (by decide) ?_
  refine x_istore_n Γ dX2_sellUnfetched_3 rfl rfl (by decide) ?_
  refine x_lv [0, 1, 2] rfl ?_
  refine x_wide (k' := phi A n L - phv n (fUnf 0 (0, A, L))) (n' := 3 * (phi A n L - phv n (fUnf 0 (0, A, L)))) (Nat.zero_le _) (Nat.zero_le _) ?_
  exact loop n 0 T (by omega) hT
end XC5
end
section
section XC6
theorem ldF_cB (A : xS) (x : Int32) : ∀ n, ldF (cB A) x n = ldF A x n
  | 0 => rfl
  | n + 1 => by
    rw [ldF, ldF, ldF_cB A x n]
    rfl
theorem fDE_move {B B' : xS} {t : Nat} {L : List Nat} (h1 : B' 15 t = -1) (h2 : ∀ q, q ≠ t → B' 15 q = B 15 q) : fDE B' L = fFor t (fDE B L) := by
  unfold fDE fFor
  rw [List.filter_filter]
  refine List.filter_congr (fun q hq => ?_)
  by_cases e : q = t
  · subst e
    simp [h1]
  · rw [h2 q e, show (q == t) = false from beq_eq_false_iff_ne.mpr e]
    simp
theorem fDE_all {A : xS} {n : Nat} {L : List Nat} (h : lI A n L) : fDE (cB A) L = L := by
  unfold fDE
  refine List.filter_eq_self.mpr (fun q hq => ?_)
  obtain ⟨-, c, hc, hg⟩ := h.2.2 q hq
  rw [cB_j (by decide), hg, show (nI c == -1) = false from beq_eq_false_iff_ne.mpr (nI_nm1 (by omega))]
  rfl
theorem fDay_eq (n : Nat) (A : xS) (L : List Nat) : fDay n (0, A, L) = ((fCal n (0, fOwe n A, L)).1 + (fUnf n (0, (fCal n (0, fOwe n A, L)).2)).1,
    fBeg n (mU (fDrv n (fUnf n (0, (fCal n (0, fOwe n A, L)).2)).2.2 ((fUnf n (0, (fCal n (0, fOwe n A, L)).2)).2.1 1 0, (fUnf n (0, (fCal n (0, fOwe n A, L)).2)).2)).2.1 4 0 ((fDrv n (fUnf n (0, (fCal n (0, fOwe n A, L)).2)).2.2 ((fUnf n (0, (fCal n (0, fOwe n A, L)).2)).2.1 1 0, (fUnf n (0, (fCal n (0, fOwe n A, L)).2)).2)).2.1 4 0 + 1)),
    (fDrv n (fUnf n (0, (fCal n (0, fOwe n A, L)).2)).2.2 ((fUnf n (0, (fCal n (0, fOwe n A, L)).2)).2.1 1 0, (fUnf n (0, (fCal n (0, fOwe n A, L)).2)).2)).2.2) := by
  have h := fUnf_shift (fCal n (0, fOwe n A, L)).1 (fCal n (0, fOwe n A, L)).2 n
  have h2 : fUnf n (fCal n (0, fOwe n A, L)) = ((fCal n (0, fOwe n A, L)).1 + (fUnf n (0, (fCal n (0, fOwe n A, L)).2)).1, (fUnf n (0, (fCal n (0, fOwe n A, L)).2)).2) := h
  unfold fDay
  rw [h2]
/-- the four steps of a day's end -/
theorem fDay_P {A : xS} {n D : Nat} {L : List Nat} (hI : pI A n L) (hC : calI A n) (hD : A 4 0 = nI D) (hD1 : D + 1 ≤ 1000) :
    (pI (fOwe n A) n L ∧ calI (fOwe n A) n ∧ fOwe n A 4 0 = nI D) ∧
    (∀ V, V = fCal n (0, fOwe n A, L) → pI V.2.1 n V.2.2 ∧ calS V.2.1 n ∧ V.2.1 4 0 = nI D ∧ phv n V ≤ phi A n L) ∧
    (∀ V, V = fUnf n (0, (fCal n (0, fOwe n A, L)).2) → pI V.2.1 n V.2.2 ∧ calS V.2.1 n ∧ V.2.1 4 0 = nI D ∧ phv n V ≤ phv n (fCal n (0, fOwe n A, L))) ∧
    (∀ V, V = fDrv n (fUnf n (0, (fCal n (0, fOwe n A, L)).2)).2.2 ((fUnf n (0, (fCal n (0, fOwe n A, L)).2)).2.1 1 0, (fUnf n (0, (fCal n (0, fOwe n A, L)).2)).2) → pI V.2.1 n V.2.2 ∧ calS V.2.1 n ∧ V.2.1 4 0 = nI D ∧ phv n V ≤ phv n (fUnf n (0, (fCal n (0, fOwe n A, L)).2))) ∧
    (∀ V, V = fDay n (0, A, L) → pI V.2.1 n V.2.2 ∧ calI V.2.1 n ∧ V.2.1 4 0 = nI (D + 1) ∧ phv n V ≤ phi A n L) := by
  have a1 : pI (fOwe n A) n L ∧ calI (fOwe n A) n ∧ fOwe n A 4 0 = nI D := ⟨pI.owes hI n (Nat.le_refl n), by unfold calI; rw [fOwe_j (by decide), fOwe_j (by decide)]; exact hC, by rw [fOwe_j (by decide)]; exact hD⟩
  have a2 : ∀ V, V = fCal n (0, fOwe n A, L) → pI V.2.1 n V.2.2 ∧ calS V.2.1 n ∧ V.2.1 4 0 = nI D ∧ phv n V ≤ phi A n L := by
    intro V hV
    subst hV
    obtain ⟨b1, b2, b3⟩ := fCal_P (0 : Int32) a1.1 a1.2.1 n (Nat.le_refl n)
    refine ⟨b1, b3, ?_, ?_⟩
    · rw [(fCal_I (n := n) (0, fOwe n A, L) n a1.1.2.1).1 4 rfl]; exact a1.2.2
    · have := fCal_phi (n := n) (0, fOwe n A, L) 0 n (by omega)
      rw [Nat.zero_add] at this
      exact Nat.le_trans this (Nat.le_of_eq phi_owe)
  obtain ⟨c1, c2, c3, c4⟩ := a2 _ rfl
  have a3 : ∀ V, V = fUnf n (0, (fCal n (0, fOwe n A, L)).2) → pI V.2.1 n V.2.2 ∧ calS V.2.1 n ∧ V.2.1 4 0 = nI D ∧ phv n V ≤ phv n (fCal n (0, fOwe n A, L)) := by
    intro V hV
    subst hV
    obtain ⟨b1, b2⟩ := fUnf_P (0 : Int32) c1 c2 n (Nat.le_refl n)
    refine ⟨b1, b2, ?_, ?_⟩
    · rw [(fUnf_I (n := n) (0, (fCal n (0, fOwe n A, L)).2) n c1.2.1).1 4 rfl]; exact c3
    · have := fUnf_phi (n := n) (0, (fCal n (0, fOwe n A, L)).2) 0 n (by omega)
      rw [Nat.zero_add] at this
      exact this
  obtain ⟨e1, e2, e3, e4⟩ := a3 _ rfl
  have a4 : ∀ V, V = fDrv n (fUnf n (0, (fCal n (0, fOwe n A, L)).2)).2.2 ((fUnf n (0, (fCal n (0, fOwe n A, L)).2)).2.1 1 0, (fUnf n (0, (fCal n (0, fOwe n A, L)).2)).2) → pI V.2.1 n V.2.2 ∧ calS V.2.1 n ∧ V.2.1 4 0 = nI D ∧ phv n V ≤ phv n (fUnf n (0, (fCal n (0, fOwe n A, L)).2)) := by
    intro V hV
    subst hV
    obtain ⟨b1, b2, b3⟩ := fDrv_P (n := n) (fUnf n (0, (fCal n (0, fOwe n A, L)).2)).2.2 ((fUnf n (0, (fCal n (0, fOwe n A, L)).2)).2.1 1 0, (fUnf n (0, (fCal n (0, fOwe n A, L)).2)).2) e1 e2 e1.2.1.2.1 (fun q hq => hq)
    refine ⟨b1, b2, ?_, b3⟩
    rw [(fDrv_I (n := n) (fUnf n (0, (fCal n (0, fOwe n A, L)).2)).2.2 ((fUnf n (0, (fCal n (0, fOwe n A, L)).2)).2.1 1 0, (fUnf n (0, (fCal n (0, fOwe n A, L)).2)).2) e1.2.1).1 4 rfl]; exact e3
  obtain ⟨f1, f2, f3, f4⟩ := a4 _ rfl
  refine ⟨a1, a2, a3, a4, fun V hV => ?_⟩
  rw [fDay_eq] at hV
  subst hV
  refine ⟨?_, ?_, ?_, ?_⟩
  · show pI (fBeg n (mU _ 4 0 (_ + 1))) n _
    rw [f3, nI_1]; exact f1.tick f3 hD1
  · show calI (fBeg n (mU _ 4 0 (_ + 1))) n
    rw [f3, nI_1]; exact f2.tick f3 hD1
  · show fBeg n (mU _ 4 0 (_ + 1)) 4 0 = _
    rw [fBeg_j (by decide), mU_eq, f3, nI_1]
  · refine Nat.le_trans ?_ (Nat.le_trans f4 (Nat.le_trans e4 c4))
    show phi (fBeg n _) n _ ≤ phi _ n _
    unfold phi
    rw [atC_same (fun i => by rw [fBeg_j (by decide), mU_j (by decide)])]
    exact Nat.le_refl _
variable {l : Launch} {G : xG}
set_option maxRecDepth 100000 in
theorem t_driveVan {ca th : Nat → Nat} {A : xS} {n : Nat} {L : List Nat} {T : Nat → xTg} {w : xW} (h : CRaw G w ca th (cB A) n L T) {kb : Nat} {D : Nat} (hI : pI A n L) (hT : tgI A n D T) (hD : A 4 0 = nI D) (hD1 : D ≤ 1000) (hC : calS A n) (hkb : phi A n L ≤ phv n (fDrv n L (A 1 0, A, L)) + kb) : xMet l G yX2_driveVan cX2_driveVan 5 none ({ frames := 5, cells := kb, slots := 3 * kb, locals := 170 } : Room) [.ref (ca 0)] w embV (fun _ w' => cQ G ca th (fDrv n L (A 1 0, A, L)).2.1 n (fDrv n L (A 1 0, A, L)).2.2 D w w') := by
  refine xMet_of (by decide) (Nat.le_of_ble_eq_true rfl) ?_
  intro p e s m below meth c Γ hnm
  have hn := hI.1.2.1
  have hlL : L.length ≤ 24 := Nat.le_trans hI.2.1.1 hn
  have hL : ∀ q ∈ L, q < n := fun q hq => (hI.2.1.2.2 q hq).1
  refine c_in h ?_
  have loop : ∀ R P left A' L' T' lx, P ++ R = L → pI A' n L' → calS A' n → sameR A A' → tgI A' n D T' → fDE (cB A') L = L' → (∀ q ∈ R, q ∈ L') → fDrv n R (left, A', L') = (fDrv n L (A 1 0, A, L)) → phi A' n L' ≤ phi A n L → xpick lx [0, 1, 2] = [(0, .ref (ca 0)), (1, .int left), (2, .int (nI P.length))] → xJ p l e ({ frames := 5, cells := kb, slots := 3 * kb, locals := 170 } : Room) s m ([.ref (ca 0)] : List Value).toArray below meth c G 5 (MQ below (xQ G embV (fun _ w' => cQ G ca th (fDrv n L (A 1 0, A, L)).2.1 n (fDrv n L (A 1 0, A, L)).2.2 D w w')) ([.ref (ca 0)] : List Value).toArray s ({ frames := 5, cells := kb, slots := 3 * kb, locals := 170 } : Room).cells ({ frames := 5, cells := kb, slots := 3 * kb, locals := 170 } : Room).slots (xA G)) (cP G ca th (cB A') n L T' w) (phi A n L - phi A' n L') (3 * (phi A n L - phi A' n L')) 7 lx [] := by
    intro R
    induction R with
    | nil =>
      intro P left A' L' T' lx hPR gI gC gS gT gE gR gF gp hlx
      rw [fDrv] at gF
      rw [← gF] at hkb
      have hkb : phi A n L ≤ phi A' n L' + kb := hkb
      rw [List.append_nil] at hPR
      refine x_lv [0, 1, 2] hlx ?_
      rw [hPR]
      refine x_iload_n Γ dX2_driveVan_7 rfl rfl ?_
      refine x_aload_n Γ dX2_driveVan_8 rfl rfl ?_
      refine c_this Γ 3 rfl (by decide) k_61 rfl dX2_driveVan_9 ?_
      refine x_invV (emb := embI) (ci := 0) (rm := ({ frames := 0, cells := 0, slots := 0, locals := 0 } : Room)) Γ [] (fun w1 r w2 => r = nI (L).length ∧ w2 = w1) rfl (fun w1 h1 => t_size h1.1.2.2.2.2.1) c_lst4 rfl k_91 k_4 k_88 k_89 k_90 hd_Jx4a65c_size_8abf5 ⟨Nat.le_of_ble_eq_true rfl, Nat.le_of_ble_eq_true rfl⟩ ⟨by show phi A n L - phi A' n L' ≤ kb; omega, by show 3 * (phi A n L - phi A' n L') ≤ 3 * kb; omega⟩ (Nat.le_of_ble_eq_true rfl) dX2_driveVan_12 (fun r => ?_)
      refine m_same (fun e9 => ?_)
      subst e9
      refine x_icmp_ge (tgt := 102) Γ dX2_driveVan_15 (by decide) (fun c15 => ?_) (fun c15 => absurd (Int32.le_refl _) c15)
      refine x_aload_n Γ dX2_driveVan_102 rfl rfl ?_
      refine x_invV (emb := embV) (ci := 3) (rm := ({ frames := 3, cells := 0, slots := 0, locals := 110 } : Room)) Γ [] (fun w1 _ w2 => cP G ca th (cB A') n (fDE (cB A') L) (T') w1 w2) rfl (fun w1 h1 => t_dropEnded h1.1 hn hL hlL) c_self rfl k_409 k_1 k_406 k_408 s_10 hd_X2_dropEndedWishes ⟨Nat.le_of_ble_eq_true rfl, Nat.le_of_ble_eq_true rfl⟩ ⟨by show phi A n L - phi A' n L' ≤ kb; omega, by show 3 * (phi A n L - phi A' n L') ≤ 3 * kb; omega⟩ (Nat.le_of_ble_eq_true rfl) dX2_driveVan_103 (fun _ => ?_)
      refine c_then0 (B' := cB A') (L' := fDE (cB A') L) (T' := T') ?_
      refine x_vret Γ rfl (fun w2 e2 => ?_) ⟨by show phi A n L - phi A' n L' ≤ kb; omega, by show 3 * (phi A n L - phi A' n L') ≤ 3 * kb; omega⟩ dX2_driveVan_106
      rw [gE] at e2
      rw [← gF]
      exact ⟨⟨T', gT, e2.1⟩, e2.2⟩
    | cons t rr ih =>
      intro P left A' L' T' lx hPR gI gC gS gT gE gR gF gp hlx
      have hnd := hI.2.1.2.1
      rw [← hPR] at hnd
      have hnd2 := List.nodup_cons.mp (List.nodup_append.mp hnd).2.1
      have htL : t ∈ L' := gR t List.mem_cons_self
      have hat : L[P.length]? = some t := by rw [← hPR, List.getElem?_append_right (Nat.le_refl _), Nat.sub_self]; rfl
      have hPl := (List.getElem?_eq_some_iff.mp hat).1
      obtain ⟨htn, ci, hci, hg⟩ := gI.2.1.2.2 t htL
      have hh4 : A' 4 0 = nI D := (congrFun (gS 4 rfl) 0).trans hD
      have hF0 := fDrv_P (n := n) (t :: rr) (left, A', L') gI gC (List.nodup_append.mp hnd).2.1 gR
      rw [gF] at hF0
      have hph : phv n (fDrv n L (A 1 0, A, L)) ≤ phi A' n L' := hF0.2.2
      have hno : ∀ lx, ¬ fDrvT n A' left t → xpick lx [0, 1, 2] = [(0, .ref (ca 0)), (1, .int left), (2, .int (nI P.length))] → xJ p l e ({ frames := 5, cells := kb, slots := 3 * kb, locals := 170 } : Room) s m ([.ref (ca 0)] : List Value).toArray below meth c G 5 (MQ below (xQ G embV (fun _ w' => cQ G ca th (fDrv n L (A 1 0, A, L)).2.1 n (fDrv n L (A 1 0, A, L)).2.2 D w w')) ([.ref (ca 0)] : List Value).toArray s ({ frames := 5, cells := kb, slots := 3 * kb, locals := 170 } : Room).cells ({ frames := 5, cells := kb, slots := 3 * kb, locals := 170 } : Room).slots (xA G)) (cP G ca th (cB A') n L T' w) (phi A n L - phi A' n L') (3 * (phi A n L - phi A' n L')) 96 lx [] := by
        intro lx hN hlx
        rw [fDrv, if_neg hN] at gF
        refine x_lv [0, 1, 2] hlx ?_
        refine x_iinc (v := _ + 1) Γ dX2_driveVan_96 rfl rfl rfl (by decide) ?_
        rw [nI_1]
        refine x_goto (tgt := 7) Γ dX2_driveVan_99 (by decide) ?_
        exact ih (P ++ [t]) left A' L' T' _ (by rw [List.append_assoc]; exact hPR) gI gC gS gT gE (fun q hq => gR q (List.mem_cons_of_mem _ hq)) gF gp (by rw [List.length_append]; rfl)
      refine x_lv [0, 1, 2] hlx ?_
      refine x_iload_n Γ dX2_driveVan_7 rfl rfl ?_
      refine x_aload_n Γ dX2_driveVan_8 rfl rfl ?_
      refine c_this Γ 3 rfl (by decide) k_61 rfl dX2_driveVan_9 ?_
      refine x_invV (emb := embI) (ci := 0) (rm := ({ frames := 0, cells := 0, slots := 0, locals := 0 } : Room)) Γ [] (fun w1 r w2 => r = nI (L).length ∧ w2 = w1) rfl (fun w1 h1 => t_size h1.1.2.2.2.2.1) c_lst4 rfl k_91 k_4 k_88 k_89 k_90 hd_Jx4a65c_size_8abf5 ⟨Nat.le_of_ble_eq_true rfl, Nat.le_of_ble_eq_true rfl⟩ ⟨by show phi A n L - phi A' n L' ≤ kb; omega, by show 3 * (phi A n L - phi A' n L') ≤ 3 * kb; omega⟩ (Nat.le_of_ble_eq_true rfl) dX2_driveVan_12 (fun r => ?_)
      refine m_same (fun e9 => ?_)
      subst e9
      refine x_icmp_ge (tgt := 102) Γ dX2_driveVan_15 (by decide) (fun c15 => absurd c15 (nI_ge (by omega) (by omega))) (fun c15 => ?_)
      refine x_aload_n Γ dX2_driveVan_18 rfl rfl ?_
      refine c_this Γ 3 rfl (by decide) k_61 rfl dX2_driveVan_19 ?_
      refine x_iload_n Γ dX2_driveVan_22 rfl rfl ?_
      refine x_invV (emb := embA) (ci := 0) (rm := ({ frames := 2, cells := 0, slots := 0, locals := 43 } : Room)) Γ [.int (nI P.length)] (fun w1 r w2 => r = th t ∧ w2 = w1) rfl (fun w1 h1 => by have h9 := t_get (l := l) (j := P.length) h1.1.2.2.2.2.1 (List.getElem?_eq_some_iff.mp hat).1; rw [List.getD_eq_getElem?_getD, hat] at h9; exact h9) c_lst4 rfl k_209 k_4 k_206 k_207 k_208 hd_Jx4a65c_get_915e3 ⟨Nat.le_of_ble_eq_true rfl, Nat.le_of_ble_eq_true rfl⟩ ⟨by show phi A n L - phi A' n L' ≤ kb; omega, by show 3 * (phi A n L - phi A' n L') ≤ 3 * kb; omega⟩ (Nat.le_of_ble_eq_true rfl) dX2_driveVan_23 (fun r => ?_)
      refine m_same (fun e9 => ?_)
      subst e9
      refine x_cast (C := RX1) (T := TX1) (N := 12) (ci := 2) Γ rfl (c_thing htn) k_220 dX2_driveVan_26 ?_
      refine x_astore_n Γ dX2_driveVan_29 rfl rfl (by decide) ?_
      refine x_aload_n Γ dX2_driveVan_30 rfl rfl ?_
      refine c_getT Γ 2 htn (fun _ => rfl) (by decide) k_266 dX2_driveVan_31 ?_
      refine x_iload_n Γ dX2_driveVan_34 rfl rfl ?_
      refine x_icmp_gt (tgt := 57) Γ dX2_driveVan_35 (by decide) (fun c35 => ?_) (fun c35 => ?_)
      · refine x_iconst (v := 0) Γ dX2_driveVan_57 (by decide) ?_
        refine x_istore Γ dX2_driveVan_58 rfl (by decide) ?_
        refine x_iload Γ dX2_driveVan_60 rfl ?_
        refine x_if_eq (tgt := 96) Γ dX2_driveVan_62 (by decide) (fun _ => ?_) (fun z => absurd rfl z)
        exact hno _ (fun z => absurd c35 (Int32.not_lt.mpr z.2.1)) rfl
      · refine x_aload_n Γ dX2_driveVan_38 rfl rfl ?_
        refine x_aload_n Γ dX2_driveVan_39 rfl rfl ?_
        refine c_getT Γ 7 htn (fun _ => rfl) (by decide) k_275 dX2_driveVan_40 ?_
        refine x_aload_n Γ dX2_driveVan_43 rfl rfl ?_
        refine c_getT Γ 2 htn (fun _ => rfl) (by decide) k_266 dX2_driveVan_44 ?_
        refine x_invV (emb := embI) (ci := 3) (rm := ({ frames := 4, cells := 0, slots := 0, locals := 120 } : Room)) Γ [.int (cB A' 15 t), .int (cB A' 7 t)] (fun w1 r w2 => bq (rIn 0 4 (cB A' 15 t) ∧ ldF (cB A') (cB A' 15 t) n + cB A' 7 t ≤ cB A' 0 (ix (cB A' 15 t))) r ∧ cP G ca th (cB A') n (L) (T') w1 w2) rfl (fun w1 h1 => t_hasRoom h1.1 hn) c_self rfl k_201 k_1 k_198 k_200 s_1 hd_X2_hasRoomFor ⟨Nat.le_of_ble_eq_true rfl, Nat.le_of_ble_eq_true rfl⟩ ⟨by show phi A n L - phi A' n L' ≤ kb; omega, by show 3 * (phi A n L - phi A' n L') ≤ 3 * kb; omega⟩ (Nat.le_of_ble_eq_true rfl) dX2_driveVan_47 (fun r => ?_)
        refine c_then (B' := cB A') (L' := L) (T' := T') (fun qH => ?_)
        refine x_if_eq (tgt := 57) Γ dX2_driveVan_50 (by decide) (fun c50 => ?_) (fun c50 => ?_)
        · refine x_iconst (v := 0) Γ dX2_driveVan_57 (by decide) ?_
          refine x_istore Γ dX2_driveVan_58 rfl (by decide) ?_
          refine x_iload Γ dX2_driveVan_60 rfl ?_
          refine x_if_eq (tgt := 96) Γ dX2_driveVan_62 (by decide) (fun _ => ?_) (fun z => absurd rfl z)
          exact hno _ (fun z => qH.eq c50 ⟨⟨by show 0 ≤ A' 15 t; rw [hg]; exact nI_pos' (by omega), by show A' 15 t ≤ 4; rw [hg]; exact nI_le (b := 4) (by omega) (by omega)⟩, by rw [ldF_cB]; exact z.2.2⟩) rfl
        · have hRm := (qH.ne c50).2
          rw [ldF_cB] at hRm
          refine x_iconst (v := 1) Γ dX2_driveVan_53 (by decide) ?_
          refine x_goto (tgt := 58) Γ dX2_driveVan_54 (by decide) ?_
          refine x_istore Γ dX2_driveVan_58 rfl (by decide) ?_
          refine x_iload Γ dX2_driveVan_60 rfl ?_
          refine x_if_eq (tgt := 96) Γ dX2_driveVan_62 (by decide) (fun c62 => absurd c62 (by decide)) (fun c62 => ?_)
          refine x_aload_n Γ dX2_driveVan_65 rfl rfl ?_
          refine x_invVN (emb := embI) (ci := 2) (rm := ({ frames := 0, cells := 0, slots := 0, locals := 0 } : Room)) Γ [] (fun w1 r w2 => bq (0 < (cB A') 12 t) r ∧ w2 = w1) rfl (fun w1 h1 => by obtain ⟨b9, g1, g2⟩ := h1.1.2.2.2.2.2 t htn; exact t_hasLoan g1 rfl) (c_thing htn) rfl k_400 k_14 k_397 k_399 s_8 hd_X1_hasLoan ⟨Nat.le_of_ble_eq_true rfl, Nat.le_of_ble_eq_true rfl⟩ ⟨by show phi A n L - phi A' n L' ≤ kb; omega, by show 3 * (phi A n L - phi A' n L') ≤ 3 * kb; omega⟩ (Nat.le_of_ble_eq_true rfl) dX2_driveVan_66 (fun r => ?_)
          refine m_same (fun qL => ?_)
          refine x_if_ne (tgt := 96) Γ dX2_driveVan_69 (by decide) (fun c69 => ?_) (fun c69 => ?_)
          · exact hno _ (fun z => c69 (qL.zero (show ¬ 0 < A' 12 t by rw [z.1]; decide))) rfl
          · have hD2 : fDrvT n A' left t := ⟨(gI.2.2.2.2.2.1 t htn).elim id (fun z => absurd z.1 (qL.eq (by first | exact c69 | exact Decidable.not_not.mp c69))), Int32.not_lt.mp c35, hRm⟩
            rw [fDrv, if_pos hD2] at gF
            have hF1 := fDrv_P (n := n) rr (left - A' 7 t, fMove A' t, fFor t L') (gI.move htL) gC.move hnd2.2 (fun q hq => fFor_in (gR q (List.mem_cons_of_mem _ hq)) (fun z => hnd2.1 (z ▸ hq)))
            have hph1 : phv n (fDrv n rr (left - A' 7 t, fMove A' t, fFor t L')) ≤ phi (fMove A' t) n (fFor t L') := hF1.2.2
            have gF : fDrv n rr (left - A' 7 t, fMove A' t, fFor t L') = (fDrv n L (A 1 0, A, L)) := gF
            rw [gF] at hph1
            have hpm := phi_move gI htL
            refine x_iload_n Γ dX2_driveVan_72 rfl rfl ?_
            refine x_aload_n Γ dX2_driveVan_73 rfl rfl ?_
            refine c_getT Γ 2 htn (fun _ => rfl) (by decide) k_266 dX2_driveVan_74 ?_
            refine x_isub Γ dX2_driveVan_77 ?_
            refine x_istore_n Γ dX2_driveVan_78 rfl rfl (by decide) ?_
            refine x_aload_n Γ dX2_driveVan_79 rfl rfl ?_
            refine x_aload_n Γ dX2_driveVan_80 rfl rfl ?_
            refine c_getT Γ 7 htn (fun _ => rfl) (by decide) k_275 dX2_driveVan_81 ?_
            refine x_aload_n Γ dX2_driveVan_84 rfl rfl ?_
            refine c_this Γ 5 rfl (by decide) k_63 rfl dX2_driveVan_85 ?_
            refine x_invVN (emb := embV) (ci := 2) (rm := ({ frames := 2, cells := 1, slots := 3, locals := 60 } : Room)) Γ [.int (cB A' 15 t), .int (cB A' 4 0)] (fun w1 _ w2 => cP G ca th (mU (cB A') 9 t (cB A' 15 t)) n (L) (tUp T' t (cB A' 15 t, cB A' 4 0 + 1)) w1 w2) rfl (fun w1 h1 => t_cmove h1.1 htn) (c_thing htn) rfl k_422 k_14 k_419 k_421 s_12 hd_X1_moveTo ⟨Nat.le_of_ble_eq_true rfl, Nat.le_of_ble_eq_true rfl⟩ ⟨by show phi A n L - phi A' n L' + 1 ≤ kb; omega, by show 3 * (phi A n L - phi A' n L') + 3 ≤ 3 * kb; omega⟩ (Nat.le_of_ble_eq_true rfl) dX2_driveVan_88 (fun _ => ?_)
            refine c_then0 (B' := mU (cB A') 9 t (cB A' 15 t)) (L' := L) (T' := tUp T' t (cB A' 15 t, cB A' 4 0 + 1)) ?_
            refine x_aload_n Γ dX2_driveVan_91 rfl rfl ?_
            refine x_iconst (v := (-1)) Γ dX2_driveVan_92 (by decide) ?_
            refine c_putT Γ 7 15 htn (fun _ => by simp [tFs, mU]) (by decide) (by decide) k_275 rfl rfl dX2_driveVan_93 ?_
            refine c_at (A := fMove A' t) (by unfold fMove; rw [cB_mU (by decide) (by decide), cB_mU (by decide) (by decide)]; rfl) ?_
            refine x_wide (k' := phi A n L - phi (fMove A' t) n (fFor t L')) (n' := 3 * (phi A n L - phi (fMove A' t) n (fFor t L'))) (by show phi A n L - phi A' n L' + 1 ≤ phi A n L - phi (fMove A' t) n (fFor t L'); omega) (by show 3 * (phi A n L - phi A' n L') + 3 ≤ 3 * (phi A n L - phi (fMove A' t) n (fFor t L')); omega) ?_
            refine x_iinc (v := _ + 1) Γ dX2_driveVan_96 rfl rfl rfl (by decide) ?_
            rw [nI_1]
            refine x_goto (tgt := 7) Γ dX2_driveVan_99 (by decide) ?_
            refine ih (P ++ [t]) (left - A' 7 t) (fMove A' t) (fFor t L') (tUp T' t (cB A' 15 t, cB A' 4 0 + 1)) _ (by rw [List.append_assoc]; exact hPR) (gI.move htL) gC.move (gS.tr (sameR_move A' t)) ?_ ?_ (fun q hq => fFor_in (gR q (List.mem_cons_of_mem _ hq)) (fun z => hnd2.1 (z ▸ hq))) gF (by omega) (by rw [List.length_append]; rfl)
            · rw [show cB A' 4 0 = nI D from hh4, nI_1]
              exact gT.move hD1 (fun i hi => by unfold fMove; rw [mU_j (by decide), mU_i hi]) (by unfold fMove; rw [mU_j (by decide), mU_eq]; rfl) (by unfold fMove; rw [mU_j (by decide), mU_j (by decide)])
            · rw [← gE]
              exact fDE_move (by rw [cB_j (by decide)]; unfold fMove; rw [mU_eq]) (fun q hq => by rw [cB_j (by decide), cB_j (by decide)]; exact move_15 hq)
  refine x_aload_n Γ dX2_driveVan_0 rfl rfl ?_
  refine c_this Γ 4 rfl (by decide) k_62 rfl dX2_driveVan_1 ?_
  refine x_istore_n Γ dX2_driveVan_4 rfl rfl (by decide) ?_
  refine x_iconst (v := 0) Γ dX2_driveVan_5 (by decide) ?_
  refine x_istore_n Γ dX2_driveVan_6 rfl rfl (by decide) ?_
  refine x_wide (k' := phi A n L - phi A n L) (n' := 3 * (phi A n L - phi A n L)) (Nat.zero_le _) (Nat.zero_le _) ?_
  exact loop L [] (A 1 0) A L T _ rfl hI hC sameR.rf hT (fDE_all hI.2.1) (fun q hq => hq) rfl (Nat.le_refl _) rfl
set_option maxRecDepth 100000 in
theorem t_cendDay {ca th : Nat → Nat} {A : xS} {n : Nat} {L : List Nat} {T : Nat → xTg} {w : xW} (h : CRaw G w ca th (cB A) n L T) {kb : Nat} {D : Nat} (hI : pI A n L) (hT : tgI A n D T) (hD : A 4 0 = nI D) (hD1 : D + 1 ≤ 1000) (hC : calI A n) (hkb : phi A n L ≤ phv n (fDay n (0, A, L)) + kb) : xMet l G yX2_endDay cX2_endDay 2 (some .int) ({ frames := 7, cells := kb, slots := 3 * kb, locals := 270 } : Room) [.ref (ca 0)] w embI (fun r w' => r = (fDay n (0, A, L)).1 ∧ cQ G ca th (fDay n (0, A, L)).2.1 n (fDay n (0, A, L)).2.2 (D + 1) w w') := by
  refine xMet_of (by decide) (Nat.le_of_ble_eq_true rfl) ?_
  intro p e s m below meth c Γ hnm
  obtain ⟨⟨p1, p2, p3⟩, q1, q2, q3, q4⟩ := fDay_P hI hC hD hD1
  obtain ⟨c1, c2, c3, c4⟩ := q1 _ rfl
  obtain ⟨e1, e2, e3, e4⟩ := q2 _ rfl
  obtain ⟨f1, f2, f3, f4⟩ := q3 _ rfl
  have hfe : phv n (fDay n (0, A, L)) = phv n (fDrv n (fUnf n (0, (fCal n (0, fOwe n A, L)).2)).2.2 ((fUnf n (0, (fCal n (0, fOwe n A, L)).2)).2.1 1 0, (fUnf n (0, (fCal n (0, fOwe n A, L)).2)).2)) := by
    rw [fDay_eq]
    show phi (fBeg n _) n _ = phi _ n _
    unfold phi
    rw [atC_same (fun i => by rw [fBeg_j (by decide), mU_j (by decide)])]
  have hpo : phi (fOwe n A) n L = phi A n L := phi_owe
  have hT1 : tgI (fOwe n A) n D T := hT.same (fOwe_j (by decide)) (fOwe_j (by decide))
  obtain ⟨k1, hk1⟩ : ∃ k1, k1 = phi A n L - phv n (fCal n (0, fOwe n A, L)) := ⟨_, rfl⟩
  obtain ⟨k2, hk2⟩ : ∃ k2, k2 = phv n (fCal n (0, fOwe n A, L)) - phv n (fUnf n (0, (fCal n (0, fOwe n A, L)).2)) := ⟨_, rfl⟩
  obtain ⟨k3, hk3⟩ : ∃ k3, k3 = phv n (fUnf n (0, (fCal n (0, fOwe n A, L)).2)) - phv n (fDrv n (fUnf n (0, (fCal n (0, fOwe n A, L)).2)).2.2 ((fUnf n (0, (fCal n (0, fOwe n A, L)).2)).2.1 1 0, (fUnf n (0, (fCal n (0, fOwe n A, L)).2)).2)) := ⟨_, rfl⟩
  rw [hfe] at hkb
  refine c_in h ?_
  refine x_aload_n Γ dX2_endDay_0 rfl rfl ?_
  refine x_invV (emb := embV) (ci := 3) (rm := ({ frames := 3, cells := 0, slots := 0, locals := 80 } : Room)) Γ [] (fun w1 _ w2 => cP G ca th (cB (fOwe n A)) n (L) (T) w1 w2) rfl (fun w1 h1 => t_oweFees h1.1 hI) c_self rfl k_498 k_1 k_495 k_497 s_18 hd_X2_oweFees ⟨Nat.le_of_ble_eq_true rfl, Nat.le_of_ble_eq_true rfl⟩ ⟨Nat.zero_le _, Nat.zero_le _⟩ (Nat.le_of_ble_eq_true rfl) dX2_endDay_1 (fun _ => ?_)
  refine c_then0 (B' := cB (fOwe n A)) (L' := L) (T' := T) ?_
  refine x_aload_n Γ dX2_endDay_4 rfl rfl ?_
  refine x_invV (emb := embI) (ci := 3) (rm := ({ frames := 6, cells := k1, slots := 3 * k1, locals := 230 } : Room)) Γ [] (fun w1 r w2 => r = (fCal n (0, fOwe n A, L)).1 ∧ cQ G ca th ((fCal n (0, fOwe n A, L)).2.1) n ((fCal n (0, fOwe n A, L)).2.2) D w1 w2) rfl (fun w1 h1 => t_sellCalled h1.1 p1 hT1 p3 (by omega) p2 (by rw [hpo]; omega)) c_self rfl k_502 k_1 k_499 k_501 s_19 hd_X2_sellCalled ⟨Nat.le_of_ble_eq_true rfl, Nat.le_of_ble_eq_true rfl⟩ ⟨by show 0 + k1 ≤ kb; omega, by show 0 + 3 * k1 ≤ 3 * kb; omega⟩ (Nat.le_of_ble_eq_true rfl) dX2_endDay_5 (fun r => ?_)
  refine c_thenQ1 (A' := (fCal n (0, fOwe n A, L)).2.1) (L' := (fCal n (0, fOwe n A, L)).2.2) (D := D) (fun e5 T5 hT5 => ?_)
  refine x_aload_n Γ dX2_endDay_8 rfl rfl ?_
  refine x_invV (emb := embI) (ci := 3) (rm := ({ frames := 6, cells := k2, slots := 3 * k2, locals := 230 } : Room)) Γ [] (fun w1 r w2 => r = (fUnf n (0, (fCal n (0, fOwe n A, L)).2)).1 ∧ cQ G ca th ((fUnf n (0, (fCal n (0, fOwe n A, L)).2)).2.1) n ((fUnf n (0, (fCal n (0, fOwe n A, L)).2)).2.2) D w1 w2) rfl (fun w1 h1 => t_sellUnfetched h1.1 c1 hT5 c3 (by omega) c2 (by show phv n (fCal n (0, fOwe n A, L)) ≤ phv n (fUnf n (0, (fCal n (0, fOwe n A, L)).2)) + k2; omega)) c_self rfl k_511 k_1 k_508 k_510 s_21 hd_X2_sellUnfetched ⟨Nat.le_of_ble_eq_true rfl, Nat.le_of_ble_eq_true rfl⟩ ⟨by show 0 + k1 + k2 ≤ kb; omega, by show 0 + 3 * k1 + 3 * k2 ≤ 3 * kb; omega⟩ (Nat.le_of_ble_eq_true rfl) dX2_endDay_9 (fun r => ?_)
  refine c_thenQ1 (A' := (fUnf n (0, (fCal n (0, fOwe n A, L)).2)).2.1) (L' := (fUnf n (0, (fCal n (0, fOwe n A, L)).2)).2.2) (D := D) (fun e9 T9 hT9 => ?_)
  refine x_iadd Γ dX2_endDay_12 ?_
  rw [e5, e9]
  refine x_istore_n Γ dX2_endDay_13 rfl rfl (by decide) ?_
  refine x_aload_n Γ dX2_endDay_14 rfl rfl ?_
  refine x_invV (emb := embV) (ci := 3) (rm := ({ frames := 5, cells := k3, slots := 3 * k3, locals := 170 } : Room)) Γ [] (fun w1 _ w2 => cQ G ca th ((fDrv n (fUnf n (0, (fCal n (0, fOwe n A, L)).2)).2.2 ((fUnf n (0, (fCal n (0, fOwe n A, L)).2)).2.1 1 0, (fUnf n (0, (fCal n (0, fOwe n A, L)).2)).2)).2.1) n ((fDrv n (fUnf n (0, (fCal n (0, fOwe n A, L)).2)).2.2 ((fUnf n (0, (fCal n (0, fOwe n A, L)).2)).2.1 1 0, (fUnf n (0, (fCal n (0, fOwe n A, L)).2)).2)).2.2) D w1 w2) rfl (fun w1 h1 => t_driveVan h1.1 e1 hT9 e3 (by omega) e2 (by show phv n (fUnf n (0, (fCal n (0, fOwe n A, L)).2)) ≤ phv n (fDrv n (fUnf n (0, (fCal n (0, fOwe n A, L)).2)).2.2 ((fUnf n (0, (fCal n (0, fOwe n A, L)).2)).2.1 1 0, (fUnf n (0, (fCal n (0, fOwe n A, L)).2)).2)) + k3; omega)) c_self rfl k_515 k_1 k_512 k_514 s_22 hd_X2_driveVan ⟨Nat.le_of_ble_eq_true rfl, Nat.le_of_ble_eq_true rfl⟩ ⟨by show 0 + k1 + k2 + k3 ≤ kb; omega, by show 0 + 3 * k1 + 3 * k2 + 3 * k3 ≤ 3 * kb; omega⟩ (Nat.le_of_ble_eq_true rfl) dX2_endDay_15 (fun _ => ?_)
  refine c_thenQ (A' := (fDrv n (fUnf n (0, (fCal n (0, fOwe n A, L)).2)).2.2 ((fUnf n (0, (fCal n (0, fOwe n A, L)).2)).2.1 1 0, (fUnf n (0, (fCal n (0, fOwe n A, L)).2)).2)).2.1) (L' := (fDrv n (fUnf n (0, (fCal n (0, fOwe n A, L)).2)).2.2 ((fUnf n (0, (fCal n (0, fOwe n A, L)).2)).2.1 1 0, (fUnf n (0, (fCal n (0, fOwe n A, L)).2)).2)).2.2) (D := D) (fun T15 hT15 => ?_)
  refine x_aload_n Γ dX2_endDay_18 rfl rfl ?_
  refine x_dup Γ dX2_endDay_19 rfl ?_
  refine c_this Γ 5 rfl (by decide) k_63 rfl dX2_endDay_20 ?_
  refine x_iconst (v := 1) Γ dX2_endDay_23 (by decide) ?_
  refine x_iadd Γ dX2_endDay_24 ?_
  refine c_putthis Γ 5 4 rfl (by decide) (by decide) k_63 rfl rfl rfl dX2_endDay_25 ?_
  refine x_iload_n Γ dX2_endDay_28 rfl rfl ?_
  refine x_iret Γ rfl rfl (fun w2 e2 => ?_) ⟨by show 0 + k1 + k2 + k3 ≤ kb; omega, by show 0 + 3 * k1 + 3 * k2 + 3 * k3 ≤ 3 * kb; omega⟩ dX2_endDay_29
  rw [fDay_eq]
  refine ⟨rfl, ⟨T15, ?_, ?_⟩, e2.2⟩
  · show tgI (fBeg n (mU _ 4 0 (_ + 1))) n (D + 1) T15
    rw [f3, nI_1]
    exact hT15.tick hI.1.2.1 hD1
  · refine e2.1.congr ?_
    have ej : ∀ j, j ≠ 4 → j ≠ 13 → j ≠ 18 → cB (fBeg n (mU (fDrv n (fUnf n (0, (fCal n (0, fOwe n A, L)).2)).2.2 ((fUnf n (0, (fCal n (0, fOwe n A, L)).2)).2.1 1 0, (fUnf n (0, (fCal n (0, fOwe n A, L)).2)).2)).2.1 4 0 ((fDrv n (fUnf n (0, (fCal n (0, fOwe n A, L)).2)).2.2 ((fUnf n (0, (fCal n (0, fOwe n A, L)).2)).2.1 1 0, (fUnf n (0, (fCal n (0, fOwe n A, L)).2)).2)).2.1 4 0 + 1))) j = mU (cB (fDrv n (fUnf n (0, (fCal n (0, fOwe n A, L)).2)).2.2 ((fUnf n (0, (fCal n (0, fOwe n A, L)).2)).2.1 1 0, (fUnf n (0, (fCal n (0, fOwe n A, L)).2)).2)).2.1) 4 0 (cB (fDrv n (fUnf n (0, (fCal n (0, fOwe n A, L)).2)).2.2 ((fUnf n (0, (fCal n (0, fOwe n A, L)).2)).2.1 1 0, (fUnf n (0, (fCal n (0, fOwe n A, L)).2)).2)).2.1 4 0 + 1) j := fun j g1 g2 g3 => by rw [cB_j g2, fBeg_j g3, mU_j g1, mU_j g1, cB_j g2]
    refine ⟨ej 0 (by decide) (by decide) (by decide), ej 2 (by decide) (by decide) (by decide), ⟨congrFun (ej 1 (by decide) (by decide) (by decide)) 0, congrFun (ej 3 (by decide) (by decide) (by decide)) 0, ?_⟩, fun i hi => ⟨congrFun (ej 6 (by decide) (by decide) (by decide)) i, congrFun (ej 7 (by decide) (by decide) (by decide)) i, congrFun (ej 10 (by decide) (by decide) (by decide)) i, congrFun (ej 8 (by decide) (by decide) (by decide)) i, congrFun (ej 9 (by decide) (by decide) (by decide)) i, congrFun (ej 15 (by decide) (by decide) (by decide)) i, congrFun (ej 11 (by decide) (by decide) (by decide)) i, congrFun (ej 12 (by decide) (by decide) (by decide)) i, ?_, congrFun (ej 14 (by decide) (by decide) (by decide)) i⟩⟩
    · rw [cB_j (by decide)]
      show fBeg n (mU _ 4 0 (_ + 1)) 4 0 = _
      rw [fBeg_j (by decide), mU_eq, mU_eq]
      rfl
    · rw [mU_j (by decide)]
      show (if 0 < fBeg n (mU _ 4 0 _) 12 i then fBeg n (mU _ 4 0 _) 13 i else -1) = (if 0 < _ then _ else -1)
      rw [fBeg_j (by decide), fBeg_j (by decide), mU_j (by decide), mU_j (by decide)]
end XC6
end
section
section XC7
theorem cEq_thr (A : xS) (n : Nat) (v : Int32) : cEq n (cB A) (cB (mU A 19 0 v)) := ⟨rfl, rfl, ⟨rfl, rfl, rfl⟩, fun _ _ => ⟨rfl, rfl, rfl, rfl, rfl, rfl, rfl, rfl, rfl, rfl⟩⟩
theorem mU_cg {B B' : xS} {j i j' i' : Nat} {v : Int32} (h : B' j' i' = B j' i') : mU B' j i v j' i' = mU B j i v j' i' := by
  unfold mU
  rw [h]
theorem cEq_mU {B B' : xS} {n j i : Nat} {v : Int32} (h : cEq n B B') : cEq n (mU B j i v) (mU B' j i v) := by
  obtain ⟨h1, h2, ⟨h3, h4, h5⟩, h6⟩ := h
  refine ⟨funext fun i' => mU_cg (by rw [h1]), funext fun i' => mU_cg (by rw [h2]), ⟨mU_cg h3, mU_cg h4, mU_cg h5⟩, fun t ht => ?_⟩
  obtain ⟨g1, g2, g3, g4, g5, g6, g7, g8, g9, g10⟩ := h6 t ht
  exact ⟨mU_cg g1, mU_cg g2, mU_cg g3, mU_cg g4, mU_cg g5, mU_cg g6, mU_cg g7, mU_cg g8, mU_cg g9, mU_cg g10⟩
theorem cEq.tr {B B' B2 : xS} {n : Nat} (h : cEq n B B') (h2 : cEq n B' B2) : cEq n B B2 := by
  obtain ⟨h1, h12, ⟨h3, h4, h5⟩, h6⟩ := h
  obtain ⟨k1, k2, ⟨k3, k4, k5⟩, k6⟩ := h2
  refine ⟨k1.trans h1, k2.trans h12, ⟨k3.trans h3, k4.trans h4, k5.trans h5⟩, fun t ht => ?_⟩
  obtain ⟨g1, g2, g3, g4, g5, g6, g7, g8, g9, g10⟩ := h6 t ht
  obtain ⟨f1, f2, f3, f4, f5, f6, f7, f8, f9, f10⟩ := k6 t ht
  exact ⟨f1.trans g1, f2.trans g2, f3.trans g3, f4.trans g4, f5.trans g5, f6.trans g6, f7.trans g7, f8.trans g8, f9.trans g9, f10.trans g10⟩
theorem cEq_of {B B' : xS} {n : Nat} (h : B' = B) : cEq n B B' := by
  subst h
  exact ⟨rfl, rfl, ⟨rfl, rfl, rfl⟩, fun _ _ => ⟨rfl, rfl, rfl, rfl, rfl, rfl, rfl, rfl, rfl, rfl⟩⟩
theorem cEq_1 {A : xS} {n j i : Nat} {v x : Int32} (h : j ≠ 12) (h2 : j ≠ 13) : cEq n (mU (cB A) j i v) (cB (mU (mU A 19 0 x) j i v)) := by
  rw [cB_mU h h2]
  exact cEq_mU (cEq_thr A n x)
variable {l : Launch} {G : xG}
set_option maxRecDepth 100000 in
theorem tc_fetch {ca th : Nat → Nat} {A : xS} {n : Nat} {L : List Nat} {T : Nat → xTg} {w : xW} (h : CRaw G w ca th (cB A) n L T) (hfl : l.stackTraces = false) {x : Int32} {D : Nat} (hI : pI A n L) (hT : tgI A n D T) (hD : A 4 0 = nI D) (hD1 : D ≤ 1000) : xMetX l G yX2_fetch cX2_fetch 4 (some .int) ({ frames := 8, cells := 60, slots := 400, locals := 320 } : Room) [.ref (ca 0), .int x] w embI (fun r w' => (kFetch A x = 0 ∧ r = (gFetch A L x).1) ∧ cQ G ca th (gFetch A L x).2.1 n (gFetch A L x).2.2 D w w') (fun E w' => ((E = "java/lang/IndexOutOfBoundsException" ∧ kFetch A x = 1) ∨ (E = "java/lang/IllegalStateException" ∧ kFetch A x = 2)) ∧ cP G ca th (cB A) n L T w w') := by
  refine xMetX_of (by decide) (Nat.le_of_ble_eq_true rfl) ?_
  intro p e s m below meth c Γ hout
  have hn := hI.1.2.1
  have hn5 := hI.1.1
  have hlL : L.length ≤ 24 := Nat.le_trans hI.2.1.1 hn
  have hL : ∀ q ∈ L, q < n := fun q hq => (hI.2.1.2.2 q hq).1
  refine c_in h ?_
  refine x_aload_n Γ dX2_fetch_0 rfl rfl ?_
  refine x_iload_n Γ dX2_fetch_1 rfl rfl ?_
  refine x_invVX (emb := embA) (ci := 3) (rm := ({ frames := 6, cells := 1, slots := 6, locals := 100 } : Room)) Γ [.int x] (fun w1 r w2 => (∃ t, t < n ∧ x = nI t ∧ r = th t) ∧ cP G ca th (cB A) n L T w1 w2) (fun w1 E w2 => (E = "java/lang/IndexOutOfBoundsException" ∧ ¬ rIn 0 (nI n - 1) x) ∧ cP G ca th (cB A) n L T w1 w2) rfl (fun w1 h1 => t_thingNumbered h1.1 hfl hn) hout (fun w1 E w2 h1 h2 => by obtain ⟨⟨h3, h4⟩, h5⟩ := h2; exact ⟨Or.inl (⟨h3, by unfold kFetch; exact if_pos (show ¬ rIn 0 (A 5 0 - 1) x by rw [hn5]; exact h4)⟩), h5.1, h1.2.tr h5.2⟩) ⟨Nat.le_of_ble_eq_true rfl, Nat.le_of_ble_eq_true rfl⟩ c_self rfl k_375 k_1 k_372 k_374 s_6 hd_X2_thingNumbered ⟨Nat.le_of_ble_eq_true rfl, Nat.le_of_ble_eq_true rfl⟩ ⟨Nat.le_of_ble_eq_true rfl, Nat.le_of_ble_eq_true rfl⟩ (Nat.le_of_ble_eq_true rfl) dX2_fetch_2 (fun r => ?_)
  refine c_then (B' := cB A) (L' := L) (T' := T) (fun hq9 => ?_)
  obtain ⟨t, htn, rfl, rfl⟩ := hq9
  have ht : t < 24 := by omega
  have hT1 := aI_toT hI.1 htn
  refine x_astore_n Γ dX2_fetch_5 rfl rfl (by decide) ?_
  refine x_aload_n Γ dX2_fetch_6 rfl rfl ?_
  refine x_invVN (emb := embI) (ci := 2) (rm := ({ frames := 1, cells := 0, slots := 0, locals := 40 } : Room)) Γ [] (fun w1 r w2 => bq (rIn 0 4 ((cB A) 9 t)) r ∧ w2 = w1) rfl (fun w1 h1 => by obtain ⟨b9, g1, g2⟩ := h1.1.2.2.2.2.2 t htn; exact t_isAtC g1 rfl) (c_thing htn) rfl k_395 k_14 k_392 k_394 s_7 hd_X1_isAtCounter ⟨Nat.le_of_ble_eq_true rfl, Nat.le_of_ble_eq_true rfl⟩ ⟨Nat.le_of_ble_eq_true rfl, Nat.le_of_ble_eq_true rfl⟩ (Nat.le_of_ble_eq_true rfl) dX2_fetch_7 (fun r => ?_)
  refine m_same (fun q7 => ?_)
  refine x_if_eq (tgt := 20) Γ dX2_fetch_10 (by decide) (fun c10 => ?_) (fun c10 => ?_)
  · have hk : kFetch A (nI t) = 2 := by
      unfold kFetch
      rw [if_neg (not_not_intro hT1), ixn ht, if_pos (by first | exact Or.inl (show ¬ A 9 t < 5 from fun z => q7.eq c10 ⟨hI.2.2.2.1 t htn, (lt_le (by decide)).mp z⟩) | exact Or.inr (q14.ne c17))]
    exact x_throw Γ hfl (by decide) k_221 k_13 (show (96, "it is not at a counter, or has a loan") ∈ xStr by simp [xStr]) at_ISE dX2_fetch_20 dX2_fetch_23 dX2_fetch_24 dX2_fetch_26 dX2_fetch_29 hout ⟨Nat.le_of_ble_eq_true rfl, Nat.le_of_ble_eq_true rfl⟩ ⟨Nat.le_of_ble_eq_true rfl, Nat.le_of_ble_eq_true rfl⟩ (fun w9 h9 => ⟨Or.inr (⟨rfl, hk⟩), h9⟩) ⟨Nat.le_of_ble_eq_true rfl, Nat.le_of_ble_eq_true rfl⟩
  · refine x_aload_n Γ dX2_fetch_13 rfl rfl ?_
    refine x_invVN (emb := embI) (ci := 2) (rm := ({ frames := 0, cells := 0, slots := 0, locals := 0 } : Room)) Γ [] (fun w1 r w2 => bq (0 < (cB A) 12 t) r ∧ w2 = w1) rfl (fun w1 h1 => by obtain ⟨b9, g1, g2⟩ := h1.1.2.2.2.2.2 t htn; exact t_hasLoan g1 rfl) (c_thing htn) rfl k_400 k_14 k_397 k_399 s_8 hd_X1_hasLoan ⟨Nat.le_of_ble_eq_true rfl, Nat.le_of_ble_eq_true rfl⟩ ⟨Nat.le_of_ble_eq_true rfl, Nat.le_of_ble_eq_true rfl⟩ (Nat.le_of_ble_eq_true rfl) dX2_fetch_14 (fun r => ?_)
    refine m_same (fun q14 => ?_)
    refine x_if_eq (tgt := 30) Γ dX2_fetch_17 (by decide) (fun c17 => ?_) (fun c17 => ?_)
    · have hk : kFetch A (nI t) = 0 := by
        unfold kFetch
        rw [if_neg (not_not_intro hT1), ixn ht, if_neg (fun z => z.elim (fun z => z (show A 9 t < 5 from (lt_le (by decide)).mpr (q7.ne c10).2)) (fun z => q14.eq c17 z))]
      refine x_aload_n Γ dX2_fetch_30 rfl rfl ?_
      refine c_getT Γ 8 htn (fun _ => rfl) (by decide) k_277 dX2_fetch_31 ?_
      refine x_istore_n Γ dX2_fetch_34 rfl rfl (by decide) ?_
      refine x_aload_n Γ dX2_fetch_35 rfl rfl ?_
      refine x_aload_n Γ dX2_fetch_36 rfl rfl ?_
      refine x_iload_n Γ dX2_fetch_37 rfl rfl ?_
      refine x_bipush (v := 10) Γ dX2_fetch_38 (by decide) ?_
      refine x_invV (emb := embV) (ci := 3) (rm := ({ frames := 4, cells := 1, slots := 3, locals := 150 } : Room)) Γ [.ref (th t), .int (cB A 11 t), .int 10] (fun w1 _ w2 => cP G ca th (fGa (cB A) t (cB A 11 t) 10) n (fDE (mU (mU (mU (cB A) 3 0 (cB A 3 0 + cB A 11 t)) 11 t (cB A 11 t)) 15 t (-1)) L) (tUp T t (10, cB A 4 0 + 1)) w1 w2) rfl (fun w1 h1 => t_giveAway h1.1 htn hn hL hlL) c_self rfl k_405 k_1 k_402 k_404 s_9 hd_X2_giveAway ⟨Nat.le_of_ble_eq_true rfl, Nat.le_of_ble_eq_true rfl⟩ ⟨Nat.le_of_ble_eq_true rfl, Nat.le_of_ble_eq_true rfl⟩ (Nat.le_of_ble_eq_true rfl) dX2_fetch_40 (fun _ => ?_)
      refine c_then0 (B' := fGa (cB A) t (cB A 11 t) 10) (L' := fDE (mU (mU (mU (cB A) 3 0 (cB A 3 0 + cB A 11 t)) 11 t (cB A 11 t)) 15 t (-1)) L) (T' := tUp T t (10, cB A 4 0 + 1)) ?_
      refine x_iload_n Γ dX2_fetch_43 rfl rfl ?_
      have m9 : ∀ i, bFetch (mU A 19 0 0) t 9 i = if i = t then 10 else A 9 i := fun i => by
        unfold bFetch
        rw [mU_j (by decide), mU_j (by decide)]
        by_cases e : i = t
        · subst e; rw [mU_eq, if_pos rfl]
        · rw [mU_i e, if_neg e]; rfl
      have hce : cEq n (fGa (cB A) t (cB A 11 t) 10) (cB (bFetch (mU A 19 0 0) t)) := by
        unfold bFetch fGa
        rw [cB_mU (by decide) (by decide), cB_mU (by decide) (by decide), cB_mU (by decide) (by decide)]
        have e0 := cEq_thr A n 0
        rw [mU_id (A := mU (cB A) 3 0 (cB A 3 0 + cB A 11 t)) (j := 11) (i := t) (v := cB A 11 t) rfl]
        refine ⟨?_, ?_, ⟨?_, ?_, ?_⟩, fun i hi => ⟨?_, ?_, ?_, ?_, ?_, ?_, ?_, ?_, ?_, ?_⟩⟩
        all_goals first | rfl | (simp [mU, cB])
      have e15 : fDE (mU (mU (mU (cB A) 3 0 (cB A 3 0 + cB A 11 t)) 11 t (cB A 11 t)) 15 t (-1)) L = fFor t L := fDE_for (mU_eq _ _ _ _) (fun q hq hqt => by rw [mU_i hqt, mU_j (by decide), mU_j (by decide), cB_j (by decide)]; obtain ⟨-, ci, hci, hg⟩ := hI.2.1.2.2 q hq; rw [hg]; exact nI_nm1 (by omega))
      have e4 : cB A 4 0 + 1 = nI (D + 1) := by rw [show cB A 4 0 = A 4 0 from rfl, hD, nI_1]
      rw [e15, e4]
      refine x_ends ?_
      refine x_iret Γ rfl rfl (fun w2 e2 => ?_) ⟨Nat.le_of_ble_eq_true rfl, Nat.le_of_ble_eq_true rfl⟩ dX2_fetch_44
      unfold gFetch
      rw [fin_ok hk, ixn ht]
      exact ⟨⟨hk, rfl⟩, ⟨_, hT.move hD1 (fun i hi => (m9 i).trans (if_neg hi)) ((m9 t).trans (if_pos rfl)) rfl, e2.1.congr (hce)⟩, e2.2⟩
    · have hk : kFetch A (nI t) = 2 := by
        unfold kFetch
        rw [if_neg (not_not_intro hT1), ixn ht, if_pos (by first | exact Or.inl (show ¬ A 9 t < 5 from fun z => q7.eq c10 ⟨hI.2.2.2.1 t htn, (lt_le (by decide)).mp z⟩) | exact Or.inr (q14.ne c17))]
      exact x_throw Γ hfl (by decide) k_221 k_13 (show (96, "it is not at a counter, or has a loan") ∈ xStr by simp [xStr]) at_ISE dX2_fetch_20 dX2_fetch_23 dX2_fetch_24 dX2_fetch_26 dX2_fetch_29 hout ⟨Nat.le_of_ble_eq_true rfl, Nat.le_of_ble_eq_true rfl⟩ ⟨Nat.le_of_ble_eq_true rfl, Nat.le_of_ble_eq_true rfl⟩ (fun w9 h9 => ⟨Or.inr (⟨rfl, hk⟩), h9⟩) ⟨Nat.le_of_ble_eq_true rfl, Nat.le_of_ble_eq_true rfl⟩
set_option maxRecDepth 100000 in
theorem tc_where {ca th : Nat → Nat} {A : xS} {n : Nat} {L : List Nat} {T : Nat → xTg} {w : xW} (h : CRaw G w ca th (cB A) n L T) (hfl : l.stackTraces = false) {x : Int32} {D : Nat} (hI : pI A n L) (hT : tgI A n D T) (hD : A 4 0 = nI D) (hD1 : D ≤ 1000) : xMetX l G yX2_where cX2_where 2 (some .int) ({ frames := 8, cells := 60, slots := 400, locals := 320 } : Room) [.ref (ca 0), .int x] w embI (fun r w' => (kT1 A x = 0 ∧ r = (gT1 9 A L x).1) ∧ cQ G ca th (gT1 9 A L x).2.1 n (gT1 9 A L x).2.2 D w w') (fun E w' => ((E = "java/lang/IndexOutOfBoundsException" ∧ kT1 A x = 1)) ∧ cP G ca th (cB A) n L T w w') := by
  refine xMetX_of (by decide) (Nat.le_of_ble_eq_true rfl) ?_
  intro p e s m below meth c Γ hout
  have hn := hI.1.2.1
  have hn5 := hI.1.1
  have hlL : L.length ≤ 24 := Nat.le_trans hI.2.1.1 hn
  have hL : ∀ q ∈ L, q < n := fun q hq => (hI.2.1.2.2 q hq).1
  refine c_in h ?_
  refine x_aload_n Γ dX2_where_0 rfl rfl ?_
  refine x_iload_n Γ dX2_where_1 rfl rfl ?_
  refine x_invVX (emb := embA) (ci := 3) (rm := ({ frames := 6, cells := 1, slots := 6, locals := 100 } : Room)) Γ [.int x] (fun w1 r w2 => (∃ t, t < n ∧ x = nI t ∧ r = th t) ∧ cP G ca th (cB A) n L T w1 w2) (fun w1 E w2 => (E = "java/lang/IndexOutOfBoundsException" ∧ ¬ rIn 0 (nI n - 1) x) ∧ cP G ca th (cB A) n L T w1 w2) rfl (fun w1 h1 => t_thingNumbered h1.1 hfl hn) hout (fun w1 E w2 h1 h2 => by obtain ⟨⟨h3, h4⟩, h5⟩ := h2; exact ⟨⟨h3, by unfold kT1; exact if_neg (show ¬ rIn 0 (A 5 0 - 1) x by rw [hn5]; exact h4)⟩, h5.1, h1.2.tr h5.2⟩) ⟨Nat.le_of_ble_eq_true rfl, Nat.le_of_ble_eq_true rfl⟩ c_self rfl k_375 k_1 k_372 k_374 s_6 hd_X2_thingNumbered ⟨Nat.le_of_ble_eq_true rfl, Nat.le_of_ble_eq_true rfl⟩ ⟨Nat.le_of_ble_eq_true rfl, Nat.le_of_ble_eq_true rfl⟩ (Nat.le_of_ble_eq_true rfl) dX2_where_2 (fun r => ?_)
  refine c_then (B' := cB A) (L' := L) (T' := T) (fun hq9 => ?_)
  obtain ⟨t, htn, rfl, rfl⟩ := hq9
  have ht : t < 24 := by omega
  have hT1 := aI_toT hI.1 htn
  refine c_getT Γ 5 htn (fun _ => rfl) (by decide) k_272 dX2_where_5 ?_
  have hk : kT1 A (nI t) = 0 := if_pos hT1
  refine x_ends ?_
  refine x_iret Γ rfl rfl (fun w2 e2 => ?_) ⟨Nat.le_of_ble_eq_true rfl, Nat.le_of_ble_eq_true rfl⟩ dX2_where_8
  unfold gT1
  rw [fin_ok hk, ixn ht]
  exact ⟨⟨hk, rfl⟩, ⟨T, hT.same rfl rfl, e2.1.congr (cEq_thr A n 0)⟩, e2.2⟩
set_option maxRecDepth 100000 in
theorem tc_fees {ca th : Nat → Nat} {A : xS} {n : Nat} {L : List Nat} {T : Nat → xTg} {w : xW} (h : CRaw G w ca th (cB A) n L T) (hfl : l.stackTraces = false) {x : Int32} {D : Nat} (hI : pI A n L) (hT : tgI A n D T) (hD : A 4 0 = nI D) (hD1 : D ≤ 1000) : xMetX l G yX2_fees cX2_fees 2 (some .int) ({ frames := 8, cells := 60, slots := 400, locals := 320 } : Room) [.ref (ca 0), .int x] w embI (fun r w' => (kT1 A x = 0 ∧ r = (gT1 11 A L x).1) ∧ cQ G ca th (gT1 11 A L x).2.1 n (gT1 11 A L x).2.2 D w w') (fun E w' => ((E = "java/lang/IndexOutOfBoundsException" ∧ kT1 A x = 1)) ∧ cP G ca th (cB A) n L T w w') := by
  refine xMetX_of (by decide) (Nat.le_of_ble_eq_true rfl) ?_
  intro p e s m below meth c Γ hout
  have hn := hI.1.2.1
  have hn5 := hI.1.1
  have hlL : L.length ≤ 24 := Nat.le_trans hI.2.1.1 hn
  have hL : ∀ q ∈ L, q < n := fun q hq => (hI.2.1.2.2 q hq).1
  refine c_in h ?_
  refine x_aload_n Γ dX2_fees_0 rfl rfl ?_
  refine x_iload_n Γ dX2_fees_1 rfl rfl ?_
  refine x_invVX (emb := embA) (ci := 3) (rm := ({ frames := 6, cells := 1, slots := 6, locals := 100 } : Room)) Γ [.int x] (fun w1 r w2 => (∃ t, t < n ∧ x = nI t ∧ r = th t) ∧ cP G ca th (cB A) n L T w1 w2) (fun w1 E w2 => (E = "java/lang/IndexOutOfBoundsException" ∧ ¬ rIn 0 (nI n - 1) x) ∧ cP G ca th (cB A) n L T w1 w2) rfl (fun w1 h1 => t_thingNumbered h1.1 hfl hn) hout (fun w1 E w2 h1 h2 => by obtain ⟨⟨h3, h4⟩, h5⟩ := h2; exact ⟨⟨h3, by unfold kT1; exact if_neg (show ¬ rIn 0 (A 5 0 - 1) x by rw [hn5]; exact h4)⟩, h5.1, h1.2.tr h5.2⟩) ⟨Nat.le_of_ble_eq_true rfl, Nat.le_of_ble_eq_true rfl⟩ c_self rfl k_375 k_1 k_372 k_374 s_6 hd_X2_thingNumbered ⟨Nat.le_of_ble_eq_true rfl, Nat.le_of_ble_eq_true rfl⟩ ⟨Nat.le_of_ble_eq_true rfl, Nat.le_of_ble_eq_true rfl⟩ (Nat.le_of_ble_eq_true rfl) dX2_fees_2 (fun r => ?_)
  refine c_then (B' := cB A) (L' := L) (T' := T) (fun hq9 => ?_)
  obtain ⟨t, htn, rfl, rfl⟩ := hq9
  have ht : t < 24 := by omega
  have hT1 := aI_toT hI.1 htn
  refine c_getT Γ 8 htn (fun _ => rfl) (by decide) k_277 dX2_fees_5 ?_
  have hk : kT1 A (nI t) = 0 := if_pos hT1
  refine x_ends ?_
  refine x_iret Γ rfl rfl (fun w2 e2 => ?_) ⟨Nat.le_of_ble_eq_true rfl, Nat.le_of_ble_eq_true rfl⟩ dX2_fees_8
  unfold gT1
  rw [fin_ok hk, ixn ht]
  exact ⟨⟨hk, rfl⟩, ⟨T, hT.same rfl rfl, e2.1.congr (cEq_thr A n 0)⟩, e2.2⟩
set_option maxRecDepth 100000 in
theorem tc_loan {ca th : Nat → Nat} {A : xS} {n : Nat} {L : List Nat} {T : Nat → xTg} {w : xW} (h : CRaw G w ca th (cB A) n L T) (hfl : l.stackTraces = false) {x : Int32} {D : Nat} (hI : pI A n L) (hT : tgI A n D T) (hD : A 4 0 = nI D) (hD1 : D ≤ 1000) : xMetX l G yX2_loan cX2_loan 2 (some .int) ({ frames := 8, cells := 60, slots := 400, locals := 320 } : Room) [.ref (ca 0), .int x] w embI (fun r w' => (kT1 A x = 0 ∧ r = (gT1 12 A L x).1) ∧ cQ G ca th (gT1 12 A L x).2.1 n (gT1 12 A L x).2.2 D w w') (fun E w' => ((E = "java/lang/IndexOutOfBoundsException" ∧ kT1 A x = 1)) ∧ cP G ca th (cB A) n L T w w') := by
  refine xMetX_of (by decide) (Nat.le_of_ble_eq_true rfl) ?_
  intro p e s m below meth c Γ hout
  have hn := hI.1.2.1
  have hn5 := hI.1.1
  have hlL : L.length ≤ 24 := Nat.le_trans hI.2.1.1 hn
  have hL : ∀ q ∈ L, q < n := fun q hq => (hI.2.1.2.2 q hq).1
  refine c_in h ?_
  refine x_aload_n Γ dX2_loan_0 rfl rfl ?_
  refine x_iload_n Γ dX2_loan_1 rfl rfl ?_
  refine x_invVX (emb := embA) (ci := 3) (rm := ({ frames := 6, cells := 1, slots := 6, locals := 100 } : Room)) Γ [.int x] (fun w1 r w2 => (∃ t, t < n ∧ x = nI t ∧ r = th t) ∧ cP G ca th (cB A) n L T w1 w2) (fun w1 E w2 => (E = "java/lang/IndexOutOfBoundsException" ∧ ¬ rIn 0 (nI n - 1) x) ∧ cP G ca th (cB A) n L T w1 w2) rfl (fun w1 h1 => t_thingNumbered h1.1 hfl hn) hout (fun w1 E w2 h1 h2 => by obtain ⟨⟨h3, h4⟩, h5⟩ := h2; exact ⟨⟨h3, by unfold kT1; exact if_neg (show ¬ rIn 0 (A 5 0 - 1) x by rw [hn5]; exact h4)⟩, h5.1, h1.2.tr h5.2⟩) ⟨Nat.le_of_ble_eq_true rfl, Nat.le_of_ble_eq_true rfl⟩ c_self rfl k_375 k_1 k_372 k_374 s_6 hd_X2_thingNumbered ⟨Nat.le_of_ble_eq_true rfl, Nat.le_of_ble_eq_true rfl⟩ ⟨Nat.le_of_ble_eq_true rfl, Nat.le_of_ble_eq_true rfl⟩ (Nat.le_of_ble_eq_true rfl) dX2_loan_2 (fun r => ?_)
  refine c_then (B' := cB A) (L' := L) (T' := T) (fun hq9 => ?_)
  obtain ⟨t, htn, rfl, rfl⟩ := hq9
  have ht : t < 24 := by omega
  have hT1 := aI_toT hI.1 htn
  refine c_getT Γ 9 htn (fun _ => rfl) (by decide) k_279 dX2_loan_5 ?_
  have hk : kT1 A (nI t) = 0 := if_pos hT1
  refine x_ends ?_
  refine x_iret Γ rfl rfl (fun w2 e2 => ?_) ⟨Nat.le_of_ble_eq_true rfl, Nat.le_of_ble_eq_true rfl⟩ dX2_loan_8
  unfold gT1
  rw [fin_ok hk, ixn ht]
  exact ⟨⟨hk, rfl⟩, ⟨T, hT.same rfl rfl, e2.1.congr (cEq_thr A n 0)⟩, e2.2⟩
set_option maxRecDepth 100000 in
theorem tc_value {ca th : Nat → Nat} {A : xS} {n : Nat} {L : List Nat} {T : Nat → xTg} {w : xW} (h : CRaw G w ca th (cB A) n L T) (hfl : l.stackTraces = false) {x v : Int32} {D : Nat} (hI : pI A n L) (hT : tgI A n D T) (hD : A 4 0 = nI D) (hD1 : D ≤ 1000) : xMetX l G yX2_value cX2_value 5 (some .int) ({ frames := 8, cells := 60, slots := 400, locals := 320 } : Room) [.ref (ca 0), .int x, .int v] w embI (fun r w' => (kValue A x v = 0 ∧ r = (gValue A L x v).1) ∧ cQ G ca th (gValue A L x v).2.1 n (gValue A L x v).2.2 D w w') (fun E w' => ((E = "java/lang/IndexOutOfBoundsException" ∧ kValue A x v = 1) ∨ (E = "java/lang/IllegalArgumentException" ∧ kValue A x v = 2) ∨ (E = "java/lang/IllegalStateException" ∧ kValue A x v = 3)) ∧ cP G ca th (cB A) n L T w w') := by
  refine xMetX_of (by decide) (Nat.le_of_ble_eq_true rfl) ?_
  intro p e s m below meth c Γ hout
  have hn := hI.1.2.1
  have hn5 := hI.1.1
  have hlL : L.length ≤ 24 := Nat.le_trans hI.2.1.1 hn
  have hL : ∀ q ∈ L, q < n := fun q hq => (hI.2.1.2.2 q hq).1
  refine c_in h ?_
  refine x_aload_n Γ dX2_value_0 rfl rfl ?_
  refine x_iload_n Γ dX2_value_1 rfl rfl ?_
  refine x_invVX (emb := embA) (ci := 3) (rm := ({ frames := 6, cells := 1, slots := 6, locals := 100 } : Room)) Γ [.int x] (fun w1 r w2 => (∃ t, t < n ∧ x = nI t ∧ r = th t) ∧ cP G ca th (cB A) n L T w1 w2) (fun w1 E w2 => (E = "java/lang/IndexOutOfBoundsException" ∧ ¬ rIn 0 (nI n - 1) x) ∧ cP G ca th (cB A) n L T w1 w2) rfl (fun w1 h1 => t_thingNumbered h1.1 hfl hn) hout (fun w1 E w2 h1 h2 => by obtain ⟨⟨h3, h4⟩, h5⟩ := h2; exact ⟨Or.inl (⟨h3, by unfold kValue; exact if_pos (show ¬ rIn 0 (A 5 0 - 1) x by rw [hn5]; exact h4)⟩), h5.1, h1.2.tr h5.2⟩) ⟨Nat.le_of_ble_eq_true rfl, Nat.le_of_ble_eq_true rfl⟩ c_self rfl k_375 k_1 k_372 k_374 s_6 hd_X2_thingNumbered ⟨Nat.le_of_ble_eq_true rfl, Nat.le_of_ble_eq_true rfl⟩ ⟨Nat.le_of_ble_eq_true rfl, Nat.le_of_ble_eq_true rfl⟩ (Nat.le_of_ble_eq_true rfl) dX2_value_2 (fun r => ?_)
  refine c_then (B' := cB A) (L' := L) (T' := T) (fun hq9 => ?_)
  obtain ⟨t, htn, rfl, rfl⟩ := hq9
  have ht : t < 24 := by omega
  have hT1 := aI_toT hI.1 htn
  refine x_astore_n Γ dX2_value_5 rfl rfl (by decide) ?_
  refine x_iload_n Γ dX2_value_6 rfl rfl ?_
  refine x_if_lt (tgt := 17) Γ dX2_value_7 (by decide) (fun c7 => ?_) (fun c7 => ?_)
  · have hk : kValue A (nI t) v = 2 := by
      unfold kValue
      rw [if_neg (not_not_intro hT1), if_pos (fun z => by first | exact absurd c7 (Int32.not_lt.mpr z.1) | exact c14 z.2)]
    exact x_throw Γ hfl (by decide) k_110 k_10 (show (118, "worth is out of range") ∈ xStr by simp [xStr]) at_IAE dX2_value_17 dX2_value_20 dX2_value_21 dX2_value_23 dX2_value_26 hout ⟨Nat.le_of_ble_eq_true rfl, Nat.le_of_ble_eq_true rfl⟩ ⟨Nat.le_of_ble_eq_true rfl, Nat.le_of_ble_eq_true rfl⟩ (fun w9 h9 => ⟨Or.inr (Or.inl (⟨rfl, hk⟩)), h9⟩) ⟨Nat.le_of_ble_eq_true rfl, Nat.le_of_ble_eq_true rfl⟩
  · refine x_iload_n Γ dX2_value_10 rfl rfl ?_
    refine x_sipush (v := 10000) Γ dX2_value_11 (by decide) ?_
    refine x_icmp_le (tgt := 27) Γ dX2_value_14 (by decide) (fun c14 => ?_) (fun c14 => ?_)
    · have hR : rIn 0 10000 v := ⟨Int32.not_lt.mp c7, c14⟩
      refine x_aload_n Γ dX2_value_27 rfl rfl ?_
      refine x_invVN (emb := embI) (ci := 2) (rm := ({ frames := 1, cells := 0, slots := 0, locals := 40 } : Room)) Γ [] (fun w1 r w2 => bq (rIn 0 4 ((cB A) 9 t)) r ∧ w2 = w1) rfl (fun w1 h1 => by obtain ⟨b9, g1, g2⟩ := h1.1.2.2.2.2.2 t htn; exact t_isAtC g1 rfl) (c_thing htn) rfl k_395 k_14 k_392 k_394 s_7 hd_X1_isAtCounter ⟨Nat.le_of_ble_eq_true rfl, Nat.le_of_ble_eq_true rfl⟩ ⟨Nat.le_of_ble_eq_true rfl, Nat.le_of_ble_eq_true rfl⟩ (Nat.le_of_ble_eq_true rfl) dX2_value_28 (fun r => ?_)
      refine m_same (fun q28 => ?_)
      refine x_if_ne (tgt := 44) Γ dX2_value_31 (by decide) (fun c31 => ?_) (fun c31 => ?_)
      · have hk : kValue A (nI t) v = 0 := by
          unfold kValue
          rw [if_neg (not_not_intro hT1), if_neg (not_not_intro hR), ixn ht, if_neg (not_not_intro (show A 9 t < 5 from (lt_le (by decide)).mpr (q28.ne c31).2))]
        refine x_aload_n Γ dX2_value_44 rfl rfl ?_
        refine c_getT Γ 4 htn (fun _ => rfl) (by decide) k_270 dX2_value_45 ?_
        refine x_istore Γ dX2_value_48 rfl (by decide) ?_
        refine x_aload_n Γ dX2_value_50 rfl rfl ?_
        refine x_iload_n Γ dX2_value_51 rfl rfl ?_
        refine c_putT Γ 4 8 htn (fun _ => by simp [tFs, mU]) (by decide) (by decide) k_270 rfl rfl dX2_value_52 ?_
        refine x_iload Γ dX2_value_55 rfl ?_
        refine x_ends ?_
        refine x_iret Γ rfl rfl (fun w2 e2 => ?_) ⟨Nat.le_of_ble_eq_true rfl, Nat.le_of_ble_eq_true rfl⟩ dX2_value_57
        unfold gValue
        rw [fin_ok hk, ixn ht]
        exact ⟨⟨hk, rfl⟩, ⟨T, hT.same rfl rfl, e2.1.congr (cEq_1 (by decide) (by decide))⟩, e2.2⟩
      · have hk : kValue A (nI t) v = 3 := by
          unfold kValue
          rw [if_neg (not_not_intro hT1), if_neg (not_not_intro hR), ixn ht, if_pos (show ¬ A 9 t < 5 from fun z => q28.eq c31 ⟨hI.2.2.2.1 t htn, (lt_le (by decide)).mp z⟩)]
        exact x_throw Γ hfl (by decide) k_221 k_13 (show (120, "it is not at a counter") ∈ xStr by simp [xStr]) at_ISE dX2_value_34 dX2_value_37 dX2_value_38 dX2_value_40 dX2_value_43 hout ⟨Nat.le_of_ble_eq_true rfl, Nat.le_of_ble_eq_true rfl⟩ ⟨Nat.le_of_ble_eq_true rfl, Nat.le_of_ble_eq_true rfl⟩ (fun w9 h9 => ⟨Or.inr (Or.inr (⟨rfl, hk⟩)), h9⟩) ⟨Nat.le_of_ble_eq_true rfl, Nat.le_of_ble_eq_true rfl⟩
    · have hk : kValue A (nI t) v = 2 := by
        unfold kValue
        rw [if_neg (not_not_intro hT1), if_pos (fun z => by first | exact absurd c7 (Int32.not_lt.mpr z.1) | exact c14 z.2)]
      exact x_throw Γ hfl (by decide) k_110 k_10 (show (118, "worth is out of range") ∈ xStr by simp [xStr]) at_IAE dX2_value_17 dX2_value_20 dX2_value_21 dX2_value_23 dX2_value_26 hout ⟨Nat.le_of_ble_eq_true rfl, Nat.le_of_ble_eq_true rfl⟩ ⟨Nat.le_of_ble_eq_true rfl, Nat.le_of_ble_eq_true rfl⟩ (fun w9 h9 => ⟨Or.inr (Or.inl (⟨rfl, hk⟩)), h9⟩) ⟨Nat.le_of_ble_eq_true rfl, Nat.le_of_ble_eq_true rfl⟩
set_option maxRecDepth 100000 in
theorem tc_repay {ca th : Nat → Nat} {A : xS} {n : Nat} {L : List Nat} {T : Nat → xTg} {w : xW} (h : CRaw G w ca th (cB A) n L T) (hfl : l.stackTraces = false) {x : Int32} {D : Nat} (hI : pI A n L) (hT : tgI A n D T) (hD : A 4 0 = nI D) (hD1 : D ≤ 1000) : xMetX l G yX2_repay cX2_repay 4 (some .int) ({ frames := 8, cells := 60, slots := 400, locals := 320 } : Room) [.ref (ca 0), .int x] w embI (fun r w' => (kRepay A x = 0 ∧ r = (gRepay A L x).1) ∧ cQ G ca th (gRepay A L x).2.1 n (gRepay A L x).2.2 D w w') (fun E w' => ((E = "java/lang/IndexOutOfBoundsException" ∧ kRepay A x = 1) ∨ (E = "java/lang/IllegalStateException" ∧ kRepay A x = 2)) ∧ cP G ca th (cB A) n L T w w') := by
  refine xMetX_of (by decide) (Nat.le_of_ble_eq_true rfl) ?_
  intro p e s m below meth c Γ hout
  have hn := hI.1.2.1
  have hn5 := hI.1.1
  have hlL : L.length ≤ 24 := Nat.le_trans hI.2.1.1 hn
  have hL : ∀ q ∈ L, q < n := fun q hq => (hI.2.1.2.2 q hq).1
  refine c_in h ?_
  refine x_aload_n Γ dX2_repay_0 rfl rfl ?_
  refine x_iload_n Γ dX2_repay_1 rfl rfl ?_
  refine x_invVX (emb := embA) (ci := 3) (rm := ({ frames := 6, cells := 1, slots := 6, locals := 100 } : Room)) Γ [.int x] (fun w1 r w2 => (∃ t, t < n ∧ x = nI t ∧ r = th t) ∧ cP G ca th (cB A) n L T w1 w2) (fun w1 E w2 => (E = "java/lang/IndexOutOfBoundsException" ∧ ¬ rIn 0 (nI n - 1) x) ∧ cP G ca th (cB A) n L T w1 w2) rfl (fun w1 h1 => t_thingNumbered h1.1 hfl hn) hout (fun w1 E w2 h1 h2 => by obtain ⟨⟨h3, h4⟩, h5⟩ := h2; exact ⟨Or.inl (⟨h3, by unfold kRepay; exact if_pos (show ¬ rIn 0 (A 5 0 - 1) x by rw [hn5]; exact h4)⟩), h5.1, h1.2.tr h5.2⟩) ⟨Nat.le_of_ble_eq_true rfl, Nat.le_of_ble_eq_true rfl⟩ c_self rfl k_375 k_1 k_372 k_374 s_6 hd_X2_thingNumbered ⟨Nat.le_of_ble_eq_true rfl, Nat.le_of_ble_eq_true rfl⟩ ⟨Nat.le_of_ble_eq_true rfl, Nat.le_of_ble_eq_true rfl⟩ (Nat.le_of_ble_eq_true rfl) dX2_repay_2 (fun r => ?_)
  refine c_then (B' := cB A) (L' := L) (T' := T) (fun hq9 => ?_)
  obtain ⟨t, htn, rfl, rfl⟩ := hq9
  have ht : t < 24 := by omega
  have hT1 := aI_toT hI.1 htn
  refine x_astore_n Γ dX2_repay_5 rfl rfl (by decide) ?_
  refine x_aload_n Γ dX2_repay_6 rfl rfl ?_
  refine x_invVN (emb := embI) (ci := 2) (rm := ({ frames := 0, cells := 0, slots := 0, locals := 0 } : Room)) Γ [] (fun w1 r w2 => bq (0 < (cB A) 12 t) r ∧ w2 = w1) rfl (fun w1 h1 => by obtain ⟨b9, g1, g2⟩ := h1.1.2.2.2.2.2 t htn; exact t_hasLoan g1 rfl) (c_thing htn) rfl k_400 k_14 k_397 k_399 s_8 hd_X1_hasLoan ⟨Nat.le_of_ble_eq_true rfl, Nat.le_of_ble_eq_true rfl⟩ ⟨Nat.le_of_ble_eq_true rfl, Nat.le_of_ble_eq_true rfl⟩ (Nat.le_of_ble_eq_true rfl) dX2_repay_7 (fun r => ?_)
  refine m_same (fun q7 => ?_)
  refine x_if_ne (tgt := 23) Γ dX2_repay_10 (by decide) (fun c10 => ?_) (fun c10 => ?_)
  · have hlo : 0 < A 12 t := q7.ne c10
    have hk : kRepay A (nI t) = 0 := by
      unfold kRepay
      rw [if_neg (not_not_intro hT1), ixn ht, if_neg (fun z => by rw [z] at hlo; exact absurd hlo (by decide))]
    obtain ⟨lr, hlr, hl9⟩ := hI.1.2.2.2.2 t ht
    have e13 : cB A 13 t = nI lr := by
      show (if 0 < A 12 t then A 13 t else -1) = _
      rw [if_pos hlo, hl9]
    refine x_aload_n Γ dX2_repay_23 rfl rfl ?_
    refine c_getT Γ 9 htn (fun _ => rfl) (by decide) k_279 dX2_repay_24 ?_
    refine x_istore_n Γ dX2_repay_27 rfl rfl (by decide) ?_
    refine x_aload_n Γ dX2_repay_28 rfl rfl ?_
    refine x_aload_n Γ dX2_repay_29 rfl rfl ?_
    refine c_getT Γ 10 htn (fun _ => rfl) (by decide) k_281 dX2_repay_30 ?_
    refine x_iload_n Γ dX2_repay_33 rfl rfl ?_
    rw [e13]
    refine x_invV (emb := embV) (ci := 3) (rm := ({ frames := 1, cells := 0, slots := 0, locals := 40 } : Room)) Γ [.int (nI lr), .int (cB A 12 t)] (fun w1 _ w2 => cP G ca th (mU (cB A) 2 lr (cB A 2 lr + cB A 12 t)) n (L) (T) w1 w2) rfl (fun w1 h1 => by have h9 := t_putPurse (l := l) (x := nI lr) (z := cB A 12 t) h1.1; rw [fPut_in hlr] at h9; exact h9) c_self rfl k_457 k_1 k_454 k_456 s_14 hd_X2_putIntoPurse ⟨Nat.le_of_ble_eq_true rfl, Nat.le_of_ble_eq_true rfl⟩ ⟨Nat.le_of_ble_eq_true rfl, Nat.le_of_ble_eq_true rfl⟩ (Nat.le_of_ble_eq_true rfl) dX2_repay_34 (fun _ => ?_)
    refine c_then0 (B' := mU (cB A) 2 lr (cB A 2 lr + cB A 12 t)) (L' := L) (T' := T) ?_
    refine x_aload_n Γ dX2_repay_37 rfl rfl ?_
    refine x_invVN (emb := embV) (ci := 2) (rm := ({ frames := 0, cells := 0, slots := 0, locals := 0 } : Room)) Γ [] (fun w1 _ w2 => cP G ca th (mU (mU (mU (mU (cB A) 2 lr (cB A 2 lr + cB A 12 t)) 13 t (-1)) 12 t 0) 14 t (-1)) n (L) (T) w1 w2) rfl (fun w1 h1 => t_cendLoan h1.1 htn) (c_thing htn) rfl k_469 k_14 k_466 k_468 s_15 hd_X1_endLoan ⟨Nat.le_of_ble_eq_true rfl, Nat.le_of_ble_eq_true rfl⟩ ⟨Nat.le_of_ble_eq_true rfl, Nat.le_of_ble_eq_true rfl⟩ (Nat.le_of_ble_eq_true rfl) dX2_repay_38 (fun _ => ?_)
    refine c_then0 (B' := mU (mU (mU (mU (cB A) 2 lr (cB A 2 lr + cB A 12 t)) 13 t (-1)) 12 t 0) 14 t (-1)) (L' := L) (T' := T) ?_
    refine x_iload_n Γ dX2_repay_41 rfl rfl ?_
    have hce : cEq n (mU (mU (mU (mU (cB A) 2 lr (cB A 2 lr + cB A 12 t)) 13 t (-1)) 12 t 0) 14 t (-1)) (cB (bRepay (mU A 19 0 0) t)) := by
      unfold bRepay
      rw [show mU A 19 0 0 13 t = nI lr from hl9, ixn (by omega)]
      refine ⟨?_, ?_, ⟨?_, ?_, ?_⟩, fun i hi => ⟨?_, ?_, ?_, ?_, ?_, ?_, ?_, ?_, ?_, ?_⟩⟩
      all_goals first | rfl | (simp [mU, cB]; done) | (by_cases e : i = t <;> simp [mU, cB, e])
    refine x_ends ?_
    refine x_iret Γ rfl rfl (fun w2 e2 => ?_) ⟨Nat.le_of_ble_eq_true rfl, Nat.le_of_ble_eq_true rfl⟩ dX2_repay_42
    unfold gRepay
    rw [fin_ok hk, ixn ht]
    exact ⟨⟨hk, rfl⟩, ⟨T, hT.same rfl rfl, e2.1.congr (hce)⟩, e2.2⟩
  · have hk : kRepay A (nI t) = 2 := by
      unfold kRepay
      rw [if_neg (not_not_intro hT1), ixn ht, if_pos ((hI.2.2.2.2.2.1 t htn).elim id (fun z => absurd z.1 (q7.eq c10)))]
    exact x_throw Γ hfl (by decide) k_221 k_13 (show (139, "it has no loan") ∈ xStr by simp [xStr]) at_ISE dX2_repay_13 dX2_repay_16 dX2_repay_17 dX2_repay_19 dX2_repay_22 hout ⟨Nat.le_of_ble_eq_true rfl, Nat.le_of_ble_eq_true rfl⟩ ⟨Nat.le_of_ble_eq_true rfl, Nat.le_of_ble_eq_true rfl⟩ (fun w9 h9 => ⟨Or.inr (⟨rfl, hk⟩), h9⟩) ⟨Nat.le_of_ble_eq_true rfl, Nat.le_of_ble_eq_true rfl⟩
set_option maxRecDepth 100000 in
theorem tc_doubt {ca th : Nat → Nat} {A : xS} {n : Nat} {L : List Nat} {T : Nat → xTg} {w : xW} (h : CRaw G w ca th (cB A) n L T) (hfl : l.stackTraces = false) {x : Int32} {D : Nat} (hI : pI A n L) (hT : tgI A n D T) (hD : A 4 0 = nI D) (hD1 : D ≤ 1000) : xMetX l G yX2_doubt cX2_doubt 3 (some .int) ({ frames := 8, cells := 60, slots := 400, locals := 320 } : Room) [.ref (ca 0), .int x] w embI (fun r w' => (kDoubt A x = 0 ∧ r = (gDoubt A L x).1) ∧ cQ G ca th (gDoubt A L x).2.1 n (gDoubt A L x).2.2 D w w') (fun E w' => ((E = "java/lang/IndexOutOfBoundsException" ∧ kDoubt A x = 1) ∨ (E = "java/lang/IllegalStateException" ∧ kDoubt A x = 2)) ∧ cP G ca th (cB A) n L T w w') := by
  refine xMetX_of (by decide) (Nat.le_of_ble_eq_true rfl) ?_
  intro p e s m below meth c Γ hout
  have hn := hI.1.2.1
  have hn5 := hI.1.1
  have hlL : L.length ≤ 24 := Nat.le_trans hI.2.1.1 hn
  have hL : ∀ q ∈ L, q < n := fun q hq => (hI.2.1.2.2 q hq).1
  refine c_in h ?_
  refine x_aload_n Γ dX2_doubt_0 rfl rfl ?_
  refine x_iload_n Γ dX2_doubt_1 rfl rfl ?_
  refine x_invVX (emb := embA) (ci := 3) (rm := ({ frames := 6, cells := 1, slots := 6, locals := 100 } : Room)) Γ [.int x] (fun w1 r w2 => (∃ t, t < n ∧ x = nI t ∧ r = th t) ∧ cP G ca th (cB A) n L T w1 w2) (fun w1 E w2 => (E = "java/lang/IndexOutOfBoundsException" ∧ ¬ rIn 0 (nI n - 1) x) ∧ cP G ca th (cB A) n L T w1 w2) rfl (fun w1 h1 => t_thingNumbered h1.1 hfl hn) hout (fun w1 E w2 h1 h2 => by obtain ⟨⟨h3, h4⟩, h5⟩ := h2; exact ⟨Or.inl (⟨h3, by unfold kDoubt; exact if_pos (show ¬ rIn 0 (A 5 0 - 1) x by rw [hn5]; exact h4)⟩), h5.1, h1.2.tr h5.2⟩) ⟨Nat.le_of_ble_eq_true rfl, Nat.le_of_ble_eq_true rfl⟩ c_self rfl k_375 k_1 k_372 k_374 s_6 hd_X2_thingNumbered ⟨Nat.le_of_ble_eq_true rfl, Nat.le_of_ble_eq_true rfl⟩ ⟨Nat.le_of_ble_eq_true rfl, Nat.le_of_ble_eq_true rfl⟩ (Nat.le_of_ble_eq_true rfl) dX2_doubt_2 (fun r => ?_)
  refine c_then (B' := cB A) (L' := L) (T' := T) (fun hq9 => ?_)
  obtain ⟨t, htn, rfl, rfl⟩ := hq9
  have ht : t < 24 := by omega
  have hT1 := aI_toT hI.1 htn
  refine x_astore_n Γ dX2_doubt_5 rfl rfl (by decide) ?_
  refine x_aload_n Γ dX2_doubt_6 rfl rfl ?_
  refine x_invVN (emb := embI) (ci := 2) (rm := ({ frames := 0, cells := 0, slots := 0, locals := 0 } : Room)) Γ [] (fun w1 r w2 => bq (0 < (cB A) 12 t) r ∧ w2 = w1) rfl (fun w1 h1 => by obtain ⟨b9, g1, g2⟩ := h1.1.2.2.2.2.2 t htn; exact t_hasLoan g1 rfl) (c_thing htn) rfl k_400 k_14 k_397 k_399 s_8 hd_X1_hasLoan ⟨Nat.le_of_ble_eq_true rfl, Nat.le_of_ble_eq_true rfl⟩ ⟨Nat.le_of_ble_eq_true rfl, Nat.le_of_ble_eq_true rfl⟩ (Nat.le_of_ble_eq_true rfl) dX2_doubt_7 (fun r => ?_)
  refine m_same (fun q7 => ?_)
  refine x_if_eq (tgt := 20) Γ dX2_doubt_10 (by decide) (fun c10 => ?_) (fun c10 => ?_)
  · have hk : kDoubt A (nI t) = 2 := by
      unfold kDoubt
      rw [if_neg (not_not_intro hT1), ixn ht, if_pos (by first | exact Or.inl ((hI.2.2.2.2.2.1 t htn).elim id (fun z => absurd z.1 (q7.eq c10))) | exact Or.inr (q14.ne c17))]
    exact x_throw Γ hfl (by decide) k_221 k_13 (show (153, "it has no loan, or that was doubted") ∈ xStr by simp [xStr]) at_ISE dX2_doubt_20 dX2_doubt_23 dX2_doubt_24 dX2_doubt_26 dX2_doubt_29 hout ⟨Nat.le_of_ble_eq_true rfl, Nat.le_of_ble_eq_true rfl⟩ ⟨Nat.le_of_ble_eq_true rfl, Nat.le_of_ble_eq_true rfl⟩ (fun w9 h9 => ⟨Or.inr (⟨rfl, hk⟩), h9⟩) ⟨Nat.le_of_ble_eq_true rfl, Nat.le_of_ble_eq_true rfl⟩
  · refine x_aload_n Γ dX2_doubt_13 rfl rfl ?_
    refine x_invVN (emb := embI) (ci := 2) (rm := ({ frames := 0, cells := 0, slots := 0, locals := 0 } : Room)) Γ [] (fun w1 r w2 => bq (¬ (cB A) 14 t = -1) r ∧ w2 = w1) rfl (fun w1 h1 => by obtain ⟨b9, g1, g2⟩ := h1.1.2.2.2.2.2 t htn; exact t_isCalled g1 rfl) (c_thing htn) rfl k_480 k_14 k_477 k_479 s_16 hd_X1_isCalled ⟨Nat.le_of_ble_eq_true rfl, Nat.le_of_ble_eq_true rfl⟩ ⟨Nat.le_of_ble_eq_true rfl, Nat.le_of_ble_eq_true rfl⟩ (Nat.le_of_ble_eq_true rfl) dX2_doubt_14 (fun r => ?_)
    refine m_same (fun q14 => ?_)
    refine x_if_eq (tgt := 30) Γ dX2_doubt_17 (by decide) (fun c17 => ?_) (fun c17 => ?_)
    · have hlo : 0 < A 12 t := q7.ne c10
      have hk : kDoubt A (nI t) = 0 := by
        unfold kDoubt
        rw [if_neg (not_not_intro hT1), ixn ht, if_neg (fun z => z.elim (fun z => by rw [z] at hlo; exact absurd hlo (by decide)) (fun z => q14.eq c17 z))]
      refine x_aload_n Γ dX2_doubt_30 rfl rfl ?_
      refine x_aload_n Γ dX2_doubt_31 rfl rfl ?_
      refine c_this Γ 5 rfl (by decide) k_63 rfl dX2_doubt_32 ?_
      refine x_iconst (v := 3) Γ dX2_doubt_35 (by decide) ?_
      refine x_iadd Γ dX2_doubt_36 ?_
      refine c_putT Γ 11 14 htn (fun _ => by simp [tFs, mU]) (by decide) (by decide) k_283 rfl rfl dX2_doubt_37 ?_
      refine x_aload_n Γ dX2_doubt_40 rfl rfl ?_
      refine c_getT (v := .int (A 4 0 + 3)) Γ 11 htn (fun _ => by show some (Value.int (mU (cB A) 14 t (cB A 4 0 + 3) 14 t)) = _; rw [mU_eq]; rfl) (by decide) k_283 dX2_doubt_41 ?_
      refine x_ends ?_
      refine x_iret Γ rfl rfl (fun w2 e2 => ?_) ⟨Nat.le_of_ble_eq_true rfl, Nat.le_of_ble_eq_true rfl⟩ dX2_doubt_44
      unfold gDoubt
      rw [fin_ok hk, ixn ht]
      exact ⟨⟨hk, rfl⟩, ⟨T, hT.same rfl rfl, e2.1.congr (cEq_1 (by decide) (by decide))⟩, e2.2⟩
    · have hk : kDoubt A (nI t) = 2 := by
        unfold kDoubt
        rw [if_neg (not_not_intro hT1), ixn ht, if_pos (by first | exact Or.inl ((hI.2.2.2.2.2.1 t htn).elim id (fun z => absurd z.1 (q7.eq c10))) | exact Or.inr (q14.ne c17))]
      exact x_throw Γ hfl (by decide) k_221 k_13 (show (153, "it has no loan, or that was doubted") ∈ xStr by simp [xStr]) at_ISE dX2_doubt_20 dX2_doubt_23 dX2_doubt_24 dX2_doubt_26 dX2_doubt_29 hout ⟨Nat.le_of_ble_eq_true rfl, Nat.le_of_ble_eq_true rfl⟩ ⟨Nat.le_of_ble_eq_true rfl, Nat.le_of_ble_eq_true rfl⟩ (fun w9 h9 => ⟨Or.inr (⟨rfl, hk⟩), h9⟩) ⟨Nat.le_of_ble_eq_true rfl, Nat.le_of_ble_eq_true rfl⟩
set_option maxRecDepth 100000 in
theorem tc_load {ca th : Nat → Nat} {A : xS} {n : Nat} {L : List Nat} {T : Nat → xTg} {w : xW} (h : CRaw G w ca th (cB A) n L T) (hfl : l.stackTraces = false) {c0 : Int32} {D : Nat} (hI : pI A n L) (hT : tgI A n D T) (hD : A 4 0 = nI D) (hD1 : D ≤ 1000) : xMetX l G yX2_load cX2_load 2 (some .int) ({ frames := 8, cells := 60, slots := 400, locals := 320 } : Room) [.ref (ca 0), .int c0] w embI (fun r w' => (kLoad c0 = 0 ∧ r = (gLoad A L c0).1) ∧ cQ G ca th (gLoad A L c0).2.1 n (gLoad A L c0).2.2 D w w') (fun E w' => ((E = "java/lang/IllegalArgumentException" ∧ kLoad c0 = 1)) ∧ cP G ca th (cB A) n L T w w') := by
  refine xMetX_of (by decide) (Nat.le_of_ble_eq_true rfl) ?_
  intro p e s m below meth c Γ hout
  have hn := hI.1.2.1
  have hn5 := hI.1.1
  have hlL : L.length ≤ 24 := Nat.le_trans hI.2.1.1 hn
  have hL : ∀ q ∈ L, q < n := fun q hq => (hI.2.1.2.2 q hq).1
  refine c_in h ?_
  refine x_iload_n Γ dX2_load_0 rfl rfl ?_
  refine x_invS (emb := embI) (rm := ({ frames := 0, cells := 0, slots := 0, locals := 0 } : Room)) Γ [.int (c0)] (fun w1 r w2 => bq (rIn 0 4 (c0)) r ∧ w2 = w1) rfl (fun w1 h1 => t2_isCounter) k_106 k_1 k_104 k_105 hd_X2_isCounter ⟨Nat.le_of_ble_eq_true rfl, Nat.le_of_ble_eq_true rfl⟩ ⟨Nat.le_of_ble_eq_true rfl, Nat.le_of_ble_eq_true rfl⟩ (Nat.le_of_ble_eq_true rfl) dX2_load_1 (fun r => ?_)
  refine m_same (fun q1 => ?_)
  refine x_if_ne (tgt := 17) Γ dX2_load_4 (by decide) (fun c4 => ?_) (fun c4 => ?_)
  · have hk : kLoad c0 = 0 := if_pos (q1.ne c4)
    refine x_aload_n Γ dX2_load_17 rfl rfl ?_
    refine x_iload_n Γ dX2_load_18 rfl rfl ?_
    refine x_invV (emb := embI) (ci := 3) (rm := ({ frames := 3, cells := 0, slots := 0, locals := 80 } : Room)) Γ [.int c0] (fun w1 r w2 => r = ldF A c0 n ∧ cP G ca th (cB A) n (L) (T) w1 w2) rfl (fun w1 h1 => by have h9 := t_sizesAt (l := l) (x := c0) h1.1 hn; rw [ldF_cB] at h9; exact h9) c_self rfl k_205 k_1 k_202 k_204 s_2 hd_X2_sizesAt ⟨Nat.le_of_ble_eq_true rfl, Nat.le_of_ble_eq_true rfl⟩ ⟨Nat.le_of_ble_eq_true rfl, Nat.le_of_ble_eq_true rfl⟩ (Nat.le_of_ble_eq_true rfl) dX2_load_19 (fun r => ?_)
    refine c_then (B' := cB A) (L' := L) (T' := T) (fun e9 => ?_)
    subst e9
    refine x_ends ?_
    refine x_iret Γ rfl rfl (fun w2 e2 => ?_) ⟨Nat.le_of_ble_eq_true rfl, Nat.le_of_ble_eq_true rfl⟩ dX2_load_22
    unfold gLoad
    rw [fin_ok hk, hn5, ixn2 (by omega)]
    exact ⟨⟨hk, rfl⟩, ⟨T, hT.same rfl rfl, e2.1.congr (cEq_thr A n 0)⟩, e2.2⟩
  · have hk : kLoad c0 = 1 := by
      unfold kLoad
      exact if_neg (q1.eq c4)
    exact x_throw Γ hfl (by decide) k_110 k_10 (show (105, "counter is out of range") ∈ xStr by simp [xStr]) at_IAE dX2_load_7 dX2_load_10 dX2_load_11 dX2_load_13 dX2_load_16 hout ⟨Nat.le_of_ble_eq_true rfl, Nat.le_of_ble_eq_true rfl⟩ ⟨Nat.le_of_ble_eq_true rfl, Nat.le_of_ble_eq_true rfl⟩ (fun w9 h9 => ⟨⟨rfl, hk⟩, h9⟩) ⟨Nat.le_of_ble_eq_true rfl, Nat.le_of_ble_eq_true rfl⟩
set_option maxRecDepth 100000 in
theorem tc_purse {ca th : Nat → Nat} {A : xS} {n : Nat} {L : List Nat} {T : Nat → xTg} {w : xW} (h : CRaw G w ca th (cB A) n L T) (hfl : l.stackTraces = false) {x : Int32} {D : Nat} (hI : pI A n L) (hT : tgI A n D T) (hD : A 4 0 = nI D) (hD1 : D ≤ 1000) : xMetX l G yX2_purse cX2_purse 2 (some .int) ({ frames := 8, cells := 60, slots := 400, locals := 320 } : Room) [.ref (ca 0), .int x] w embI (fun r w' => (kPurse x = 0 ∧ r = (gPurse A L x).1) ∧ cQ G ca th (gPurse A L x).2.1 n (gPurse A L x).2.2 D w w') (fun E w' => ((E = "java/lang/IllegalArgumentException" ∧ kPurse x = 1)) ∧ cP G ca th (cB A) n L T w w') := by
  refine xMetX_of (by decide) (Nat.le_of_ble_eq_true rfl) ?_
  intro p e s m below meth c Γ hout
  have hn := hI.1.2.1
  have hn5 := hI.1.1
  have hlL : L.length ≤ 24 := Nat.le_trans hI.2.1.1 hn
  have hL : ∀ q ∈ L, q < n := fun q hq => (hI.2.1.2.2 q hq).1
  refine c_in h ?_
  refine x_iload_n Γ dX2_purse_0 rfl rfl ?_
  refine x_invS (emb := embI) (rm := ({ frames := 0, cells := 0, slots := 0, locals := 0 } : Room)) Γ [.int (x)] (fun w1 r w2 => bq (rIn 0 7 (x)) r ∧ w2 = w1) rfl (fun w1 h1 => t2_isPerson) k_196 k_1 k_194 k_195 hd_X2_isPerson ⟨Nat.le_of_ble_eq_true rfl, Nat.le_of_ble_eq_true rfl⟩ ⟨Nat.le_of_ble_eq_true rfl, Nat.le_of_ble_eq_true rfl⟩ (Nat.le_of_ble_eq_true rfl) dX2_purse_1 (fun r => ?_)
  refine m_same (fun q1 => ?_)
  refine x_if_ne (tgt := 17) Γ dX2_purse_4 (by decide) (fun c4 => ?_) (fun c4 => ?_)
  · have hk : kPurse x = 0 := if_pos (q1.ne c4)
    obtain ⟨i, hi, rfl⟩ := rIn_nat (M := 7) (n := 7) (by decide) (q1.ne c4)
    refine x_aload_n Γ dX2_purse_17 rfl rfl ?_
    refine c_this Γ 1 rfl (by decide) k_59 rfl dX2_purse_18 ?_
    refine x_iload_n Γ dX2_purse_21 rfl rfl ?_
    refine c_ald (jj := 2) Γ rfl (Or.inr ⟨rfl, rfl, by omega⟩) dX2_purse_22 ?_
    refine x_ends ?_
    refine x_iret Γ rfl rfl (fun w2 e2 => ?_) ⟨Nat.le_of_ble_eq_true rfl, Nat.le_of_ble_eq_true rfl⟩ dX2_purse_23
    unfold gPurse
    rw [fin_ok hk, ixn (t := i) (by omega)]
    exact ⟨⟨hk, rfl⟩, ⟨T, hT.same rfl rfl, e2.1.congr (cEq_thr A n 0)⟩, e2.2⟩
  · have hk : kPurse x = 1 := by
      unfold kPurse
      exact if_neg (q1.eq c4)
    exact x_throw Γ hfl (by decide) k_110 k_10 (show (174, "person is out of range") ∈ xStr by simp [xStr]) at_IAE dX2_purse_7 dX2_purse_10 dX2_purse_11 dX2_purse_13 dX2_purse_16 hout ⟨Nat.le_of_ble_eq_true rfl, Nat.le_of_ble_eq_true rfl⟩ ⟨Nat.le_of_ble_eq_true rfl, Nat.le_of_ble_eq_true rfl⟩ (fun w9 h9 => ⟨⟨rfl, hk⟩, h9⟩) ⟨Nat.le_of_ble_eq_true rfl, Nat.le_of_ble_eq_true rfl⟩
end XC7
end
section
section XC8
theorem getD_app (R : List Nat) (t j : Nat) (hj : j < R.length + 1) : (R ++ [t]).getD j 0 = if j = R.length then t else R.getD j 0 := by
  rw [List.getD_eq_getElem?_getD, List.getD_eq_getElem?_getD]
  by_cases e : j = R.length
  · subst e
    rw [if_pos rfl, List.getElem?_append_right (Nat.le_refl _), Nat.sub_self]
    rfl
  · rw [if_neg e, List.getElem?_append_left (by omega)]
variable {l : Launch} {G : xG}
set_option maxRecDepth 100000 in
theorem tc_day {ca th : Nat → Nat} {A : xS} {n : Nat} {L : List Nat} {T : Nat → xTg} {w : xW} (h : CRaw G w ca th (cB A) n L T) {D : Nat} (hI : pI A n L) (hT : tgI A n D T) (hD : A 4 0 = nI D) (hD1 : D ≤ 1000) : xMet l G yX2_day cX2_day 1 (some .int) ({ frames := 1, cells := 0, slots := 0, locals := 40 } : Room) [.ref (ca 0)] w embI (fun r w' => r = (g0 4 A L).1 ∧ cQ G ca th (g0 4 A L).2.1 n (g0 4 A L).2.2 D w w') := by
  refine xMet_of (by decide) (Nat.le_of_ble_eq_true rfl) ?_
  intro p e s m below meth c Γ hnm
  refine c_in h ?_
  refine x_aload_n Γ dX2_day_0 rfl rfl ?_
  refine c_this Γ 5 rfl (by decide) k_63 rfl dX2_day_1 ?_
  exact x_iret Γ rfl rfl (fun w2 e2 => ⟨rfl, ⟨_, hT.same rfl rfl, e2.1.congr (cEq_thr A n 0)⟩, e2.2⟩) ⟨Nat.le_of_ble_eq_true rfl, Nat.le_of_ble_eq_true rfl⟩ dX2_day_4
set_option maxRecDepth 100000 in
theorem tc_taken {ca th : Nat → Nat} {A : xS} {n : Nat} {L : List Nat} {T : Nat → xTg} {w : xW} (h : CRaw G w ca th (cB A) n L T) {D : Nat} (hI : pI A n L) (hT : tgI A n D T) (hD : A 4 0 = nI D) (hD1 : D ≤ 1000) : xMet l G yX2_taken cX2_taken 1 (some .int) ({ frames := 1, cells := 0, slots := 0, locals := 40 } : Room) [.ref (ca 0)] w embI (fun r w' => r = (g0 3 A L).1 ∧ cQ G ca th (g0 3 A L).2.1 n (g0 3 A L).2.2 D w w') := by
  refine xMet_of (by decide) (Nat.le_of_ble_eq_true rfl) ?_
  intro p e s m below meth c Γ hnm
  refine c_in h ?_
  refine x_aload_n Γ dX2_taken_0 rfl rfl ?_
  refine c_this Γ 6 rfl (by decide) k_64 rfl dX2_taken_1 ?_
  exact x_iret Γ rfl rfl (fun w2 e2 => ⟨rfl, ⟨_, hT.same rfl rfl, e2.1.congr (cEq_thr A n 0)⟩, e2.2⟩) ⟨Nat.le_of_ble_eq_true rfl, Nat.le_of_ble_eq_true rfl⟩ dX2_taken_4
set_option maxRecDepth 100000 in
theorem tc_things {ca th : Nat → Nat} {A : xS} {n : Nat} {L : List Nat} {T : Nat → xTg} {w : xW} (h : CRaw G w ca th (cB A) n L T) {D : Nat} (hI : pI A n L) (hT : tgI A n D T) (hD : A 4 0 = nI D) (hD1 : D ≤ 1000) : xMet l G yX2_things cX2_things 1 (some .int) ({ frames := 1, cells := 0, slots := 0, locals := 40 } : Room) [.ref (ca 0)] w embI (fun r w' => r = (g0 5 A L).1 ∧ cQ G ca th (g0 5 A L).2.1 n (g0 5 A L).2.2 D w w') := by
  refine xMet_of (by decide) (Nat.le_of_ble_eq_true rfl) ?_
  intro p e s m below meth c Γ hnm
  refine c_in h ?_
  refine x_aload_n Γ dX2_things_0 rfl rfl ?_
  refine c_this Γ 2 rfl (by decide) k_60 rfl dX2_things_1 ?_
  refine x_invV (emb := embI) (ci := 0) (rm := ({ frames := 0, cells := 0, slots := 0, locals := 0 } : Room)) Γ [] (fun w1 r w2 => r = nI n ∧ w2 = w1) rfl (fun w1 h1 => t_size h1.1.2.2.2.1) c_lst3 rfl k_91 k_4 k_88 k_89 k_90 hd_Jx4a65c_size_8abf5 ⟨Nat.le_of_ble_eq_true rfl, Nat.le_of_ble_eq_true rfl⟩ ⟨Nat.le_of_ble_eq_true rfl, Nat.le_of_ble_eq_true rfl⟩ (Nat.le_of_ble_eq_true rfl) dX2_things_4 (fun r => ?_)
  refine m_same (fun e9 => ?_)
  subst e9
  exact x_iret Γ rfl rfl (fun w2 e2 => ⟨hI.1.1.symm, ⟨_, hT.same rfl rfl, e2.1.congr (cEq_thr A n 0)⟩, e2.2⟩) ⟨Nat.le_of_ble_eq_true rfl, Nat.le_of_ble_eq_true rfl⟩ dX2_things_7
set_option maxRecDepth 100000 in
theorem tc_whereOn {ca th : Nat → Nat} {A : xS} {n : Nat} {L : List Nat} {T : Nat → xTg} {w : xW} (h : CRaw G w ca th (cB A) n L T) (hfl : l.stackTraces = false) {x v : Int32} {D : Nat} (hI : pI A n L) (hT : tgI A n D T) (hD : A 4 0 = nI D) (hD1 : D ≤ 1000) : xMetX l G yX2_whereOn cX2_whereOn 4 (some .int) ({ frames := 8, cells := 60, slots := 400, locals := 320 } : Room) [.ref (ca 0), .int x, .int v] w embI (fun r w' => (kWhereOn A x v = 0 ∧ r = (gWhereOn A L x v).1) ∧ cQ G ca th (gWhereOn A L x v).2.1 n (gWhereOn A L x v).2.2 D w w') (fun E w' => ((E = "java/lang/IndexOutOfBoundsException" ∧ kWhereOn A x v = 1) ∨ (E = "java/lang/IllegalArgumentException" ∧ kWhereOn A x v = 2)) ∧ cP G ca th (cB A) n L T w w') := by
  refine xMetX_of (by decide) (Nat.le_of_ble_eq_true rfl) ?_
  intro p e s m below meth c Γ hout
  have hn := hI.1.2.1
  have hn5 := hI.1.1
  have hlL : L.length ≤ 24 := Nat.le_trans hI.2.1.1 hn
  have hL : ∀ q ∈ L, q < n := fun q hq => (hI.2.1.2.2 q hq).1
  refine c_in h ?_
  refine x_aload_n Γ dX2_whereOn_0 rfl rfl ?_
  refine x_iload_n Γ dX2_whereOn_1 rfl rfl ?_
  refine x_invVX (emb := embA) (ci := 3) (rm := ({ frames := 6, cells := 1, slots := 6, locals := 100 } : Room)) Γ [.int x] (fun w1 r w2 => (∃ t, t < n ∧ x = nI t ∧ r = th t) ∧ cP G ca th (cB A) n L T w1 w2) (fun w1 E w2 => (E = "java/lang/IndexOutOfBoundsException" ∧ ¬ rIn 0 (nI n - 1) x) ∧ cP G ca th (cB A) n L T w1 w2) rfl (fun w1 h1 => t_thingNumbered h1.1 hfl hn) hout (fun w1 E w2 h1 h2 => by obtain ⟨⟨h3, h4⟩, h5⟩ := h2; exact ⟨Or.inl (⟨h3, by unfold kWhereOn; exact if_pos (show ¬ rIn 0 (A 5 0 - 1) x by rw [hn5]; exact h4)⟩), h5.1, h1.2.tr h5.2⟩) ⟨Nat.le_of_ble_eq_true rfl, Nat.le_of_ble_eq_true rfl⟩ c_self rfl k_375 k_1 k_372 k_374 s_6 hd_X2_thingNumbered ⟨Nat.le_of_ble_eq_true rfl, Nat.le_of_ble_eq_true rfl⟩ ⟨Nat.le_of_ble_eq_true rfl, Nat.le_of_ble_eq_true rfl⟩ (Nat.le_of_ble_eq_true rfl) dX2_whereOn_2 (fun r => ?_)
  refine c_then (B' := cB A) (L' := L) (T' := T) (fun hq9 => ?_)
  obtain ⟨t, htn, rfl, rfl⟩ := hq9
  have ht : t < 24 := by omega
  have hT1 := aI_toT hI.1 htn
  refine x_astore_n Γ dX2_whereOn_5 rfl rfl (by decide) ?_
  refine x_iload_n Γ dX2_whereOn_6 rfl rfl ?_
  refine x_if_lt (tgt := 18) Γ dX2_whereOn_7 (by decide) (fun c7 => ?_) (fun c7 => ?_)
  · have hk : kWhereOn A (nI t) v = 2 := by
      unfold kWhereOn
      rw [if_neg (not_not_intro hT1), if_pos (fun z => absurd c7 (Int32.not_lt.mpr z.1))]
    exact x_throw Γ hfl (by decide) k_110 k_10 (show (165, "day is out of range") ∈ xStr by simp [xStr]) at_IAE dX2_whereOn_18 dX2_whereOn_21 dX2_whereOn_22 dX2_whereOn_24 dX2_whereOn_27 hout ⟨Nat.le_of_ble_eq_true rfl, Nat.le_of_ble_eq_true rfl⟩ ⟨Nat.le_of_ble_eq_true rfl, Nat.le_of_ble_eq_true rfl⟩ (fun w9 h9 => ⟨Or.inr (⟨rfl, hk⟩), h9⟩) ⟨Nat.le_of_ble_eq_true rfl, Nat.le_of_ble_eq_true rfl⟩
  · refine x_iload_n Γ dX2_whereOn_10 rfl rfl ?_
    refine x_aload_n Γ dX2_whereOn_11 rfl rfl ?_
    refine c_this Γ 5 rfl (by decide) k_63 rfl dX2_whereOn_12 ?_
    refine x_icmp_le (tgt := 28) Γ dX2_whereOn_15 (by decide) (fun c15 => ?_) (fun c15 => ?_)
    · have hR : rIn 0 (A 4 0) v := ⟨Int32.not_lt.mp c7, c15⟩
      have hk : kWhereOn A (nI t) v = 0 := by
        unfold kWhereOn
        rw [if_neg (not_not_intro hT1), if_neg (not_not_intro hR)]
      obtain ⟨d, hdD, rfl⟩ : ∃ d, d ≤ D ∧ v = nI d := rIn_nat (nI_int (by omega)) (by rw [hD] at hR; exact hR)
      refine x_iload_n Γ dX2_whereOn_28 rfl rfl ?_
      refine x_aload_n Γ dX2_whereOn_29 rfl rfl ?_
      refine c_this Γ 5 rfl (by decide) k_63 rfl dX2_whereOn_30 ?_
      refine x_icmp_ne (tgt := 43) Γ dX2_whereOn_33 (by decide) (fun c33 => ?_) (fun c33 => ?_)
      · refine x_aload_n Γ dX2_whereOn_43 rfl rfl ?_
        refine x_iload_n Γ dX2_whereOn_44 rfl rfl ?_
        refine x_invVN (emb := embI) (ci := 2) (rm := ({ frames := 0, cells := 0, slots := 0, locals := 0 } : Room)) Γ [.int (nI d)] (fun w1 r w2 => r = lkp (nI d) (T t) ∧ w2 = w1) rfl (fun w1 h1 => by obtain ⟨b9, g1, g2⟩ := h1.1.2.2.2.2.2 t htn; exact t_placeAt g1 rfl g2) (c_thing htn) rfl k_534 k_14 k_531 k_533 s_23 hd_X1_placeAtBeginningOf ⟨Nat.le_of_ble_eq_true rfl, Nat.le_of_ble_eq_true rfl⟩ ⟨Nat.le_of_ble_eq_true rfl, Nat.le_of_ble_eq_true rfl⟩ (Nat.le_of_ble_eq_true rfl) dX2_whereOn_45 (fun r => ?_)
        refine m_same (fun e9 => ?_)
        subst e9
        refine x_ends ?_
        refine x_iret Γ rfl rfl (fun w2 e2 => ?_) ⟨Nat.le_of_ble_eq_true rfl, Nat.le_of_ble_eq_true rfl⟩ dX2_whereOn_48
        unfold gWhereOn
        rw [fin_ok hk, ixn ht, if_neg (show ¬ nI d = A 4 0 from c33), show (24 : Int32) * nI d + nI t = nI (24 * d + t) by rw [show (24 : Int32) = nI 24 from rfl, nI_mul, nI_add], ixn2 (by omega)]
        exact ⟨⟨hk, (hT t htn).2.2 d hdD⟩, ⟨T, hT.same rfl rfl, e2.1.congr (cEq_thr A n 0)⟩, e2.2⟩
      · refine x_aload_n Γ dX2_whereOn_36 rfl rfl ?_
        refine c_getT Γ 5 htn (fun _ => rfl) (by decide) k_272 dX2_whereOn_37 ?_
        refine x_goto (tgt := 48) Γ dX2_whereOn_40 (by decide) ?_
        refine x_ends ?_
        refine x_iret Γ rfl rfl (fun w2 e2 => ?_) ⟨Nat.le_of_ble_eq_true rfl, Nat.le_of_ble_eq_true rfl⟩ dX2_whereOn_48
        unfold gWhereOn
        rw [fin_ok hk, ixn ht, if_pos (show nI d = A 4 0 from c33)]
        exact ⟨⟨hk, rfl⟩, ⟨T, hT.same rfl rfl, e2.1.congr (cEq_thr A n 0)⟩, e2.2⟩
    · have hk : kWhereOn A (nI t) v = 2 := by
        unfold kWhereOn
        rw [if_neg (not_not_intro hT1), if_pos (fun z => c15 z.2)]
      exact x_throw Γ hfl (by decide) k_110 k_10 (show (165, "day is out of range") ∈ xStr by simp [xStr]) at_IAE dX2_whereOn_18 dX2_whereOn_21 dX2_whereOn_22 dX2_whereOn_24 dX2_whereOn_27 hout ⟨Nat.le_of_ble_eq_true rfl, Nat.le_of_ble_eq_true rfl⟩ ⟨Nat.le_of_ble_eq_true rfl, Nat.le_of_ble_eq_true rfl⟩ (fun w9 h9 => ⟨Or.inr (⟨rfl, hk⟩), h9⟩) ⟨Nat.le_of_ble_eq_true rfl, Nat.le_of_ble_eq_true rfl⟩
set_option maxRecDepth 100000 in
theorem tc_want {ca th : Nat → Nat} {A : xS} {n : Nat} {L : List Nat} {T : Nat → xTg} {w : xW} (h : CRaw G w ca th (cB A) n L T) (hfl : l.stackTraces = false) {x c0 : Int32} {D : Nat} (hI : pI A n L) (hT : tgI A n D T) (hD : A 4 0 = nI D) (hD1 : D ≤ 1000) : xMetX l G yX2_want cX2_want 4 (some .int) ({ frames := 8, cells := 60, slots := 400, locals := 320 } : Room) [.ref (ca 0), .int x, .int c0] w embI (fun r w' => (kWant A x c0 = 0 ∧ r = (gWant A L x c0).1) ∧ cQ G ca th (gWant A L x c0).2.1 n (gWant A L x c0).2.2 D w w') (fun E w' => ((E = "java/lang/IndexOutOfBoundsException" ∧ kWant A x c0 = 1) ∨ (E = "java/lang/IllegalArgumentException" ∧ kWant A x c0 = 2) ∨ (E = "java/lang/IllegalStateException" ∧ kWant A x c0 = 3)) ∧ cP G ca th (cB A) n L T w w') := by
  refine xMetX_of (by decide) (Nat.le_of_ble_eq_true rfl) ?_
  intro p e s m below meth c Γ hout
  have hn := hI.1.2.1
  have hn5 := hI.1.1
  have hlL : L.length ≤ 24 := Nat.le_trans hI.2.1.1 hn
  have hL : ∀ q ∈ L, q < n := fun q hq => (hI.2.1.2.2 q hq).1
  refine c_in h ?_
  refine x_aload_n Γ dX2_want_0 rfl rfl ?_
  refine x_iload_n Γ dX2_want_1 rfl rfl ?_
  refine x_invVX (emb := embA) (ci := 3) (rm := ({ frames := 6, cells := 1, slots := 6, locals := 100 } : Room)) Γ [.int x] (fun w1 r w2 => (∃ t, t < n ∧ x = nI t ∧ r = th t) ∧ cP G ca th (cB A) n L T w1 w2) (fun w1 E w2 => (E = "java/lang/IndexOutOfBoundsException" ∧ ¬ rIn 0 (nI n - 1) x) ∧ cP G ca th (cB A) n L T w1 w2) rfl (fun w1 h1 => t_thingNumbered h1.1 hfl hn) hout (fun w1 E w2 h1 h2 => by obtain ⟨⟨h3, h4⟩, h5⟩ := h2; exact ⟨Or.inl (⟨h3, by unfold kWant; exact if_pos (show ¬ rIn 0 (A 5 0 - 1) x by rw [hn5]; exact h4)⟩), h5.1, h1.2.tr h5.2⟩) ⟨Nat.le_of_ble_eq_true rfl, Nat.le_of_ble_eq_true rfl⟩ c_self rfl k_375 k_1 k_372 k_374 s_6 hd_X2_thingNumbered ⟨Nat.le_of_ble_eq_true rfl, Nat.le_of_ble_eq_true rfl⟩ ⟨Nat.le_of_ble_eq_true rfl, Nat.le_of_ble_eq_true rfl⟩ (Nat.le_of_ble_eq_true rfl) dX2_want_2 (fun r => ?_)
  refine c_then (B' := cB A) (L' := L) (T' := T) (fun hq9 => ?_)
  obtain ⟨t, htn, rfl, rfl⟩ := hq9
  have ht : t < 24 := by omega
  have hT1 := aI_toT hI.1 htn
  refine x_astore_n Γ dX2_want_5 rfl rfl (by decide) ?_
  refine x_iload_n Γ dX2_want_6 rfl rfl ?_
  refine x_invS (emb := embI) (rm := ({ frames := 0, cells := 0, slots := 0, locals := 0 } : Room)) Γ [.int (c0)] (fun w1 r w2 => bq (rIn 0 4 (c0)) r ∧ w2 = w1) rfl (fun w1 h1 => t2_isCounter) k_106 k_1 k_104 k_105 hd_X2_isCounter ⟨Nat.le_of_ble_eq_true rfl, Nat.le_of_ble_eq_true rfl⟩ ⟨Nat.le_of_ble_eq_true rfl, Nat.le_of_ble_eq_true rfl⟩ (Nat.le_of_ble_eq_true rfl) dX2_want_7 (fun r => ?_)
  refine m_same (fun q7 => ?_)
  refine x_if_ne (tgt := 23) Γ dX2_want_10 (by decide) (fun c10 => ?_) (fun c10 => ?_)
  · have hR : rIn 0 4 c0 := q7.ne c10
    refine x_aload_n Γ dX2_want_23 rfl rfl ?_
    refine x_invVN (emb := embI) (ci := 2) (rm := ({ frames := 1, cells := 0, slots := 0, locals := 40 } : Room)) Γ [] (fun w1 r w2 => bq (rIn 0 4 ((cB A) 9 t)) r ∧ w2 = w1) rfl (fun w1 h1 => by obtain ⟨b9, g1, g2⟩ := h1.1.2.2.2.2.2 t htn; exact t_isAtC g1 rfl) (c_thing htn) rfl k_395 k_14 k_392 k_394 s_7 hd_X1_isAtCounter ⟨Nat.le_of_ble_eq_true rfl, Nat.le_of_ble_eq_true rfl⟩ ⟨Nat.le_of_ble_eq_true rfl, Nat.le_of_ble_eq_true rfl⟩ (Nat.le_of_ble_eq_true rfl) dX2_want_24 (fun r => ?_)
    refine m_same (fun q24 => ?_)
    refine x_if_eq (tgt := 38) Γ dX2_want_27 (by decide) (fun c27 => ?_) (fun c27 => ?_)
    · have hk : kWant A (nI t) c0 = 3 := by
        unfold kWant
        rw [if_neg (not_not_intro hT1), if_neg (not_not_intro hR), ixn ht, if_pos (by first | exact Or.inl (show ¬ A 9 t < 5 from fun z => q24.eq c27 ⟨hI.2.2.2.1 t htn, (lt_le (by decide)).mp z⟩) | exact Or.inr c35)]
      exact x_throw Γ hfl (by decide) k_221 k_13 (show (110, "it is not at a counter, or is at this one") ∈ xStr by simp [xStr]) at_ISE dX2_want_38 dX2_want_41 dX2_want_42 dX2_want_44 dX2_want_47 hout ⟨Nat.le_of_ble_eq_true rfl, Nat.le_of_ble_eq_true rfl⟩ ⟨Nat.le_of_ble_eq_true rfl, Nat.le_of_ble_eq_true rfl⟩ (fun w9 h9 => ⟨Or.inr (Or.inr (⟨rfl, hk⟩)), h9⟩) ⟨Nat.le_of_ble_eq_true rfl, Nat.le_of_ble_eq_true rfl⟩
    · refine x_aload_n Γ dX2_want_30 rfl rfl ?_
      refine c_getT Γ 5 htn (fun _ => rfl) (by decide) k_272 dX2_want_31 ?_
      refine x_iload_n Γ dX2_want_34 rfl rfl ?_
      refine x_icmp_ne (tgt := 48) Γ dX2_want_35 (by decide) (fun c35 => ?_) (fun c35 => ?_)
      · have hk : kWant A (nI t) c0 = 0 := by
          unfold kWant
          rw [if_neg (not_not_intro hT1), if_neg (not_not_intro hR), ixn ht, if_neg (fun z => z.elim (fun z => z (show A 9 t < 5 from (lt_le (by decide)).mpr (q24.ne c27).2)) (fun z => c35 z))]
        refine x_aload_n Γ dX2_want_48 rfl rfl ?_
        refine x_iconst (v := (-1)) Γ dX2_want_49 (by decide) ?_
        refine c_putT Γ 7 15 htn (fun _ => by simp [tFs, mU]) (by decide) (by decide) k_275 rfl rfl dX2_want_50 ?_
        refine x_aload_n Γ dX2_want_53 rfl rfl ?_
        refine x_invV (emb := embV) (ci := 3) (rm := ({ frames := 3, cells := 0, slots := 0, locals := 110 } : Room)) Γ [] (fun w1 _ w2 => cP G ca th (mU (cB A) 15 t (-1)) n (fDE (mU (cB A) 15 t (-1)) L) (T) w1 w2) rfl (fun w1 h1 => t_dropEnded h1.1 hn hL hlL) c_self rfl k_409 k_1 k_406 k_408 s_10 hd_X2_dropEndedWishes ⟨Nat.le_of_ble_eq_true rfl, Nat.le_of_ble_eq_true rfl⟩ ⟨Nat.le_of_ble_eq_true rfl, Nat.le_of_ble_eq_true rfl⟩ (Nat.le_of_ble_eq_true rfl) dX2_want_54 (fun _ => ?_)
        refine c_then0 (B' := mU (cB A) 15 t (-1)) (L' := fDE (mU (cB A) 15 t (-1)) L) (T' := T) ?_
        have e15 : fDE (mU (cB A) 15 t (-1)) L = fFor t L := fDE_for (mU_eq _ _ _ _) (fun q hq hqt => by rw [mU_i hqt, cB_j (by decide)]; obtain ⟨-, ci, hci, hg⟩ := hI.2.1.2.2 q hq; rw [hg]; exact nI_nm1 (by omega))
        rw [e15]
        have hlf : (fFor t L).length ≤ 24 := Nat.le_trans (fFor_len t L) hlL
        refine x_aload_n Γ dX2_want_57 rfl rfl ?_
        refine x_iload_n Γ dX2_want_58 rfl rfl ?_
        refine c_putT Γ 7 15 htn (fun _ => by simp [tFs, mU]) (by decide) (by decide) k_275 rfl rfl dX2_want_59 ?_
        refine x_aload_n Γ dX2_want_62 rfl rfl ?_
        refine c_this Γ 3 rfl (by decide) k_61 rfl dX2_want_63 ?_
        refine x_aload_n Γ dX2_want_66 rfl rfl ?_
        refine x_invV (emb := embI) (ci := 0) (rm := ({ frames := 6, cells := 1, slots := 40, locals := 205 } : Room)) Γ [.ref (th t)] (fun w1 _ w2 => LstAt G w2 (ca 4) 105 ((fFor t L).length + 1) (fun i => if i = (fFor t L).length then th t else (fun j => th ((fFor t L).getD j 0)) i) ∧ KpL 105 w1 w2) rfl (fun w1 h1 => by obtain ⟨b9, g1, g2⟩ := h1.1.2.2.2.2.2 t htn; exact t_add h1.1.2.2.2.2.1 hlf (h1.1.hel (fun q hq => hL q (fFor_mem hq).1)) g1 ⟨by omega, by omega⟩) c_lst4 rfl k_312 k_4 k_309 k_310 k_311 hd_Jx4a65c_add_9ea2d ⟨Nat.le_of_ble_eq_true rfl, Nat.le_of_ble_eq_true rfl⟩ ⟨Nat.le_of_ble_eq_true rfl, Nat.le_of_ble_eq_true rfl⟩ (Nat.le_of_ble_eq_true rfl) dX2_want_67 (fun r => ?_)
        refine x_weak (P' := cP G ca th (mU (mU (cB A) 15 t (-1)) 15 t c0) n (fFor t L ++ [t]) T w) (fun w2 h2 => ?_) ?_
        · obtain ⟨w1, h1, h3, h4⟩ := h2
          have h9 := h1.1.wish (L' := fFor t L ++ [t]) ?_ h4
          · exact ⟨h9.1, h1.2.tr h9.2⟩
          · rw [List.length_append]
            refine h3.congr (fun i hi => ?_)
            rw [getD_app _ _ _ hi]
            split <;> rfl
        refine x_pop Γ dX2_want_70 rfl ?_
        refine x_aload_n Γ dX2_want_71 rfl rfl ?_
        refine c_this Γ 3 rfl (by decide) k_61 rfl dX2_want_72 ?_
        refine x_invV (emb := embI) (ci := 0) (rm := ({ frames := 0, cells := 0, slots := 0, locals := 0 } : Room)) Γ [] (fun w1 r w2 => r = nI (fFor t L ++ [t]).length ∧ w2 = w1) rfl (fun w1 h1 => t_size h1.1.2.2.2.2.1) c_lst4 rfl k_91 k_4 k_88 k_89 k_90 hd_Jx4a65c_size_8abf5 ⟨Nat.le_of_ble_eq_true rfl, Nat.le_of_ble_eq_true rfl⟩ ⟨Nat.le_of_ble_eq_true rfl, Nat.le_of_ble_eq_true rfl⟩ (Nat.le_of_ble_eq_true rfl) dX2_want_75 (fun r => ?_)
        refine m_same (fun e9 => ?_)
        subst e9
        rw [List.length_append, show [t].length = 1 from rfl]
        have hce : cEq n (mU (mU (cB A) 15 t (-1)) 15 t c0) (cB (mU (mU (mU A 19 0 0) 15 t (-1)) 15 t c0)) := by
          rw [cB_mU (by decide) (by decide), cB_mU (by decide) (by decide)]
          exact cEq_mU (cEq_mU (cEq_thr A n 0))
        refine x_ends ?_
        refine x_iret Γ rfl rfl (fun w2 e2 => ?_) ⟨Nat.le_of_ble_eq_true rfl, Nat.le_of_ble_eq_true rfl⟩ dX2_want_78
        unfold gWant
        rw [fin_ok hk, ixn ht]
        exact ⟨⟨hk, rfl⟩, ⟨T, hT.same rfl rfl, e2.1.congr (hce)⟩, e2.2⟩
      · have hk : kWant A (nI t) c0 = 3 := by
          unfold kWant
          rw [if_neg (not_not_intro hT1), if_neg (not_not_intro hR), ixn ht, if_pos (by first | exact Or.inl (show ¬ A 9 t < 5 from fun z => q24.eq c27 ⟨hI.2.2.2.1 t htn, (lt_le (by decide)).mp z⟩) | exact Or.inr (by first | exact c35 | exact Decidable.not_not.mp c35))]
        exact x_throw Γ hfl (by decide) k_221 k_13 (show (110, "it is not at a counter, or is at this one") ∈ xStr by simp [xStr]) at_ISE dX2_want_38 dX2_want_41 dX2_want_42 dX2_want_44 dX2_want_47 hout ⟨Nat.le_of_ble_eq_true rfl, Nat.le_of_ble_eq_true rfl⟩ ⟨Nat.le_of_ble_eq_true rfl, Nat.le_of_ble_eq_true rfl⟩ (fun w9 h9 => ⟨Or.inr (Or.inr (⟨rfl, hk⟩)), h9⟩) ⟨Nat.le_of_ble_eq_true rfl, Nat.le_of_ble_eq_true rfl⟩
  · have hk : kWant A (nI t) c0 = 2 := by
      unfold kWant
      rw [if_neg (not_not_intro hT1), if_pos (q7.eq c10)]
    exact x_throw Γ hfl (by decide) k_110 k_10 (show (105, "counter is out of range") ∈ xStr by simp [xStr]) at_IAE dX2_want_13 dX2_want_16 dX2_want_17 dX2_want_19 dX2_want_22 hout ⟨Nat.le_of_ble_eq_true rfl, Nat.le_of_ble_eq_true rfl⟩ ⟨Nat.le_of_ble_eq_true rfl, Nat.le_of_ble_eq_true rfl⟩ (fun w9 h9 => ⟨Or.inr (Or.inl (⟨rfl, hk⟩)), h9⟩) ⟨Nat.le_of_ble_eq_true rfl, Nat.le_of_ble_eq_true rfl⟩
set_option maxRecDepth 100000 in
theorem tc_lend {ca th : Nat → Nat} {A : xS} {n : Nat} {L : List Nat} {T : Nat → xTg} {w : xW} (h : CRaw G w ca th (cB A) n L T) (hfl : l.stackTraces = false) {x lr z : Int32} {D : Nat} (hI : pI A n L) (hT : tgI A n D T) (hD : A 4 0 = nI D) (hD1 : D ≤ 1000) : xMetX l G yX2_lend cX2_lend 5 none ({ frames := 8, cells := 60, slots := 400, locals := 320 } : Room) [.ref (ca 0), .int x, .int lr, .int z] w embV (fun _ w' => kLend A x lr z = 0 ∧ cQ G ca th (gLend A L x lr z).2.1 n (gLend A L x lr z).2.2 D w w') (fun E w' => ((E = "java/lang/IndexOutOfBoundsException" ∧ kLend A x lr z = 1) ∨ (E = "java/lang/IllegalArgumentException" ∧ kLend A x lr z = 2) ∨ (E = "java/lang/IllegalStateException" ∧ kLend A x lr z = 3)) ∧ cP G ca th (cB A) n L T w w') := by
  refine xMetX_of (by decide) (Nat.le_of_ble_eq_true rfl) ?_
  intro p e s m below meth c Γ hout
  have hn := hI.1.2.1
  have hn5 := hI.1.1
  have hlL : L.length ≤ 24 := Nat.le_trans hI.2.1.1 hn
  have hL : ∀ q ∈ L, q < n := fun q hq => (hI.2.1.2.2 q hq).1
  refine c_in h ?_
  refine x_aload_n Γ dX2_lend_0 rfl rfl ?_
  refine x_iload_n Γ dX2_lend_1 rfl rfl ?_
  refine x_invVX (emb := embA) (ci := 3) (rm := ({ frames := 6, cells := 1, slots := 6, locals := 100 } : Room)) Γ [.int x] (fun w1 r w2 => (∃ t, t < n ∧ x = nI t ∧ r = th t) ∧ cP G ca th (cB A) n L T w1 w2) (fun w1 E w2 => (E = "java/lang/IndexOutOfBoundsException" ∧ ¬ rIn 0 (nI n - 1) x) ∧ cP G ca th (cB A) n L T w1 w2) rfl (fun w1 h1 => t_thingNumbered h1.1 hfl hn) hout (fun w1 E w2 h1 h2 => by obtain ⟨⟨h3, h4⟩, h5⟩ := h2; exact ⟨Or.inl (⟨h3, by unfold kLend; exact if_pos (show ¬ rIn 0 (A 5 0 - 1) x by rw [hn5]; exact h4)⟩), h5.1, h1.2.tr h5.2⟩) ⟨Nat.le_of_ble_eq_true rfl, Nat.le_of_ble_eq_true rfl⟩ c_self rfl k_375 k_1 k_372 k_374 s_6 hd_X2_thingNumbered ⟨Nat.le_of_ble_eq_true rfl, Nat.le_of_ble_eq_true rfl⟩ ⟨Nat.le_of_ble_eq_true rfl, Nat.le_of_ble_eq_true rfl⟩ (Nat.le_of_ble_eq_true rfl) dX2_lend_2 (fun r => ?_)
  refine c_then (B' := cB A) (L' := L) (T' := T) (fun hq9 => ?_)
  obtain ⟨t, htn, rfl, rfl⟩ := hq9
  have ht : t < 24 := by omega
  have hT1 := aI_toT hI.1 htn
  refine x_astore Γ dX2_lend_5 rfl (by decide) ?_
  refine x_iload_n Γ dX2_lend_7 rfl rfl ?_
  refine x_invS (emb := embI) (rm := ({ frames := 0, cells := 0, slots := 0, locals := 0 } : Room)) Γ [.int (lr)] (fun w1 r w2 => bq (rIn 0 7 (lr)) r ∧ w2 = w1) rfl (fun w1 h1 => t2_isPerson) k_196 k_1 k_194 k_195 hd_X2_isPerson ⟨Nat.le_of_ble_eq_true rfl, Nat.le_of_ble_eq_true rfl⟩ ⟨Nat.le_of_ble_eq_true rfl, Nat.le_of_ble_eq_true rfl⟩ (Nat.le_of_ble_eq_true rfl) dX2_lend_8 (fun r => ?_)
  refine m_same (fun q8 => ?_)
  refine x_if_eq (tgt := 26) Γ dX2_lend_11 (by decide) (fun c11 => ?_) (fun c11 => ?_)
  · have hk : kLend A (nI t) lr z = 2 := by
      unfold kLend
      rw [if_neg (not_not_intro hT1), if_pos (fun y => q8.eq c11 y.1)]
    exact x_throw Γ hfl (by decide) k_110 k_10 (show (125, "lender or sum is out of range") ∈ xStr by simp [xStr]) at_IAE dX2_lend_26 dX2_lend_29 dX2_lend_30 dX2_lend_32 dX2_lend_35 hout ⟨Nat.le_of_ble_eq_true rfl, Nat.le_of_ble_eq_true rfl⟩ ⟨Nat.le_of_ble_eq_true rfl, Nat.le_of_ble_eq_true rfl⟩ (fun w9 h9 => ⟨Or.inr (Or.inl (⟨rfl, hk⟩)), h9⟩) ⟨Nat.le_of_ble_eq_true rfl, Nat.le_of_ble_eq_true rfl⟩
  · refine x_iload_n Γ dX2_lend_14 rfl rfl ?_
    refine x_iconst (v := 1) Γ dX2_lend_15 (by decide) ?_
    refine x_icmp_lt (tgt := 26) Γ dX2_lend_16 (by decide) (fun c16 => ?_) (fun c16 => ?_)
    · have hk : kLend A (nI t) lr z = 2 := by
        unfold kLend
        rw [if_neg (not_not_intro hT1), if_pos (fun y => absurd c16 (Int32.not_lt.mpr y.2.1))]
      exact x_throw Γ hfl (by decide) k_110 k_10 (show (125, "lender or sum is out of range") ∈ xStr by simp [xStr]) at_IAE dX2_lend_26 dX2_lend_29 dX2_lend_30 dX2_lend_32 dX2_lend_35 hout ⟨Nat.le_of_ble_eq_true rfl, Nat.le_of_ble_eq_true rfl⟩ ⟨Nat.le_of_ble_eq_true rfl, Nat.le_of_ble_eq_true rfl⟩ (fun w9 h9 => ⟨Or.inr (Or.inl (⟨rfl, hk⟩)), h9⟩) ⟨Nat.le_of_ble_eq_true rfl, Nat.le_of_ble_eq_true rfl⟩
    · refine x_iload_n Γ dX2_lend_19 rfl rfl ?_
      refine x_sipush (v := 5000) Γ dX2_lend_20 (by decide) ?_
      refine x_icmp_le (tgt := 36) Γ dX2_lend_23 (by decide) (fun c23 => ?_) (fun c23 => ?_)
      · have hR : rIn 0 7 lr ∧ rIn 1 5000 z := ⟨q8.ne c11, Int32.not_lt.mp c16, c23⟩
        refine x_aload Γ dX2_lend_36 rfl ?_
        refine x_invVN (emb := embI) (ci := 2) (rm := ({ frames := 1, cells := 0, slots := 0, locals := 40 } : Room)) Γ [] (fun w1 r w2 => bq (rIn 0 4 ((cB A) 9 t)) r ∧ w2 = w1) rfl (fun w1 h1 => by obtain ⟨b9, g1, g2⟩ := h1.1.2.2.2.2.2 t htn; exact t_isAtC g1 rfl) (c_thing htn) rfl k_395 k_14 k_392 k_394 s_7 hd_X1_isAtCounter ⟨Nat.le_of_ble_eq_true rfl, Nat.le_of_ble_eq_true rfl⟩ ⟨Nat.le_of_ble_eq_true rfl, Nat.le_of_ble_eq_true rfl⟩ (Nat.le_of_ble_eq_true rfl) dX2_lend_38 (fun r => ?_)
        refine m_same (fun q38 => ?_)
        refine x_if_eq (tgt := 52) Γ dX2_lend_41 (by decide) (fun c41 => ?_) (fun c41 => ?_)
        · have hk : kLend A (nI t) lr z = 3 := by
            unfold kLend
            rw [if_neg (not_not_intro hT1), if_neg (not_not_intro hR), ixn ht]
            exact if_pos (Or.inl (show ¬ A 9 t < 5 from fun z => q38.eq c41 ⟨hI.2.2.2.1 t htn, (lt_le (by decide)).mp z⟩))
          exact x_throw Γ hfl (by decide) k_221 k_13 (show (96, "it is not at a counter, or has a loan") ∈ xStr by simp [xStr]) at_ISE dX2_lend_52 dX2_lend_55 dX2_lend_56 dX2_lend_58 dX2_lend_61 hout ⟨Nat.le_of_ble_eq_true rfl, Nat.le_of_ble_eq_true rfl⟩ ⟨Nat.le_of_ble_eq_true rfl, Nat.le_of_ble_eq_true rfl⟩ (fun w9 h9 => ⟨Or.inr (Or.inr (⟨rfl, hk⟩)), h9⟩) ⟨Nat.le_of_ble_eq_true rfl, Nat.le_of_ble_eq_true rfl⟩
        · refine x_aload Γ dX2_lend_44 rfl ?_
          refine x_invVN (emb := embI) (ci := 2) (rm := ({ frames := 0, cells := 0, slots := 0, locals := 0 } : Room)) Γ [] (fun w1 r w2 => bq (0 < (cB A) 12 t) r ∧ w2 = w1) rfl (fun w1 h1 => by obtain ⟨b9, g1, g2⟩ := h1.1.2.2.2.2.2 t htn; exact t_hasLoan g1 rfl) (c_thing htn) rfl k_400 k_14 k_397 k_399 s_8 hd_X1_hasLoan ⟨Nat.le_of_ble_eq_true rfl, Nat.le_of_ble_eq_true rfl⟩ ⟨Nat.le_of_ble_eq_true rfl, Nat.le_of_ble_eq_true rfl⟩ (Nat.le_of_ble_eq_true rfl) dX2_lend_46 (fun r => ?_)
          refine m_same (fun q46 => ?_)
          refine x_if_eq (tgt := 62) Γ dX2_lend_49 (by decide) (fun c49 => ?_) (fun c49 => ?_)
          · refine x_iload_n Γ dX2_lend_62 rfl rfl ?_
            refine x_aload Γ dX2_lend_63 rfl ?_
            refine c_getT Γ 1 htn (fun _ => rfl) (by decide) k_264 dX2_lend_65 ?_
            refine x_icmp_eq (tgt := 82) Γ dX2_lend_68 (by decide) (fun c68 => ?_) (fun c68 => ?_)
            · have hk : kLend A (nI t) lr z = 3 := by
                unfold kLend
                rw [if_neg (not_not_intro hT1), if_neg (not_not_intro hR), ixn ht]
                exact if_pos (Or.inr (Or.inl (Eq.symm c68)))
              exact x_throw Γ hfl (by decide) k_221 k_13 (show (130, "the lender is its owner, or the sum is too high") ∈ xStr by simp [xStr]) at_ISE dX2_lend_82 dX2_lend_85 dX2_lend_86 dX2_lend_88 dX2_lend_91 hout ⟨Nat.le_of_ble_eq_true rfl, Nat.le_of_ble_eq_true rfl⟩ ⟨Nat.le_of_ble_eq_true rfl, Nat.le_of_ble_eq_true rfl⟩ (fun w9 h9 => ⟨Or.inr (Or.inr (⟨rfl, hk⟩)), h9⟩) ⟨Nat.le_of_ble_eq_true rfl, Nat.le_of_ble_eq_true rfl⟩
            · refine x_iload_n Γ dX2_lend_71 rfl rfl ?_
              refine x_aload Γ dX2_lend_72 rfl ?_
              refine c_getT Γ 4 htn (fun _ => rfl) (by decide) k_270 dX2_lend_74 ?_
              refine x_iconst (v := 2) Γ dX2_lend_77 (by decide) ?_
              refine x_idiv Γ dX2_lend_78 (by decide) ?_
              refine x_icmp_le (tgt := 92) Γ dX2_lend_79 (by decide) (fun c79 => ?_) (fun c79 => ?_)
              · have hk : kLend A (nI t) lr z = 0 := by
                  unfold kLend
                  rw [if_neg (not_not_intro hT1), if_neg (not_not_intro hR), ixn ht]
                  exact if_neg (fun y => y.elim (fun y => y (show A 9 t < 5 from (lt_le (by decide)).mpr (q38.ne c41).2)) (fun y => y.elim (fun y => c68 y.symm) (fun y => y.elim (fun y => q46.eq c49 y) (fun y => Int32.not_lt.mpr c79 y))))
                obtain ⟨ow, how8, how⟩ := hI.1.2.2.2.1 t ht
                refine x_aload Γ dX2_lend_92 rfl ?_
                refine x_iload_n Γ dX2_lend_94 rfl rfl ?_
                refine x_iload_n Γ dX2_lend_95 rfl rfl ?_
                refine x_invVN (emb := embV) (ci := 2) (rm := ({ frames := 0, cells := 0, slots := 0, locals := 0 } : Room)) Γ [.int lr, .int z] (fun w1 _ w2 => cP G ca th (mU (mU (cB A) 13 t lr) 12 t z) n (L) (T) w1 w2) rfl (fun w1 h1 => t_cbeginLoan h1.1 htn) (c_thing htn) rfl k_453 k_14 k_450 k_452 s_13 hd_X1_beginLoan ⟨Nat.le_of_ble_eq_true rfl, Nat.le_of_ble_eq_true rfl⟩ ⟨Nat.le_of_ble_eq_true rfl, Nat.le_of_ble_eq_true rfl⟩ (Nat.le_of_ble_eq_true rfl) dX2_lend_96 (fun _ => ?_)
                refine c_then0 (B' := mU (mU (cB A) 13 t lr) 12 t z) (L' := L) (T' := T) ?_
                refine x_aload_n Γ dX2_lend_99 rfl rfl ?_
                refine x_aload Γ dX2_lend_100 rfl ?_
                refine c_getT (v := .int (nI ow)) Γ 1 htn (fun _ => by show some (Value.int (A 6 t)) = _; rw [how]) (by decide) k_264 dX2_lend_102 ?_
                refine x_iload_n Γ dX2_lend_105 rfl rfl ?_
                refine x_invV (emb := embV) (ci := 3) (rm := ({ frames := 1, cells := 0, slots := 0, locals := 40 } : Room)) Γ [.int (nI ow), .int z] (fun w1 _ w2 => cP G ca th (mU (mU (mU (cB A) 13 t lr) 12 t z) 2 ow ((mU (mU (cB A) 13 t lr) 12 t z) 2 ow + z)) n (L) (T) w1 w2) rfl (fun w1 h1 => by have h9 := t_putPurse (l := l) (x := nI ow) (z := z) h1.1; rw [fPut_in how8] at h9; exact h9) c_self rfl k_457 k_1 k_454 k_456 s_14 hd_X2_putIntoPurse ⟨Nat.le_of_ble_eq_true rfl, Nat.le_of_ble_eq_true rfl⟩ ⟨Nat.le_of_ble_eq_true rfl, Nat.le_of_ble_eq_true rfl⟩ (Nat.le_of_ble_eq_true rfl) dX2_lend_106 (fun _ => ?_)
                refine c_then0 (B' := mU (mU (mU (cB A) 13 t lr) 12 t z) 2 ow ((mU (mU (cB A) 13 t lr) 12 t z) 2 ow + z)) (L' := L) (T' := T) ?_
                have hz : 0 < z := by
                  have := hR.2.1
                  rw [Int32.lt_iff_toInt_lt]
                  rw [Int32.le_iff_toInt_le] at this
                  have h1 : ((1 : Int32)).toInt = 1 := by decide
                  have h0 : ((0 : Int32)).toInt = 0 := by decide
                  omega
                have hlo : A 12 t = 0 := (hI.2.2.2.2.2.1 t htn).elim id (fun y => absurd y.1 (q46.eq c49))
                have h14 : A 14 t = -1 := hI.2.2.2.2.2.2.1 t htn hlo
                have hce : cEq n (mU (mU (mU (cB A) 13 t lr) 12 t z) 2 ow ((mU (mU (cB A) 13 t lr) 12 t z) 2 ow + z)) (cB (bLend (mU A 19 0 0) t lr z)) := by
                  unfold bLend
                  rw [show mU A 19 0 0 6 t = nI ow from how, ixn (by omega)]
                  refine ⟨?_, ?_, ⟨?_, ?_, ?_⟩, fun i hi => ⟨?_, ?_, ?_, ?_, ?_, ?_, ?_, ?_, ?_, ?_⟩⟩
                  all_goals first | rfl | (simp [mU, cB]; done) | (by_cases e : i = t <;> simp [mU, cB, e, hz, h14])
                refine x_ends ?_
                refine x_vret Γ rfl (fun w2 e2 => ?_) ⟨Nat.le_of_ble_eq_true rfl, Nat.le_of_ble_eq_true rfl⟩ dX2_lend_109
                unfold gLend
                rw [fin_ok hk, ixn ht]
                exact ⟨hk, ⟨T, hT.same rfl rfl, e2.1.congr hce⟩, e2.2⟩
              · have hk : kLend A (nI t) lr z = 3 := by
                  unfold kLend
                  rw [if_neg (not_not_intro hT1), if_neg (not_not_intro hR), ixn ht]
                  exact if_pos (Or.inr (Or.inr (Or.inr (Int32.not_le.mp c79))))
                exact x_throw Γ hfl (by decide) k_221 k_13 (show (130, "the lender is its owner, or the sum is too high") ∈ xStr by simp [xStr]) at_ISE dX2_lend_82 dX2_lend_85 dX2_lend_86 dX2_lend_88 dX2_lend_91 hout ⟨Nat.le_of_ble_eq_true rfl, Nat.le_of_ble_eq_true rfl⟩ ⟨Nat.le_of_ble_eq_true rfl, Nat.le_of_ble_eq_true rfl⟩ (fun w9 h9 => ⟨Or.inr (Or.inr (⟨rfl, hk⟩)), h9⟩) ⟨Nat.le_of_ble_eq_true rfl, Nat.le_of_ble_eq_true rfl⟩
          · have hk : kLend A (nI t) lr z = 3 := by
              unfold kLend
              rw [if_neg (not_not_intro hT1), if_neg (not_not_intro hR), ixn ht]
              exact if_pos (Or.inr (Or.inr (Or.inl (q46.ne c49))))
            exact x_throw Γ hfl (by decide) k_221 k_13 (show (96, "it is not at a counter, or has a loan") ∈ xStr by simp [xStr]) at_ISE dX2_lend_52 dX2_lend_55 dX2_lend_56 dX2_lend_58 dX2_lend_61 hout ⟨Nat.le_of_ble_eq_true rfl, Nat.le_of_ble_eq_true rfl⟩ ⟨Nat.le_of_ble_eq_true rfl, Nat.le_of_ble_eq_true rfl⟩ (fun w9 h9 => ⟨Or.inr (Or.inr (⟨rfl, hk⟩)), h9⟩) ⟨Nat.le_of_ble_eq_true rfl, Nat.le_of_ble_eq_true rfl⟩
      · have hk : kLend A (nI t) lr z = 2 := by
          unfold kLend
          rw [if_neg (not_not_intro hT1), if_pos (fun y => c23 y.2.2)]
        exact x_throw Γ hfl (by decide) k_110 k_10 (show (125, "lender or sum is out of range") ∈ xStr by simp [xStr]) at_IAE dX2_lend_26 dX2_lend_29 dX2_lend_30 dX2_lend_32 dX2_lend_35 hout ⟨Nat.le_of_ble_eq_true rfl, Nat.le_of_ble_eq_true rfl⟩ ⟨Nat.le_of_ble_eq_true rfl, Nat.le_of_ble_eq_true rfl⟩ (fun w9 h9 => ⟨Or.inr (Or.inl (⟨rfl, hk⟩)), h9⟩) ⟨Nat.le_of_ble_eq_true rfl, Nat.le_of_ble_eq_true rfl⟩
set_option maxRecDepth 100000 in
theorem tc_pass {ca th : Nat → Nat} {A : xS} {n : Nat} {L : List Nat} {T : Nat → xTg} {w : xW} (h : CRaw G w ca th (cB A) n L T) (hfl : l.stackTraces = false) {v : Int32} {D : Nat} (hI : pI A n L) (hT : tgI A n D T) (hD : A 4 0 = nI D) (hD1 : D ≤ 1000) (hC : calI A n) : xMetX l G yX2_pass cX2_pass 4 (some .int) ({ frames := 8, cells := 60, slots := 400, locals := 320 } : Room) [.ref (ca 0), .int v] w embI (fun r w' => (kPass A v = 0 ∧ r = (gPass A L v).1) ∧ cQ G ca th (gPass A L v).2.1 n (gPass A L v).2.2 (D + ix v) w w') (fun E w' => ((E = "java/lang/IllegalArgumentException" ∧ kPass A v = 1) ∨ (E = "java/lang/IllegalStateException" ∧ kPass A v = 2)) ∧ cP G ca th (cB A) n L T w w') := by
  refine xMetX_of (by decide) (Nat.le_of_ble_eq_true rfl) ?_
  intro p e s m below meth c Γ hout
  have hn := hI.1.2.1
  have hn5 := hI.1.1
  have hlL : L.length ≤ 24 := Nat.le_trans hI.2.1.1 hn
  have hL : ∀ q ∈ L, q < n := fun q hq => (hI.2.1.2.2 q hq).1
  refine c_in h ?_
  refine x_iload_n Γ dX2_pass_0 rfl rfl ?_
  refine x_iconst (v := 1) Γ dX2_pass_1 (by decide) ?_
  refine x_icmp_lt (tgt := 11) Γ dX2_pass_2 (by decide) (fun c2 => ?_) (fun c2 => ?_)
  · have hk : kPass A v = 1 := by
      unfold kPass
      exact if_pos (fun y => absurd c2 (Int32.not_lt.mpr y.1))
    exact x_throw Γ hfl (by decide) k_110 k_10 (show (158, "days is out of range") ∈ xStr by simp [xStr]) at_IAE dX2_pass_11 dX2_pass_14 dX2_pass_15 dX2_pass_17 dX2_pass_20 hout ⟨Nat.le_of_ble_eq_true rfl, Nat.le_of_ble_eq_true rfl⟩ ⟨Nat.le_of_ble_eq_true rfl, Nat.le_of_ble_eq_true rfl⟩ (fun w9 h9 => ⟨Or.inl (⟨rfl, hk⟩), h9⟩) ⟨Nat.le_of_ble_eq_true rfl, Nat.le_of_ble_eq_true rfl⟩
  · refine x_iload_n Γ dX2_pass_5 rfl rfl ?_
    refine x_bipush (v := 40) Γ dX2_pass_6 (by decide) ?_
    refine x_icmp_le (tgt := 21) Γ dX2_pass_8 (by decide) (fun c8 => ?_) (fun c8 => ?_)
    · have hR : rIn 1 40 v := ⟨Int32.not_lt.mp c2, c8⟩
      refine x_aload_n Γ dX2_pass_21 rfl rfl ?_
      refine c_this Γ 5 rfl (by decide) k_63 rfl dX2_pass_22 ?_
      refine x_iload_n Γ dX2_pass_25 rfl rfl ?_
      refine x_iadd Γ dX2_pass_26 ?_
      refine x_sipush (v := 1000) Γ dX2_pass_27 (by decide) ?_
      refine x_icmp_le (tgt := 43) Γ dX2_pass_30 (by decide) (fun c30 => ?_) (fun c30 => ?_)
      · have hk : kPass A v = 0 := by
          unfold kPass
          rw [if_neg (not_not_intro hR)]
          exact if_neg (Int32.not_lt.mpr c30)
        obtain ⟨dd, hdd, rfl⟩ : ∃ dd, dd ≤ 40 ∧ v = nI dd := rIn_nat (M := 40) (n := 40) (by decide) ⟨Int32.le_trans (by decide) hR.1, hR.2⟩
        have hsum : D + dd ≤ 1000 := by
          have h9 : A 4 0 + nI dd ≤ 1000 := c30
          rw [hD, nI_add] at h9
          exact (nI_leI (b := 1000) (by omega) (by omega)).mp h9
        refine x_ends ?_
        have hphi : phi A n L ≤ 48 := by
          have := atC_le A n
          unfold phi
          omega
        have hds : ∀ k, k ≤ dd → pI (fDays n k (0, mU A 19 0 0, L)).2.1 n (fDays n k (0, mU A 19 0 0, L)).2.2 ∧ calI (fDays n k (0, mU A 19 0 0, L)).2.1 n ∧ (fDays n k (0, mU A 19 0 0, L)).2.1 4 0 = nI (D + k) ∧ phv n (fDays n k (0, mU A 19 0 0, L)) ≤ phi A n L := by
          intro k
          induction k with
          | zero =>
            intro _
            refine ⟨hI, hC, hD, ?_⟩
            show phi (mU A 19 0 0) n L ≤ phi A n L
            unfold phi
            rw [atC_same (A := A) (A' := mU A 19 0 0) (fun i => Iff.rfl)]
            exact Nat.le_refl _
          | succ k ih =>
            intro hk2
            obtain ⟨i1, i2, i3, i4⟩ := ih (by omega)
            obtain ⟨-, -, -, -, j5⟩ := fDay_P i1 i2 i3 (by omega)
            obtain ⟨j1, j2, j3, j4⟩ := j5 _ rfl
            exact ⟨j1, j2, j3, Nat.le_trans j4 i4⟩
        have lp : ∀ d2 k T, k + d2 = dd → tgI (fDays n k (0, mU A 19 0 0, L)).2.1 n (D + k) T → xJ p l e ({ frames := 8, cells := 60, slots := 400, locals := 320 } : Room) s m ([.ref (ca 0), .int (nI dd)] : List Value).toArray below meth c G 4 (MQ below (xQ G embI (fun r w' => (kPass A (nI dd) = 0 ∧ r = (gPass A L (nI dd)).1) ∧ cQ G ca th (gPass A L (nI dd)).2.1 n (gPass A L (nI dd)).2.2 (D + ix (nI dd)) w w')) ([.ref (ca 0), .int (nI dd)] : List Value).toArray s 60 400 (xA G)) (cP G ca th (cB (fDays n k (0, mU A 19 0 0, L)).2.1) n (fDays n k (0, mU A 19 0 0, L)).2.2 T w) (phi A n L - phv n (fDays n k (0, mU A 19 0 0, L))) (3 * (phi A n L - phv n (fDays n k (0, mU A 19 0 0, L)))) 47 [(0, .ref (ca 0)), (1, .int (nI dd)), (2, .int (fDays n k (0, mU A 19 0 0, L)).1), (3, .int (nI k))] [] := by
          intro d2
          induction d2 with
          | zero =>
            intro k T hk2 hTk
            refine x_iload_n Γ dX2_pass_47 rfl rfl ?_
            refine x_iload_n Γ dX2_pass_48 rfl rfl ?_
            refine x_icmp_ge (tgt := 65) Γ dX2_pass_49 (by decide) (fun c49 => ?_) (fun c49 => absurd (nI_le (by omega) (by omega)) c49)
            refine x_iload_n Γ dX2_pass_65 rfl rfl ?_
            refine x_iret Γ rfl rfl (fun w2 e2 => ?_) ⟨by show (phi A n L - phv n (fDays n k (0, mU A 19 0 0, L))) ≤ 60; omega, by show 3 * (phi A n L - phv n (fDays n k (0, mU A 19 0 0, L))) ≤ 400; omega⟩ dX2_pass_66
            unfold gPass
            rw [fin_ok hk, hn5, ixn2 (t := n) (by omega), ixn2 (t := dd) (by omega), show dd = k by omega]
            exact ⟨⟨by rw [show k = dd by omega]; exact hk, rfl⟩, ⟨T, hTk, e2.1⟩, e2.2⟩
          | succ d2 ih =>
            intro k T hk2 hTk
            obtain ⟨i1, i2, i3, i4⟩ := hds k (by omega)
            obtain ⟨j1, j2, j3, j4⟩ := hds (k + 1) (by omega)
            have hst : phv n (fDays n (k + 1) (0, mU A 19 0 0, L)) = phv n (fDay n (0, (fDays n k (0, mU A 19 0 0, L)).2)) := rfl
            obtain ⟨-, -, -, -, j5⟩ := fDay_P i1 i2 i3 (by omega)
            have hle : phv n (fDay n (0, (fDays n k (0, mU A 19 0 0, L)).2)) ≤ phv n (fDays n k (0, mU A 19 0 0, L)) := (j5 _ rfl).2.2.2
            obtain ⟨kb, hkb⟩ : ∃ kb, kb = phv n (fDays n k (0, mU A 19 0 0, L)) - phv n (fDay n (0, (fDays n k (0, mU A 19 0 0, L)).2)) := ⟨_, rfl⟩
            refine x_iload_n Γ dX2_pass_47 rfl rfl ?_
            refine x_iload_n Γ dX2_pass_48 rfl rfl ?_
            refine x_icmp_ge (tgt := 65) Γ dX2_pass_49 (by decide) (fun c49 => absurd c49 (nI_ge (by omega) (by omega))) (fun c49 => ?_)
            refine x_iload_n Γ dX2_pass_52 rfl rfl ?_
            refine x_aload_n Γ dX2_pass_53 rfl rfl ?_
            refine x_invV (emb := embI) (ci := 3) (rm := ({ frames := 7, cells := kb, slots := 3 * kb, locals := 270 } : Room)) Γ [] (fun w1 r w2 => r = (fDay n (0, (fDays n k (0, mU A 19 0 0, L)).2)).1 ∧ cQ G ca th (fDay n (0, (fDays n k (0, mU A 19 0 0, L)).2)).2.1 n (fDay n (0, (fDays n k (0, mU A 19 0 0, L)).2)).2.2 (D + k + 1) w1 w2) rfl (fun w1 h1 => t_cendDay h1.1 i1 hTk i3 (by omega) i2 (by show phv n (fDays n k (0, mU A 19 0 0, L)) ≤ phv n (fDay n (0, (fDays n k (0, mU A 19 0 0, L)).2)) + kb; omega)) c_self rfl k_494 k_1 k_491 k_493 s_17 hd_X2_endDay ⟨Nat.le_of_ble_eq_true rfl, Nat.le_of_ble_eq_true rfl⟩ ⟨by show (phi A n L - phv n (fDays n k (0, mU A 19 0 0, L))) + kb ≤ 60; omega, by show 3 * (phi A n L - phv n (fDays n k (0, mU A 19 0 0, L))) + 3 * kb ≤ 400; omega⟩ (Nat.le_of_ble_eq_true rfl) dX2_pass_54 (fun r => ?_)
            refine c_thenQ1 (A' := (fDay n (0, (fDays n k (0, mU A 19 0 0, L)).2)).2.1) (L' := (fDay n (0, (fDays n k (0, mU A 19 0 0, L)).2)).2.2) (D := D + k + 1) (fun e9 T' hT' => ?_)
            rw [e9]
            refine x_iadd Γ dX2_pass_57 ?_
            refine x_istore_n Γ dX2_pass_58 rfl rfl (by decide) ?_
            refine x_iinc (v := _ + 1) Γ dX2_pass_59 rfl rfl rfl (by decide) ?_
            rw [nI_1]
            refine x_goto (tgt := 47) Γ dX2_pass_62 (by decide) ?_
            refine x_lv [0, 1, 2, 3] rfl ?_
            refine x_wide (k' := phi A n L - phv n (fDay n (0, (fDays n k (0, mU A 19 0 0, L)).2))) (n' := 3 * (phi A n L - phv n (fDay n (0, (fDays n k (0, mU A 19 0 0, L)).2)))) (by show (phi A n L - phv n (fDays n k (0, mU A 19 0 0, L))) + kb ≤ _; omega) (by show 3 * (phi A n L - phv n (fDays n k (0, mU A 19 0 0, L))) + 3 * kb ≤ _; omega) ?_
            exact ih (k + 1) T' (by omega) hT'
        refine x_iconst (v := 0) Γ dX2_pass_43 (by decide) ?_
        refine x_istore_n Γ dX2_pass_44 rfl rfl (by decide) ?_
        refine x_iconst (v := 0) Γ dX2_pass_45 (by decide) ?_
        refine x_istore_n Γ dX2_pass_46 rfl rfl (by decide) ?_
        refine x_lv [0, 1, 2, 3] rfl ?_
        refine x_wide (k' := phi A n L - phv n (fDays n 0 (0, mU A 19 0 0, L))) (n' := 3 * (phi A n L - phv n (fDays n 0 (0, mU A 19 0 0, L)))) (Nat.zero_le _) (Nat.zero_le _) ?_
        refine x_weak (P' := cP G ca th (cB (mU A 19 0 0)) n L T w) (fun w1 h1 => ⟨h1.1.congr (cEq_thr A n 0), h1.2⟩) ?_
        exact lp dd 0 T (by omega) (hT.same rfl rfl)
      · have hk : kPass A v = 2 := by
          unfold kPass
          rw [if_neg (not_not_intro hR)]
          exact if_pos (Int32.not_le.mp c30)
        exact x_throw Γ hfl (by decide) k_221 k_13 (show (160, "the day would be above the last one") ∈ xStr by simp [xStr]) at_ISE dX2_pass_33 dX2_pass_36 dX2_pass_37 dX2_pass_39 dX2_pass_42 hout ⟨Nat.le_of_ble_eq_true rfl, Nat.le_of_ble_eq_true rfl⟩ ⟨Nat.le_of_ble_eq_true rfl, Nat.le_of_ble_eq_true rfl⟩ (fun w9 h9 => ⟨Or.inr (⟨rfl, hk⟩), h9⟩) ⟨Nat.le_of_ble_eq_true rfl, Nat.le_of_ble_eq_true rfl⟩
    · have hk : kPass A v = 1 := by
        unfold kPass
        exact if_pos (fun y => c8 y.2)
      exact x_throw Γ hfl (by decide) k_110 k_10 (show (158, "days is out of range") ∈ xStr by simp [xStr]) at_IAE dX2_pass_11 dX2_pass_14 dX2_pass_15 dX2_pass_17 dX2_pass_20 hout ⟨Nat.le_of_ble_eq_true rfl, Nat.le_of_ble_eq_true rfl⟩ ⟨Nat.le_of_ble_eq_true rfl, Nat.le_of_ble_eq_true rfl⟩ (fun w9 h9 => ⟨Or.inl (⟨rfl, hk⟩), h9⟩) ⟨Nat.le_of_ble_eq_true rfl, Nat.le_of_ble_eq_true rfl⟩
end XC8
end
section
section XC9
theorem leave_cB {A : xS} {n D : Nat} {L : List Nat} {ow z c0 : Int32} (hI : pI A n L) (hn : n < 24) (q2 : Nat) : tFs (cB (bLeave (mU A 19 0 0) n ow z c0)) n (.ref q2) = [.int (nI n), .int ow, .int z, .int (A 4 0), .int (20 * z), .int c0, .ref q2, .int (-1), .int 0, .int 0, .int (-1), .int (-1)] := by
  obtain ⟨g1, g2, -⟩ := hI.2.2.2.2.2.2.2.2 n (Nat.le_refl n) hn
  have e11 : bLeave (mU A 19 0 0) n ow z c0 11 n = 0 := by
    unfold bLeave
    rw [mU_j (by decide), mU_j (by decide), mU_j (by decide), mU_j (by decide), mU_j (by decide), mU_j (by decide), mU_j (by decide), mU_j (by decide), mU_j (by decide)]
    exact g1
  have e12 : bLeave (mU A 19 0 0) n ow z c0 12 n = 0 := by
    unfold bLeave
    rw [mU_j (by decide), mU_j (by decide), mU_j (by decide), mU_j (by decide), mU_j (by decide), mU_j (by decide), mU_j (by decide), mU_j (by decide), mU_j (by decide)]
    exact g2
  have e13 : cB (bLeave (mU A 19 0 0) n ow z c0) 13 n = -1 := by
    show (if 0 < bLeave (mU A 19 0 0) n ow z c0 12 n then _ else -1) = -1
    rw [e12]
    rfl
  unfold tFs
  rw [e13, cB_j (show (11 : Nat) ≠ 13 by decide), e11, cB_j (show (12 : Nat) ≠ 13 by decide), e12]
  simp [cB, bLeave, mU]
theorem leave_ne {A : xS} {n t j : Nat} {ow z c0 : Int32} (h : t ≠ n) (hj : j ≠ 5) (hj2 : j ≠ 19) : bLeave (mU A 19 0 0) n ow z c0 j t = A j t := by
  unfold bLeave
  rw [mU_j hj, mU_i h, mU_i h, mU_i h, mU_i h, mU_i h, mU_i h, mU_i h, mU_j hj2]
theorem leave_j {A : xS} {n j : Nat} {ow z c0 : Int32} (hj : j = 0 ∨ j = 1 ∨ j = 2 ∨ j = 3 ∨ j = 4 ∨ j = 11 ∨ j = 12 ∨ j = 13 ∨ j = 18) : bLeave (mU A 19 0 0) n ow z c0 j = A j := by
  unfold bLeave
  rw [mU_j (by omega), mU_j (by omega), mU_j (by omega), mU_j (by omega), mU_j (by omega), mU_j (by omega), mU_j (by omega), mU_j (by omega), mU_j (by omega)]
theorem CRaw.leave {G : xG} {w1 w3 w4 : xW} {ca th : Nat → Nat} {A : xS} {n D q q2 : Nat} {L : List Nat} {T : Nat → xTg} {ow z c0 : Int32} (h : CRaw G w1 ca th (cB A) n L T) (hI : pI A n L) (hT : tgI A n D T) (hD : A 4 0 = nI D) (hD1 : D ≤ 1000) (hn : n < 24)
    (hk : ∀ b x, w1 b = some x → w3 b = some x) (h3 : w3 q = some (200 + n, .inr (2, [.int (nI n), .int ow, .int z, .int (A 4 0), .int (20 * z), .int c0, .ref q2, .int (-1), .int 0, .int 0, .int (-1), .int (-1)]))) (h32 : w3 q2 = some (110, .inr (1, [.int c0, .int (A 4 0 + 1), .null])))
    (hl : LstAt G w4 (ca 3) 104 (n + 1) (fun i => if i = n then q else th i)) (hL : KpL 104 w3 w4) :
    cQ G ca (fun i => if i = n then q else th i) (bLeave (mU A 19 0 0) n ow z c0) (n + 1) L D w1 w4 := by
  have k1 : xKp (fun k => k ≠ 104 ∧ k ≠ 106) w1 w4 := fun b k e hb hs => hL b k e (hk b _ hb) hs.1 hs.2
  have k3 : xKp (fun k => k ≠ 104 ∧ k ≠ 106) w3 w4 := fun b k e hb hs => hL b k e hb hs.1 hs.2
  obtain ⟨h1, h2, h21, h4, h5, h6⟩ := h
  refine ⟨⟨fun i => if i = n then [(c0, nI (D + 1))] else T i, fun t ht => ?_, k1 _ _ _ ?_ (by omega), ?_, ?_, hl, ?_, fun t ht => ?_⟩, k1.mono (by intro k hk; omega)⟩
  · by_cases e : t = n
    · subst e
      dsimp only
      rw [if_pos rfl]
      refine ⟨⟨nI (D + 1), [], ?_⟩, fun r hr => ?_, fun d hd => ?_⟩
      · congr 2
        unfold bLeave
        rw [mU_j (by decide), mU_j (by decide), mU_j (by decide), mU_j (by decide), mU_eq]
      · rw [List.mem_singleton.mp hr]
        exact Int32.le_refl _
      · rw [lkp, if_neg (nI_ge (by omega) (by omega)), leave_j (by omega)]
        exact ((hI.2.2.2.2.2.2.2.2 t (Nat.le_refl t) hn).2.2 d (by omega)).symm
    · dsimp only
      rw [if_neg e, leave_ne e (by decide) (by decide), leave_j (j := 18) (by omega)]
      exact hT t (by omega)
  · unfold xFs at h1 ⊢
    rw [cB_j (by decide), cB_j (by decide), cB_j (by decide), leave_j (by omega), leave_j (by omega), leave_j (by omega)]
    exact h1
  · rw [cB_j (by decide), leave_j (by omega)]
    exact k1 _ _ _ h2 (by omega)
  · rw [cB_j (by decide), leave_j (by omega)]
    exact k1 _ _ _ h21 (by omega)
  · refine (h5.kp k1 (by omega) (by omega)).congr (fun i hi => ?_)
    have hm : L.getD i 0 < n := by
      rw [List.getD_eq_getElem?_getD, List.getElem?_eq_getElem hi]
      exact (hI.2.1.2.2 _ (List.getElem_mem hi)).1
    exact if_neg (by omega)
  · by_cases e : t = n
    · subst e
      dsimp only
      rw [if_pos rfl, if_pos rfl]
      refine ⟨.ref q2, ?_, ⟨q2, .null, rfl, ?_, rfl⟩⟩
      · rw [leave_cB (D := D) hI hn]
        exact k3 _ _ _ h3 (by omega)
      · rw [hD, nI_1] at h32
        exact k3 _ _ _ h32 (by omega)
    · dsimp only
      rw [if_neg e, if_neg e]
      obtain ⟨b, g1, g2⟩ := h6 t (by omega)
      refine ⟨b, ?_, tgAt.kp k1 (by omega) g2⟩
      have et : tFs (cB (bLeave (mU A 19 0 0) n ow z c0)) t b = tFs (cB A) t b := by
        have e13 : cB (bLeave (mU A 19 0 0) n ow z c0) 13 t = cB A 13 t := by
          show (if 0 < bLeave (mU A 19 0 0) n ow z c0 12 t then bLeave (mU A 19 0 0) n ow z c0 13 t else -1) = _
          rw [leave_j (j := 12) (by omega), leave_j (j := 13) (by omega)]
          rfl
        have ej : ∀ j, j ≠ 13 → j ≠ 5 → j ≠ 19 → cB (bLeave (mU A 19 0 0) n ow z c0) j t = cB A j t := fun j g1 g2 g3 => by rw [cB_j g1, cB_j g1, leave_ne e g2 g3]
        unfold tFs
        rw [e13, ej 6 (by decide) (by decide) (by decide), ej 7 (by decide) (by decide) (by decide), ej 10 (by decide) (by decide) (by decide), ej 8 (by decide) (by decide) (by decide), ej 9 (by decide) (by decide) (by decide), ej 15 (by decide) (by decide) (by decide), ej 11 (by decide) (by decide) (by decide), ej 12 (by decide) (by decide) (by decide), ej 14 (by decide) (by decide) (by decide)]
      rw [et]
      exact k1 _ _ _ g1 (by omega)
variable {l : Launch} {G : xG}
set_option maxRecDepth 100000 in
theorem tc_leave {ca th : Nat → Nat} {A : xS} {n : Nat} {L : List Nat} {T : Nat → xTg} {w : xW} (h : CRaw G w ca th (cB A) n L T) (hfl : l.stackTraces = false) {ow z c0 : Int32} {D : Nat} (hI : pI A n L) (hT : tgI A n D T) (hD : A 4 0 = nI D) (hD1 : D ≤ 1000) : xMetX l G yX2_leave cX2_leave 5 (some .int) ({ frames := 8, cells := 60, slots := 400, locals := 320 } : Room) [.ref (ca 0), .int ow, .int z, .int c0] w embI (fun r w' => (kLeave A ow z c0 = 0 ∧ r = (gLeave A L ow z c0).1) ∧ ∃ th', cQ G ca th' (gLeave A L ow z c0).2.1 (n + 1) (gLeave A L ow z c0).2.2 D w w') (fun E w' => ((E = "java/lang/IllegalArgumentException" ∧ kLeave A ow z c0 = 1) ∨ (E = "java/lang/IllegalStateException" ∧ kLeave A ow z c0 = 2)) ∧ cP G ca th (cB A) n L T w w') := by
  refine xMetX_of (by decide) (Nat.le_of_ble_eq_true rfl) ?_
  intro p e s m below meth c Γ hout
  have hn := hI.1.2.1
  have hn5 := hI.1.1
  have hlL : L.length ≤ 24 := Nat.le_trans hI.2.1.1 hn
  have hL : ∀ q ∈ L, q < n := fun q hq => (hI.2.1.2.2 q hq).1
  refine c_in h ?_
  refine x_iload_n Γ dX2_leave_0 rfl rfl ?_
  refine x_invS (emb := embI) (rm := ({ frames := 0, cells := 0, slots := 0, locals := 0 } : Room)) Γ [.int (ow)] (fun w1 r w2 => bq (rIn 0 7 (ow)) r ∧ w2 = w1) rfl (fun w1 h1 => t2_isPerson) k_196 k_1 k_194 k_195 hd_X2_isPerson ⟨Nat.le_of_ble_eq_true rfl, Nat.le_of_ble_eq_true rfl⟩ ⟨Nat.le_of_ble_eq_true rfl, Nat.le_of_ble_eq_true rfl⟩ (Nat.le_of_ble_eq_true rfl) dX2_leave_1 (fun r => ?_)
  refine m_same (fun q1 => ?_)
  refine x_if_eq (tgt := 24) Γ dX2_leave_4 (by decide) (fun c4 => ?_) (fun c4 => ?_)
  · have hk : kLeave A ow z c0 = 1 := by
      unfold kLeave
      exact if_pos (fun y => q1.eq c4 y.1)
    exact x_throw Γ hfl (by decide) k_110 k_10 (show (61, "owner, size or counter is out of range") ∈ xStr by simp [xStr]) at_IAE dX2_leave_24 dX2_leave_27 dX2_leave_28 dX2_leave_30 dX2_leave_33 hout ⟨Nat.le_of_ble_eq_true rfl, Nat.le_of_ble_eq_true rfl⟩ ⟨Nat.le_of_ble_eq_true rfl, Nat.le_of_ble_eq_true rfl⟩ (fun w9 h9 => ⟨Or.inl (⟨rfl, hk⟩), h9⟩) ⟨Nat.le_of_ble_eq_true rfl, Nat.le_of_ble_eq_true rfl⟩
  · refine x_iload_n Γ dX2_leave_7 rfl rfl ?_
    refine x_iconst (v := 1) Γ dX2_leave_8 (by decide) ?_
    refine x_icmp_lt (tgt := 24) Γ dX2_leave_9 (by decide) (fun c9 => ?_) (fun c9 => ?_)
    · have hk : kLeave A ow z c0 = 1 := by
        unfold kLeave
        exact if_pos (fun y => absurd c9 (Int32.not_lt.mpr y.2.1.1))
      exact x_throw Γ hfl (by decide) k_110 k_10 (show (61, "owner, size or counter is out of range") ∈ xStr by simp [xStr]) at_IAE dX2_leave_24 dX2_leave_27 dX2_leave_28 dX2_leave_30 dX2_leave_33 hout ⟨Nat.le_of_ble_eq_true rfl, Nat.le_of_ble_eq_true rfl⟩ ⟨Nat.le_of_ble_eq_true rfl, Nat.le_of_ble_eq_true rfl⟩ (fun w9 h9 => ⟨Or.inl (⟨rfl, hk⟩), h9⟩) ⟨Nat.le_of_ble_eq_true rfl, Nat.le_of_ble_eq_true rfl⟩
    · refine x_iload_n Γ dX2_leave_12 rfl rfl ?_
      refine x_iconst (v := 3) Γ dX2_leave_13 (by decide) ?_
      refine x_icmp_gt (tgt := 24) Γ dX2_leave_14 (by decide) (fun c14 => ?_) (fun c14 => ?_)
      · have hk : kLeave A ow z c0 = 1 := by
          unfold kLeave
          exact if_pos (fun y => absurd c14 (Int32.not_lt.mpr y.2.1.2))
        exact x_throw Γ hfl (by decide) k_110 k_10 (show (61, "owner, size or counter is out of range") ∈ xStr by simp [xStr]) at_IAE dX2_leave_24 dX2_leave_27 dX2_leave_28 dX2_leave_30 dX2_leave_33 hout ⟨Nat.le_of_ble_eq_true rfl, Nat.le_of_ble_eq_true rfl⟩ ⟨Nat.le_of_ble_eq_true rfl, Nat.le_of_ble_eq_true rfl⟩ (fun w9 h9 => ⟨Or.inl (⟨rfl, hk⟩), h9⟩) ⟨Nat.le_of_ble_eq_true rfl, Nat.le_of_ble_eq_true rfl⟩
      · refine x_iload_n Γ dX2_leave_17 rfl rfl ?_
        refine x_invS (emb := embI) (rm := ({ frames := 0, cells := 0, slots := 0, locals := 0 } : Room)) Γ [.int (c0)] (fun w1 r w2 => bq (rIn 0 4 (c0)) r ∧ w2 = w1) rfl (fun w1 h1 => t2_isCounter) k_106 k_1 k_104 k_105 hd_X2_isCounter ⟨Nat.le_of_ble_eq_true rfl, Nat.le_of_ble_eq_true rfl⟩ ⟨Nat.le_of_ble_eq_true rfl, Nat.le_of_ble_eq_true rfl⟩ (Nat.le_of_ble_eq_true rfl) dX2_leave_18 (fun r => ?_)
        refine m_same (fun q18 => ?_)
        refine x_if_ne (tgt := 34) Γ dX2_leave_21 (by decide) (fun c21 => ?_) (fun c21 => ?_)
        · have hR : rIn 0 7 ow ∧ rIn 1 3 z ∧ rIn 0 4 c0 := ⟨q1.ne c4, ⟨Int32.not_lt.mp c9, Int32.not_lt.mp c14⟩, q18.ne c21⟩
          refine x_aload_n Γ dX2_leave_34 rfl rfl ?_
          refine c_this Γ 2 rfl (by decide) k_60 rfl dX2_leave_35 ?_
          refine x_invV (emb := embI) (ci := 0) (rm := ({ frames := 0, cells := 0, slots := 0, locals := 0 } : Room)) Γ [] (fun w1 r w2 => r = nI n ∧ w2 = w1) rfl (fun w1 h1 => t_size h1.1.2.2.2.1) c_lst3 rfl k_91 k_4 k_88 k_89 k_90 hd_Jx4a65c_size_8abf5 ⟨Nat.le_of_ble_eq_true rfl, Nat.le_of_ble_eq_true rfl⟩ ⟨Nat.le_of_ble_eq_true rfl, Nat.le_of_ble_eq_true rfl⟩ (Nat.le_of_ble_eq_true rfl) dX2_leave_38 (fun r => ?_)
          refine m_same (fun e9 => ?_)
          subst e9
          refine x_istore Γ dX2_leave_41 rfl (by decide) ?_
          refine x_iload Γ dX2_leave_43 rfl ?_
          refine x_bipush (v := 24) Γ dX2_leave_45 (by decide) ?_
          refine x_icmp_ge (tgt := 59) Γ dX2_leave_47 (by decide) (fun c47 => ?_) (fun c47 => ?_)
          · have hk : kLeave A ow z c0 = 2 := by
              unfold kLeave
              rw [if_neg (not_not_intro hR), hn5, ixn2 (t := n) (by omega)]
              exact if_pos (Or.inl (by have h9 : n = 24 := Nat.le_antisymm hn ((nI_leI (a := 24) (by omega) (by omega)).mp c47); rw [h9]; rfl))
            exact x_throw Γ hfl (by decide) k_221 k_13 (show (73, "no room for it, or too many things") ∈ xStr by simp [xStr]) at_ISE dX2_leave_59 dX2_leave_62 dX2_leave_63 dX2_leave_65 dX2_leave_68 hout ⟨Nat.le_of_ble_eq_true rfl, Nat.le_of_ble_eq_true rfl⟩ ⟨Nat.le_of_ble_eq_true rfl, Nat.le_of_ble_eq_true rfl⟩ (fun w9 h9 => ⟨Or.inr (⟨rfl, hk⟩), h9⟩) ⟨Nat.le_of_ble_eq_true rfl, Nat.le_of_ble_eq_true rfl⟩
          · refine x_aload_n Γ dX2_leave_50 rfl rfl ?_
            refine x_iload_n Γ dX2_leave_51 rfl rfl ?_
            refine x_iload_n Γ dX2_leave_52 rfl rfl ?_
            refine x_invV (emb := embI) (ci := 3) (rm := ({ frames := 4, cells := 0, slots := 0, locals := 120 } : Room)) Γ [.int c0, .int z] (fun w1 r w2 => bq (rIn 0 4 c0 ∧ ldF (cB A) c0 n + z ≤ cB A 0 (ix c0)) r ∧ cP G ca th (cB A) n (L) (T) w1 w2) rfl (fun w1 h1 => t_hasRoom h1.1 hn) c_self rfl k_201 k_1 k_198 k_200 s_1 hd_X2_hasRoomFor ⟨Nat.le_of_ble_eq_true rfl, Nat.le_of_ble_eq_true rfl⟩ ⟨Nat.le_of_ble_eq_true rfl, Nat.le_of_ble_eq_true rfl⟩ (Nat.le_of_ble_eq_true rfl) dX2_leave_53 (fun r => ?_)
            refine c_then (B' := cB A) (L' := L) (T' := T) (fun qH => ?_)
            refine x_if_ne (tgt := 69) Γ dX2_leave_56 (by decide) (fun c56 => ?_) (fun c56 => ?_)
            · have hk : kLeave A ow z c0 = 0 := by
                unfold kLeave
                rw [if_neg (not_not_intro hR), hn5, ixn2 (t := n) (by omega)]
                exact if_neg (fun y => y.elim (fun y => c47 (by rw [y]; exact Int32.le_refl _)) (fun y => Int32.not_lt.mpr (by have := (qH.ne c56).2; rw [ldF_cB] at this; exact this) y))
              have hlt : n < 24 := by
                rcases Nat.lt_or_ge n 24 with h9 | h9
                · exact h9
                · exact absurd (nI_le (a := 24) h9 (by omega)) c47
              refine x_ends ?_
              refine x_pin (fun w1 hw1 => ?_)
              obtain ⟨hC1, hK1⟩ := hw1
              refine x_aload_n Γ dX2_leave_69 rfl rfl ?_
              refine x_getf Γ kl3 2 (xv_get hC1.1 rfl) (by decide) k_60 (Or.inl rfl) dX2_leave_70 ?_
              refine x_new (F := fun q w2 => w2 = xu w1 q (200 + n, .inr (2, [.int 0, .int 0, .int 0, .int 0, .int 0, .int 0, .null, .int 0, .int 0, .int 0, .int 0, .int 0])) ∧ w1 q = none) Γ kl2 [.int 0, .int 0, .int 0, .int 0, .int 0, .int 0, .null, .int 0, .int 0, .int 0, .int 0, .int 0] (200 + n) (by decide) k_220 k_237 k_14 (fun w9 q e9 h9 => by subst e9; exact ⟨rfl, h9⟩) ⟨Nat.le_of_ble_eq_true rfl, Nat.le_of_ble_eq_true rfl⟩ dX2_leave_73 ?_
              intro q
              refine x_then (P2 := fun w2 => w2 = xu w1 q (200 + n, .inr (2, [.int 0, .int 0, .int 0, .int 0, .int 0, .int 0, .null, .int 0, .int 0, .int 0, .int 0, .int 0]))) (φ := w1 q = none) (fun w9 h9 => ⟨h9.2, h9.1⟩) (fun hq => ?_)
              have hk12 : ∀ b x, w1 b = some x → (xu w1 q (200 + n, .inr (2, [.int 0, .int 0, .int 0, .int 0, .int 0, .int 0, .null, .int 0, .int 0, .int 0, .int 0, .int 0]))) b = some x := fun b x hb => xu_new hb hq
              refine x_dup Γ dX2_leave_76 rfl ?_
              refine x_iload Γ dX2_leave_77 rfl ?_
              refine x_iload_n Γ dX2_leave_79 rfl rfl ?_
              refine x_iload_n Γ dX2_leave_80 rfl rfl ?_
              refine x_iload_n Γ dX2_leave_81 rfl rfl ?_
              refine x_aload_n Γ dX2_leave_82 rfl rfl ?_
              refine x_getf (v := .int (A 4 0)) Γ kl3 5 (fun w9 e9 => by rw [e9]; exact ⟨_, _, hk12 _ _ hC1.1, rfl⟩) (by decide) k_63 (Or.inl rfl) dX2_leave_83 ?_
              refine x_invIN (rm := ({ frames := 2, cells := 1, slots := 3, locals := 60 } : Room)) Γ [.int (nI n), .int ow, .int z, .int c0, .int (A 4 0)] (fun w2 _ w3 => ∃ q2, w2 q2 = none ∧ q2 ≠ q ∧ w3 = xu (xu w2 q2 (110, .inr (1, [.int c0, .int (A 4 0 + 1), .null]))) q (200 + n, .inr (2, [.int (nI n), .int ow, .int z, .int (A 4 0), .int (20 * z), .int c0, .ref q2, .int (-1), .int 0, .int 0, .int (-1), .int (-1)]))) rfl (fun w2 h2 => t_thing (by rw [h2]; exact xu_eq _ _ _)) rfl k_240 k_14 k_238 k_239 hd_X1_init ⟨Nat.le_of_ble_eq_true rfl, Nat.le_of_ble_eq_true rfl⟩ ⟨Nat.le_of_ble_eq_true rfl, Nat.le_of_ble_eq_true rfl⟩ (Nat.le_of_ble_eq_true rfl) dX2_leave_86 (fun _ => ?_)
              refine x_pin (fun w3 hw3 => ?_)
              obtain ⟨w2, hw2, q2, hq2, hqq, hw3⟩ := hw3
              have hk13 : ∀ b x, w1 b = some x → w3 b = some x := fun b x hb => by
                rw [hw3, xu_ne (fun y => by rw [y, hq] at hb; cases hb)]
                exact xu_new (by rw [hw2]; exact hk12 b x hb) hq2
              have h3q : w3 q = some (200 + n, .inr (2, [.int (nI n), .int ow, .int z, .int (A 4 0), .int (20 * z), .int c0, .ref q2, .int (-1), .int 0, .int 0, .int (-1), .int (-1)])) := by rw [hw3]; exact xu_eq _ _ _
              have h32 : w3 q2 = some (110, .inr (1, [.int c0, .int (A 4 0 + 1), .null])) := by rw [hw3, xu_ne hqq]; exact xu_eq _ _ _
              have hKk : xKp (fun _ => True) w1 w3 := fun b k e hb _ => hk13 b _ hb
              have hLs := hC1.2.2.2.1.kp hKk trivial trivial
              refine x_invV (emb := embI) (ci := 0) (rm := ({ frames := 6, cells := 1, slots := 40, locals := 205 } : Room)) Γ [.ref q] (fun w1 _ w4 => LstAt G w4 (ca 3) 104 (n + 1) (fun i => if i = n then q else th i) ∧ KpL 104 w1 w4) rfl (fun w9 e9 => by rw [e9]; exact t_add hLs hn (fun j hj => by obtain ⟨b9, g1, g2⟩ := hC1.2.2.2.2.2 j hj; exact ⟨_, _, hk13 _ _ g1, by omega, by omega⟩) h3q ⟨by omega, by omega⟩) (fun w9 e9 => by rw [e9]; exact hLs.obj) rfl k_312 k_4 k_309 k_310 k_311 hd_Jx4a65c_add_9ea2d ⟨Nat.le_of_ble_eq_true rfl, Nat.le_of_ble_eq_true rfl⟩ ⟨Nat.le_of_ble_eq_true rfl, Nat.le_of_ble_eq_true rfl⟩ (Nat.le_of_ble_eq_true rfl) dX2_leave_89 (fun r => ?_)
              refine x_pop Γ dX2_leave_92 rfl ?_
              refine x_iload Γ dX2_leave_93 rfl ?_
              refine x_iret Γ rfl rfl (fun w2 e2 => ?_) ⟨Nat.le_of_ble_eq_true rfl, Nat.le_of_ble_eq_true rfl⟩ dX2_leave_95
              obtain ⟨w9, e9, h7, h8⟩ := e2
              unfold gLeave
              rw [fin_ok hk, hn5, ixn2 (by omega)]
              subst e9
              have hfin := hC1.leave hI hT hD hD1 hlt hk13 h3q h32 h7 h8
              exact ⟨⟨hk, rfl⟩, _, hfin.1, hK1.tr hfin.2⟩
            · have hk : kLeave A ow z c0 = 2 := by
                unfold kLeave
                rw [if_neg (not_not_intro hR), hn5, ixn2 (t := n) (by omega)]
                exact if_pos (Or.inr (Int32.not_le.mp (fun y => qH.eq c56 ⟨hR.2.2, by rw [ldF_cB]; exact y⟩)))
              exact x_throw Γ hfl (by decide) k_221 k_13 (show (73, "no room for it, or too many things") ∈ xStr by simp [xStr]) at_ISE dX2_leave_59 dX2_leave_62 dX2_leave_63 dX2_leave_65 dX2_leave_68 hout ⟨Nat.le_of_ble_eq_true rfl, Nat.le_of_ble_eq_true rfl⟩ ⟨Nat.le_of_ble_eq_true rfl, Nat.le_of_ble_eq_true rfl⟩ (fun w9 h9 => ⟨Or.inr (⟨rfl, hk⟩), h9⟩) ⟨Nat.le_of_ble_eq_true rfl, Nat.le_of_ble_eq_true rfl⟩
        · have hk : kLeave A ow z c0 = 1 := by
            unfold kLeave
            exact if_pos (fun y => q18.eq c21 y.2.2)
          exact x_throw Γ hfl (by decide) k_110 k_10 (show (61, "owner, size or counter is out of range") ∈ xStr by simp [xStr]) at_IAE dX2_leave_24 dX2_leave_27 dX2_leave_28 dX2_leave_30 dX2_leave_33 hout ⟨Nat.le_of_ble_eq_true rfl, Nat.le_of_ble_eq_true rfl⟩ ⟨Nat.le_of_ble_eq_true rfl, Nat.le_of_ble_eq_true rfl⟩ (fun w9 h9 => ⟨Or.inl (⟨rfl, hk⟩), h9⟩) ⟨Nat.le_of_ble_eq_true rfl, Nat.le_of_ble_eq_true rfl⟩
end XC9
end
section
section XWR
/-! methods with an exception table that catch what their callee throws -/
def xMetW {α : Type} (l : Launch) (G : xG) (y : MethodName) (cc : ByteArray) (maxL : Nat) (rt : Option FieldType) (hh : List (Nat × Nat × Nat × Nat)) (rm : Room) (av : List Value) (w : xW) (emb : α → Option Value) (post : α → xW → Prop) : Prop :=
  Met l y [.codeWith y cc maxL rt hh] rm (xPc G av w) (xQ G emb post) rm.cells rm.slots (xA G)
theorem xMetW_of {α : Type} {l : Launch} {G : xG} {y : MethodName} {cc : ByteArray} {maxL : Nat} {rt : Option FieldType} {hh : List (Nat × Nat × Nat × Nat)} {rm : Room} {av : List Value} {w : xW} {emb : α → Option Value} {post : α → xW → Prop} (hy : plainName y.cls = true) (hn : (lg_sl av).length ≤ maxL)
    (body : ∀ p e s m below meth c, xC p s m meth c G cc maxL y.cls rt → c.exceptionTable.toList = tableOf hh → xJ p l e rm s m av.toArray below meth c G maxL (MQ below (xQ G emb post) av.toArray s rm.cells rm.slots (xA G)) (fun w' => w' = w) 0 0 0 (lv_args 0 av) []) : xMetW l G y cc maxL rt hh rm av w emb post := by
  unfold xMetW Met
  refine MetFree.of_bodyS (code := cc) (maxLocals := maxL) (ret := rt) hy ?_ ?_
  · intro args s m h hn
    obtain ⟨m9, meth, c, hn9, h1, h2, h3, h4, -, h5, h6, -⟩ := Cond.codeWith_spec (atoms_spec (ws := [.codeWith y cc maxL rt hh]) h _ List.mem_cons_self)
    cases hn.symm.trans hn9
    exact ⟨meth, c, h1, h2, h3, h4, h5, h6⟩
  · intro p e s m args below meth c s₁ B hml hP _
    have hh0 : s₁.heap = s.heap := by rw [B.state]; rfl
    obtain ⟨rfl, hE, hH⟩ := hP
    have htab := vx_table (x := y) B (atoms_spec (ws := [.codeWith y cc maxL rt hh]) B.pre _ List.mem_cons_self)
    have K := body p e s m below meth c ⟨B.exec, B.bytes, hml, findClass_of_methodNamed B.named, B.returns, B.notSynchronized, hE, hH.1⟩ htab w s.heap [] _ rfl hH va_S.rf (lv_entry av hn)
    rw [← lg_entry_eq] at K
    obtain ⟨t, a1, o, b1, b2, b3⟩ := K s₁ hh0 (Stand.of_body B)
    exact ⟨t, o, a1, b1, b2, b3⟩
variable {p : Program} {l : Launch} {e : Env} {R : Room} {s : State} {m : MethodId} {args : Array Value} {below : List Frame} {meth : Method} {c : Code} {G : xG} {cc : ByteArray} {nL : Nat} {own : String} {rt : Option FieldType} {Q : State → Prop} {P P' : xW → Prop} {k n pc : Nat} {lv : List (Nat × Value)} {st : List Value}
/-- something of class E is on its way out of the call -/
def xJX (p : Program) (l : Launch) (e : Env) (R : Room) (s : State) (m : MethodId) (args : Array Value) (below : List Frame) (meth : Method) (c : Code) (G : xG) (nL : Nat) (Q : State → Prop) (P : xW → Prop) (E : String) (k n pc : Nat) (lv : List (Nat × Value)) : Prop :=
  ∀ (w : xW) (H : Heap) (locs : List Loc) (ls : Array Slot) (st : List Value) (q : Nat) (ce : Cell), P w → xH G w H → va_S (xA G) s.heap H locs → lv_has ls nL lv → H[q]? = some ce → ce.vm = .none → s.vm.findClass E = some ce.cls → vx_W p l e R s m args below meth c H locs k n Q (F0 m pc ls st) q
theorem x_catchE (Γ : xC p s m meth c G cc nL own rt) {E name : String} (pre : List ExceptionTableEntry) (x : ExceptionTableEntry) (suf : List ExceptionTableEntry) (htab : c.exceptionTable.toList = pre ++ x :: suf) (hpass : ∀ z ∈ pre, z.catchType ≠ 0 ∧ ∃ nm : String, Cond.classLink own z.catchType nm ∈ xAll ∧ (E, nm) ∈ xNcs) (hcov : covers x pc = true) (h0 : x.catchType ≠ 0) (hlink : Cond.classLink own x.catchType name ∈ xAll) (hcast : Cond.castable E name ∈ xAll)
    (kk : ∀ q, xJ p l e R s m args below meth c G nL Q P k n x.handlerPc lv [.ref q]) : xJX p l e R s m args below meth c G nL Q P E k n pc lv := fun w H locs ls st q ce hp hh hs hl hc hv hcl => by
  obtain ⟨hx, hb, hml, hown, hr, hlk, hE, hB⟩ := Γ
  exact vx_catch hown pre x suf htab (fun z hz => by
    obtain ⟨h1, nm, h2, h3⟩ := hpass z hz
    exact Or.inr ⟨h1, nm, hE.w h2, hE.2.2.2.2.2.2.2.2.2.2.2 _ h3⟩) hcov h0 (hE.w hlink) (hE.w hcast) hc hv hcl (kk q w H locs ls hp hh hs hl)
theorem x_callH {α : Type} {emb : α → Option Value} {post : xW → α → xW → Prop} {px : xW → String → xW → Prop} {mc ms : Nat} {st0 : List Value} {a : Array Value}
    (hr : ∀ w H locs ls, P w → xH G w H → va_S (xA G) s.heap H locs → lv_has ls nL lv → vx_Run p l e R s m args below meth c H locs k n mc ms (F0 m pc ls st0) st (xQ G emb (post w) a) (xX G (px w)) (xA G))
    (kk : ∀ v, xJ p l e R s m args below meth c G nL Q (fun w' => ∃ w, P w ∧ post w v w') (k + mc) (n + ms) (pc + 3) lv ((emb v).toList ++ st))
    (kx : ∀ E, xJX p l e R s m args below meth c G nL Q (fun w' => ∃ w, P w ∧ px w E w') E (k + mc) (n + ms) pc lv) : xJ p l e R s m args below meth c G nL Q P k n pc lv st0 := fun w H locs ls hp hh hs hl => by
  intro T hT X
  rcases hr w H locs ls hp hh hs hl T hT X with ⟨v, st₀, t, T', L, h0, X', hL, e1, e2, ⟨⟨u, w', hv, hpo, hh'⟩, hF⟩, st9⟩ | ⟨q, st₀, t, T', L, E, ce, h0, X', hL, e1, e2, ⟨⟨w', hpx, hh'⟩, hF⟩, hce, hcv, hcl, st9⟩
  · cases hv
    obtain ⟨k1, k2, k3⟩ := vx_keep h0 e1 hs (fun _ _ h => h) (fun _ h => h) hL hF
    obtain ⟨t2, a1, b1⟩ := kk u w' T'.heap (locs ++ L) ls ⟨w, hp, hpo⟩ (by rw [e1]; exact hh') k3 hl T' rfl X'
    exact ⟨t2, st9 t2 a1, b1⟩
  · obtain ⟨k1, k2, k3⟩ := vx_keep h0 e1 hs (fun _ _ h => h) (fun _ h => h) hL hF
    obtain ⟨t2, a1, b1⟩ := kx E w' T'.heap (locs ++ L) ls st q ce ⟨w, hp, hpx⟩ (by rw [e1]; exact hh') k3 hl (by rw [e1]; exact hce) hcv hcl T' rfl X'
    exact ⟨t2, st9.trans a1, b1⟩
theorem x_invVH {α : Type} {emb : α → Option Value} (Γ : xC p s m meth c G cc nL own rt) {y : MethodName} {bytes : ByteArray} {maxL idx b ci : Nat} {ret : Option FieldType} {rm : Room} {T : u_T} {N : Nat} {st0 : List Value} (As : List Value) (post : xW → α → xW → Prop) (px : xW → String → xW → Prop) (hst : st0 = As.reverse ++ .ref b :: st)
    (hM : ∀ w, P w → xMetX l G y bytes maxL ret rm (.ref b :: As) w emb (post w) (px w)) (hb : ∀ w, P w → ∃ k0 fs, w b = some (k0, .inr (ci, fs))) (hc : vwCl[ci]? = some (y.cls, T, N))
    (hcode : Cond.code y bytes maxL ret ∈ xAll) (hini : Cond.initialized y.cls ∈ xAll) (hlink : Cond.methodLink own idx y ∈ xAll) (hin : Cond.instanceMethod y ∈ xAll) (hsel : Cond.selects y.cls y y ∈ xAll)
    (hdd : y.cls ≠ "java/lang/invoke/MethodHandle" ∧ y.cls ≠ "java/lang/invoke/VarHandle" ∧ (parseMethodDescriptor y.desc).map (fun d => d.parameters.length) = some As.length) (hR : rm.frames + 1 ≤ R.frames ∧ 8 + (maxL + 11) + rm.locals ≤ R.locals) (hf : k + rm.cells ≤ R.cells ∧ n + rm.slots ≤ R.slots) (hW : (st.map fun v => v.category).sum ≤ 8) (hd : decode cc pc = .ok (.invokevirtual idx, 3))
    (kk : ∀ v, xJ p l e R s m args below meth c G nL Q (fun w' => ∃ w, P w ∧ post w v w') (k + rm.cells) (n + rm.slots) (pc + 3) lv ((emb v).toList ++ st))
    (kx : ∀ E, xJX p l e R s m args below meth c G nL Q (fun w' => ∃ w, P w ∧ px w E w') E (k + rm.cells) (n + rm.slots) pc lv) : xJ p l e R s m args below meth c G nL Q P k n pc lv st0 := by
  subst hst
  refine x_callH (emb := emb) (post := post) (px := px) (mc := rm.cells) (ms := rm.slots) (a := (.ref b :: As).toArray) (fun w H locs ls hp hh hs hl => ?_) kk kx
  obtain ⟨k0, fs, hbw⟩ := hb w hp
  exact vx_runV (As := As) (rest := st) (xFix Γ) (hM w hp) ⟨xCallB Γ hcode hini hlink hdd hR, Γ.2.2.2.2.2.2.1.w hin, Γ.2.2.2.2.2.2.1.w hsel⟩ (xPreV Γ hh hs hbw hc As) rfl rfl hl.1 rfl (lv_room hW) hd hf
theorem x_invSW {α : Type} {emb : α → Option Value} (Γ : xC p s m meth c G cc nL own rt) {y : MethodName} {bytes : ByteArray} {maxL idx : Nat} {ret : Option FieldType} {hh : List (Nat × Nat × Nat × Nat)} {rm : Room} {st0 : List Value} (As : List Value) (post : xW → α → xW → Prop) (hst : st0 = As.reverse ++ st)
    (hM : ∀ w, P w → xMetW l G y bytes maxL ret hh rm As w emb (post w))
    (hcode : Cond.codeWith y bytes maxL ret hh ∈ xAll) (hini : Cond.initialized y.cls ∈ xAll) (hlink : Cond.methodLink own idx y ∈ xAll) (hin : Cond.static y ∈ xAll)
    (hdd : y.cls ≠ "java/lang/invoke/MethodHandle" ∧ y.cls ≠ "java/lang/invoke/VarHandle" ∧ (parseMethodDescriptor y.desc).map (fun d => d.parameters.length) = some As.length) (hR : rm.frames + 1 ≤ R.frames ∧ 8 + (maxL + 11) + rm.locals ≤ R.locals) (hf : k + rm.cells ≤ R.cells ∧ n + rm.slots ≤ R.slots) (hW : (st.map fun v => v.category).sum ≤ 8) (hd : decode cc pc = .ok (.invokestatic idx, 3))
    (kk : ∀ v, xJ p l e R s m args below meth c G nL Q (fun w' => ∃ w, P w ∧ post w v w') (k + rm.cells) (n + rm.slots) (pc + 3) lv ((emb v).toList ++ st)) : xJ p l e R s m args below meth c G nL Q P k n pc lv st0 := by
  subst hst
  refine x_call (emb := emb) (post := post) (mc := rm.cells) (ms := rm.slots) (a := As.toArray) (fun w H locs ls hp hh hs hl => ?_) kk
  refine vx_runSW (As := As) (rest := st) (xFix Γ) (hM w hp) ⟨⟨rfl, rfl, hR.1, hR.2, fun w1 hw1 a' U hW1 => ?_, List.mem_cons_self⟩, Γ.2.2.2.2.2.2.1.w hcode, Γ.2.2.2.2.2.2.1.w hini, ⟨hdd.1, hdd.2.1⟩, fun sig h9 => ?_, Γ.2.2.2.2.2.2.1.w hlink, Γ.2.2.2.2.2.2.1.w hin⟩ (xPre Γ hh hs As) rfl rfl hl.1 rfl (lv_room hW) hd hf
  · rcases List.mem_singleton.mp hw1 with rfl
    exact va_Nw.use (xAll_tb hcode) (xNw_warm (xAll_ok hcode) hW1 (Γ.2.2.2.2.2.2.1.2.1 _ hcode))
  · have h2 := hdd.2.2
    rw [h9] at h2
    exact (Option.some.inj h2).symm
/-! what the wrappers keep -/
theorem CRaw.kp {w w' : xW} {ca th : Nat → Nat} {B : xS} {N : Nat} {L : List Nat} {T : Nat → xTg} (h : CRaw G w ca th B N L T) (hk : xKp (fun k => 100 ≤ k) w w') : CRaw G w' ca th B N L T := by
  obtain ⟨h1, h2, h3, h4, h5, h6⟩ := h
  refine ⟨hk _ _ _ h1 (by omega), hk _ _ _ h2 (by omega), hk _ _ _ h3 (by omega), h4.kp hk (by omega) (by omega), h5.kp hk (by omega) (by omega), fun t ht => ?_⟩
  obtain ⟨b, g1, g2⟩ := h6 t ht
  exact ⟨b, hk _ _ _ g1 (by omega), tgAt.kp hk (by omega) g2⟩
end XWR
end
section
section XST
def fI (A : xS) (n : Nat) (L : List Nat) (D : Nat) : Prop := pI A n L ∧ calI A n ∧ A 4 0 = nI D ∧ D ≤ 1000
theorem fI_thr {A : xS} {n D : Nat} {L : List Nat} (h : fI A n L D) (x : Int32) : fI (mU A 19 0 x) n L D := h
theorem pI_at {A A' : xS} {n t : Nat} {L L' : List Nat} (h : pI A n L) (ht : t < n) (hs : ∀ j, j = 5 ∨ j = 4 ∨ j = 6 ∨ j = 18 → A' j = A j) (h13 : ∃ o, o < 8 ∧ A' 13 t = nI o) (hne : ∀ i, i ≠ t → ∀ j, j = 8 ∨ j = 9 ∨ j = 11 ∨ j = 12 ∨ j = 13 ∨ j = 14 ∨ j = 15 → A' j i = A j i)
    (hL' : lI A' n L') (hLt : ∀ q, q ≠ t → (q ∈ L' ↔ q ∈ L)) (a15 : t ∉ L' → A' 15 t = -1) (a9 : 0 ≤ A' 9 t) (aL : t ∈ L' → A' 9 t < 5) (a12 : A' 12 t = 0 ∨ (0 < A' 12 t ∧ A' 9 t < 5)) (a14 : A' 12 t = 0 → A' 14 t = -1) (a8 : 0 ≤ A' 8 t) : pI A' n L' := by
  obtain ⟨⟨g1, g2, g3, g4, g5⟩, h2, h3, h4, h5, h6, h7, h8, h9⟩ := h
  refine ⟨⟨by rw [hs 5 (by omega)]; exact g1, g2, by rw [hs 4 (by omega)]; exact g3, by rw [hs 6 (by omega)]; exact g4, fun q hq => ?_⟩, hL', fun q hq hL => ?_, fun q hq => ?_, fun q hq => ?_, fun q hq => ?_, fun q hq => ?_, fun q hq => ?_, fun q hq hq2 => ?_⟩
  · by_cases e : q = t
    · subst e; exact h13
    · rw [hne q e 13 (by omega)]; exact g5 q hq
  · by_cases e : q = t
    · subst e; exact a15 hL
    · rw [hne q e 15 (by omega)]; exact h3 q hq (fun z => hL ((hLt q e).mpr z))
  · by_cases e : q = t
    · subst e; exact a9
    · rw [hne q e 9 (by omega)]; exact h4 q hq
  · by_cases e : q = t
    · subst e; exact aL hq
    · rw [hne q e 9 (by omega)]; exact h5 q ((hLt q e).mp hq)
  · by_cases e : q = t
    · subst e; exact a12
    · rw [hne q e 12 (by omega), hne q e 9 (by omega)]; exact h6 q hq
  · by_cases e : q = t
    · subst e; exact a14
    · rw [hne q e 12 (by omega), hne q e 14 (by omega)]; exact h7 q hq
  · by_cases e : q = t
    · subst e; exact a8
    · rw [hne q e 8 (by omega)]; exact h8 q hq
  · have e : q ≠ t := by omega
    rw [hne q e 11 (by omega), hne q e 12 (by omega), hs 18 (by omega)]
    exact h9 q hq hq2
theorem calI_at {A A' : xS} {n t : Nat} (h : calI A n) (h4 : A' 4 = A 4) (hne : ∀ i, i ≠ t → A' 14 i = A 14 i) (c : A' 14 t = -1 ∨ A' 4 0 ≤ A' 14 t) : calI A' n := fun q hq => by
  by_cases e : q = t
  · subst e; exact c
  · rw [hne q e, h4]; exact h q hq
theorem fin_cases {k : Int32} {A : xS} {L : List Nat} {b : xR} {P : xS → List Nat → Prop} (h1 : k = 0 → P b.2.1 b.2.2) (h2 : P (mU A 19 0 k) L) : P (fin k A L b).2.1 (fin k A L b).2.2 := by
  by_cases h : k = 0
  · rw [fin_ok h]; exact h1 h
  · rw [fin_no rfl h]; exact h2
theorem sub_0 {p q : Prop} [Decidable p] [Decidable q] {x y z : Int32} (h : (if p then x else y) = z) (hx : ¬ x = z) : ¬ p ∧ y = z := by
  by_cases e : p
  · rw [if_pos e] at h; exact absurd h hx
  · rw [if_neg e] at h; exact ⟨e, h⟩
variable {A : xS} {n D : Nat} {L : List Nat}
theorem st_setRoom (h : fI A n L D) (c r : Int32) : fI (gSetRoom A L c r).2.1 n (gSetRoom A L c r).2.2 D := fin_cases (P := fun A' L' => fI A' n L' D) (fun _ => h) (fI_thr h _)
theorem st_setVan (h : fI A n L D) (r : Int32) : fI (gSetVan A L r).2.1 n (gSetVan A L r).2.2 D := fin_cases (P := fun A' L' => fI A' n L' D) (fun _ => h) (fI_thr h _)
theorem st_T1 (j : Nat) (h : fI A n L D) (x : Int32) : fI (gT1 j A L x).2.1 n (gT1 j A L x).2.2 D := fin_cases (P := fun A' L' => fI A' n L' D) (fun _ => h) (fI_thr h _)
theorem st_whereOn (h : fI A n L D) (x v : Int32) : fI (gWhereOn A L x v).2.1 n (gWhereOn A L x v).2.2 D := fin_cases (P := fun A' L' => fI A' n L' D) (fun _ => h) (fI_thr h _)
theorem st_load (h : fI A n L D) (c : Int32) : fI (gLoad A L c).2.1 n (gLoad A L c).2.2 D := fin_cases (P := fun A' L' => fI A' n L' D) (fun _ => h) (fI_thr h _)
theorem st_purse (h : fI A n L D) (x : Int32) : fI (gPurse A L x).2.1 n (gPurse A L x).2.2 D := fin_cases (P := fun A' L' => fI A' n L' D) (fun _ => h) (fI_thr h _)
theorem st_wish (h : fI A n L D) (x : Int32) : fI (gWish A L x).2.1 n (gWish A L x).2.2 D := fin_cases (P := fun A' L' => fI A' n L' D) (fun _ => h) (fI_thr h _)
theorem lI_row {A A' : xS} (h : lI A n L) (h15 : ∀ q, q ∈ L → A' 15 q = A 15 q) : lI A' n L := ⟨h.1, h.2.1, fun q hq => by rw [h15 q hq]; exact h.2.2 q hq⟩
theorem st_fetch (h : fI A n L D) (x : Int32) : fI (gFetch A L x).2.1 n (gFetch A L x).2.2 D := by
  refine fin_cases (P := fun A' L' => fI A' n L' D) (fun hk => ?_) (fI_thr h _)
  dsimp only
  obtain ⟨h1, hk⟩ := sub_0 (q := ¬ kT A x) hk (by decide)
  obtain ⟨h2, -⟩ := sub_0 (q := kT A x) hk (by decide)
  obtain ⟨t, htn, ht, rfl⟩ := aI_kT h.1.1 (Decidable.not_not.mp h1)
  rw [ixn ht] at h2 ⊢
  have hl : A 12 t = 0 := (h.1.2.2.2.2.2.1 t htn).elim id (fun z => absurd (Or.inr z.1) h2)
  have hne : ∀ i, i ≠ t → ∀ j, j = 8 ∨ j = 9 ∨ j = 11 ∨ j = 12 ∨ j = 13 ∨ j = 14 ∨ j = 15 → bFetch (mU A 19 0 0) t j i = A j i := fun i hi j hj => by
    unfold bFetch
    rw [mU_i hi, mU_j (by omega), mU_i hi, mU_j (by omega)]
  have e9 : bFetch (mU A 19 0 0) t 9 t = 10 := by
    unfold bFetch
    rw [mU_j (by decide), mU_j (by decide), mU_eq]
  refine ⟨pI_at h.1 htn (fun j hj => by unfold bFetch; rw [mU_j (by omega), mU_j (by omega), mU_j (by omega), mU_j (by omega)]) (h.1.1.2.2.2.2 t ht) hne (lI_for h.1.2.1 (fun q hq => hne q hq 15 (by omega))) (fun q hq => ⟨fun z => (fFor_mem z).1, fun z => fFor_in z hq⟩) (fun _ => by unfold bFetch; rw [mU_eq]) (by rw [e9]; decide) (fun z => absurd rfl (fFor_mem z).2) (Or.inl hl) (fun _ => h.1.2.2.2.2.2.2.1 t htn hl) (h.1.2.2.2.2.2.2.2.1 t htn), calI_at (t := t) h.2.1 rfl (fun i hi => hne i hi 14 (by omega)) (Or.inl (h.1.2.2.2.2.2.2.1 t htn hl)), h.2.2⟩
theorem st_want (h : fI A n L D) (x c : Int32) : fI (gWant A L x c).2.1 n (gWant A L x c).2.2 D := by
  refine fin_cases (P := fun A' L' => fI A' n L' D) (fun hk => ?_) (fI_thr h _)
  dsimp only
  obtain ⟨h1, hk⟩ := sub_0 (q := ¬ kT A x) hk (by decide)
  obtain ⟨h2, hk⟩ := sub_0 (q := kT A x) hk (by decide)
  obtain ⟨h3, -⟩ := sub_0 (q := kT A x) hk (by decide)
  obtain ⟨t, htn, ht, rfl⟩ := aI_kT h.1.1 (Decidable.not_not.mp h1)
  obtain ⟨ci, hci, rfl⟩ := rIn_nat (M := 4) (n := 4) (by decide) (Decidable.not_not.mp h2)
  rw [ixn ht] at h3 ⊢
  have hat : A 9 t < 5 := Decidable.not_not.mp (fun z => h3 (Or.inl z))
  have hne : ∀ i, i ≠ t → ∀ j, j = 8 ∨ j = 9 ∨ j = 11 ∨ j = 12 ∨ j = 13 ∨ j = 14 ∨ j = 15 → mU (mU (mU A 19 0 0) 15 t (-1)) 15 t (nI ci) j i = A j i := fun i hi j hj => by
    rw [mU_i hi, mU_i hi, mU_j (by omega)]
  have hnin : t ∉ fFor t L := fun z => (fFor_mem z).2 rfl
  refine ⟨pI_at h.1 htn (fun j hj => by rw [mU_j (by omega), mU_j (by omega), mU_j (by omega)]) (h.1.1.2.2.2.2 t ht) hne ?_ (fun q hq => ?_) (fun z => absurd (List.mem_append_right _ List.mem_cons_self) z) (h.1.2.2.2.1 t htn) (fun _ => hat) (h.1.2.2.2.2.2.1 t htn) (h.1.2.2.2.2.2.2.1 t htn) (h.1.2.2.2.2.2.2.2.1 t htn), h.2⟩
  · refine ⟨?_, ?_, fun q hq => ?_⟩
    · rw [List.length_append]
      exact fFor_lt h.1.2.1.2.1 (fun q hq => (h.1.2.1.2.2 q hq).1) htn
    · refine List.nodup_append.mpr ⟨fFor_nd h.1.2.1.2.1, by simp, fun a ha b hb => ?_⟩
      rw [List.mem_singleton.mp hb]
      exact (fFor_mem ha).2
    · rcases List.mem_append.mp hq with hq | hq
      · have hm := fFor_mem hq
        rw [hne q hm.2 15 (by omega)]
        exact h.1.2.1.2.2 q hm.1
      · rw [List.mem_singleton.mp hq, mU_eq]
        exact ⟨htn, ci, by omega, rfl⟩
  · constructor
    · intro z
      rcases List.mem_append.mp z with z | z
      · exact (fFor_mem z).1
      · exact absurd (List.mem_singleton.mp z) hq
    · intro z
      exact List.mem_append_left _ (fFor_in z hq)
theorem st_value (h : fI A n L D) (x v : Int32) : fI (gValue A L x v).2.1 n (gValue A L x v).2.2 D := by
  refine fin_cases (P := fun A' L' => fI A' n L' D) (fun hk => ?_) (fI_thr h _)
  dsimp only
  obtain ⟨h1, hk⟩ := sub_0 (q := ¬ kT A x) hk (by decide)
  obtain ⟨h2, hk⟩ := sub_0 (q := kT A x) hk (by decide)
  obtain ⟨t, htn, ht, rfl⟩ := aI_kT h.1.1 (Decidable.not_not.mp h1)
  rw [ixn ht]
  have hne : ∀ i, i ≠ t → ∀ j, j = 8 ∨ j = 9 ∨ j = 11 ∨ j = 12 ∨ j = 13 ∨ j = 14 ∨ j = 15 → mU (mU A 19 0 0) 8 t v j i = A j i := fun i hi j hj => by
    rw [mU_i hi, mU_j (by omega)]
  exact ⟨pI_at h.1 htn (fun j hj => by rw [mU_j (by omega), mU_j (by omega)]) (h.1.1.2.2.2.2 t ht) hne h.1.2.1 (fun q hq => Iff.rfl) (h.1.2.2.1 t htn) (h.1.2.2.2.1 t htn) (h.1.2.2.2.2.1 t) (h.1.2.2.2.2.2.1 t htn) (h.1.2.2.2.2.2.2.1 t htn) (by rw [mU_eq]; exact (Decidable.not_not.mp h2).1), h.2⟩
theorem st_doubt (h : fI A n L D) (x : Int32) : fI (gDoubt A L x).2.1 n (gDoubt A L x).2.2 D := by
  refine fin_cases (P := fun A' L' => fI A' n L' D) (fun hk => ?_) (fI_thr h _)
  dsimp only
  obtain ⟨h1, hk⟩ := sub_0 (q := ¬ kT A x) hk (by decide)
  obtain ⟨h2, hk⟩ := sub_0 (q := kT A x) hk (by decide)
  obtain ⟨t, htn, ht, rfl⟩ := aI_kT h.1.1 (Decidable.not_not.mp h1)
  rw [ixn ht] at h2 ⊢
  have hl : ¬ A 12 t = 0 := fun z => h2 (Or.inl z)
  have hne : ∀ i, i ≠ t → ∀ j, j = 8 ∨ j = 9 ∨ j = 11 ∨ j = 12 ∨ j = 13 ∨ j = 14 ∨ j = 15 → mU (mU A 19 0 0) 14 t (A 4 0 + 3) j i = A j i := fun i hi j hj => by
    rw [mU_i hi, mU_j (by omega)]
  refine ⟨pI_at h.1 htn (fun j hj => by rw [mU_j (by omega), mU_j (by omega)]) (h.1.1.2.2.2.2 t ht) hne h.1.2.1 (fun q hq => Iff.rfl) (h.1.2.2.1 t htn) (h.1.2.2.2.1 t htn) (h.1.2.2.2.2.1 t) (h.1.2.2.2.2.2.1 t htn) (fun z => absurd z hl) (h.1.2.2.2.2.2.2.2.1 t htn), calI_at (t := t) h.2.1 rfl (fun i hi => hne i hi 14 (by omega)) (Or.inr ?_), h.2.2⟩
  rw [mU_eq]
  show A 4 0 ≤ A 4 0 + 3
  rw [h.2.2.1, show (3 : Int32) = nI 3 from rfl, nI_add]
  have := h.2.2.2
  exact nI_le (by omega) (by omega)
theorem st_repay (h : fI A n L D) (x : Int32) : fI (gRepay A L x).2.1 n (gRepay A L x).2.2 D := by
  refine fin_cases (P := fun A' L' => fI A' n L' D) (fun hk => ?_) (fI_thr h _)
  dsimp only
  obtain ⟨h1, hk⟩ := sub_0 (q := ¬ kT A x) hk (by decide)
  obtain ⟨t, htn, ht, rfl⟩ := aI_kT h.1.1 (Decidable.not_not.mp h1)
  rw [ixn ht]
  have hne : ∀ i, i ≠ t → ∀ j, j = 8 ∨ j = 9 ∨ j = 11 ∨ j = 12 ∨ j = 13 ∨ j = 14 ∨ j = 15 → bRepay (mU A 19 0 0) t j i = A j i := fun i hi j hj => by
    unfold bRepay
    rw [mU_i hi, mU_i hi, mU_j (by omega), mU_j (by omega)]
  have e12 : bRepay (mU A 19 0 0) t 12 t = 0 := by unfold bRepay; rw [mU_j (by decide), mU_eq]
  have e14 : bRepay (mU A 19 0 0) t 14 t = -1 := by unfold bRepay; rw [mU_eq]
  exact ⟨pI_at h.1 htn (fun j hj => by unfold bRepay; rw [mU_j (by omega), mU_j (by omega), mU_j (by omega), mU_j (by omega)]) (h.1.1.2.2.2.2 t ht) hne h.1.2.1 (fun q hq => Iff.rfl) (h.1.2.2.1 t htn) (h.1.2.2.2.1 t htn) (h.1.2.2.2.2.1 t) (Or.inl e12) (fun _ => e14) (h.1.2.2.2.2.2.2.2.1 t htn), calI_at (t := t) h.2.1 rfl (fun i hi => hne i hi 14 (by omega)) (Or.inl e14), h.2.2⟩
theorem st_lend (h : fI A n L D) (x l z : Int32) : fI (gLend A L x l z).2.1 n (gLend A L x l z).2.2 D := by
  refine fin_cases (P := fun A' L' => fI A' n L' D) (fun hk => ?_) (fI_thr h _)
  dsimp only
  obtain ⟨h1, hk⟩ := sub_0 (q := ¬ kT A x) hk (by decide)
  obtain ⟨h2, hk⟩ := sub_0 (q := kT A x) hk (by decide)
  obtain ⟨h3, -⟩ := sub_0 (q := kT A x) hk (by decide)
  obtain ⟨t, htn, ht, rfl⟩ := aI_kT h.1.1 (Decidable.not_not.mp h1)
  rw [ixn ht] at h3 ⊢
  have hR := Decidable.not_not.mp h2
  obtain ⟨lo, hlo, rfl⟩ := rIn_nat (M := 7) (n := 7) (by decide) hR.1
  have hat : A 9 t < 5 := Decidable.not_not.mp (fun z => h3 (Or.inl z))
  have hz : 0 < z := by
    have := hR.2.1
    rw [Int32.lt_iff_toInt_lt]
    rw [Int32.le_iff_toInt_le] at this
    have h1 : ((1 : Int32)).toInt = 1 := by decide
    have h0 : ((0 : Int32)).toInt = 0 := by decide
    omega
  have hne : ∀ i, i ≠ t → ∀ j, j = 8 ∨ j = 9 ∨ j = 11 ∨ j = 12 ∨ j = 13 ∨ j = 14 ∨ j = 15 → bLend (mU A 19 0 0) t (nI lo) z j i = A j i := fun i hi j hj => by
    unfold bLend
    rw [mU_j (by omega), mU_i hi, mU_i hi, mU_i hi, mU_j (by omega)]
  have e12 : bLend (mU A 19 0 0) t (nI lo) z 12 t = z := by unfold bLend; rw [mU_j (by decide), mU_j (by decide), mU_j (by decide), mU_eq]
  have e13 : bLend (mU A 19 0 0) t (nI lo) z 13 t = nI lo := by unfold bLend; rw [mU_j (by decide), mU_j (by decide), mU_eq]
  have e14 : bLend (mU A 19 0 0) t (nI lo) z 14 t = -1 := by unfold bLend; rw [mU_j (by decide), mU_eq]
  exact ⟨pI_at h.1 htn (fun j hj => by unfold bLend; rw [mU_j (by omega), mU_j (by omega), mU_j (by omega), mU_j (by omega), mU_j (by omega)]) ⟨lo, by omega, e13⟩ hne h.1.2.1 (fun q hq => Iff.rfl) (h.1.2.2.1 t htn) (h.1.2.2.2.1 t htn) (h.1.2.2.2.2.1 t) (Or.inr ⟨by rw [e12]; exact hz, hat⟩) (fun _ => e14) (h.1.2.2.2.2.2.2.2.1 t htn), calI_at (t := t) h.2.1 rfl (fun i hi => hne i hi 14 (by omega)) (Or.inl e14), h.2.2⟩
theorem st_leave (h : fI A n L D) (ow z c : Int32) (hk : kLeave A ow z c = 0) : fI (gLeave A L ow z c).2.1 (n + 1) (gLeave A L ow z c).2.2 D := by
  unfold gLeave
  rw [fin_ok hk, h.1.1.1, ixn2 (by have := h.1.1.2.1; omega)]
  dsimp only
  obtain ⟨h2, hk⟩ := sub_0 (q := kT A z) hk (by decide)
  obtain ⟨h3, -⟩ := sub_0 (q := kT A z) hk (by decide)
  have hR := Decidable.not_not.mp h2
  obtain ⟨oi, hoi, rfl⟩ := rIn_nat (M := 7) (n := 7) (by decide) hR.1
  obtain ⟨ci, hci, rfl⟩ := rIn_nat (M := 4) (n := 4) (by decide) hR.2.2
  obtain ⟨zi, hzi, rfl⟩ := rIn_nat (M := 3) (n := 3) (by decide) ⟨Int32.le_trans (by decide) hR.2.1.1, hR.2.1.2⟩
  have hlt : n < 24 := by
    have hn := h.1.1.2.1
    rcases Nat.lt_or_ge n 24 with h9 | h9
    · exact h9
    · exact absurd (Or.inl (h.1.1.1.trans (by rw [show n = 24 by omega]; rfl))) h3
  obtain ⟨⟨⟨g1, g2, g3, g4, g5⟩, k2, k3, k4, k5, k6, k7, k8, k9⟩, hC, hD⟩ := h
  have e6 : bLeave (mU A 19 0 0) n (nI oi) (nI zi) (nI ci) 6 n = nI oi := by simp [bLeave, mU]
  have e8 : bLeave (mU A 19 0 0) n (nI oi) (nI zi) (nI ci) 8 n = 20 * nI zi := by simp [bLeave, mU]
  have e9 : bLeave (mU A 19 0 0) n (nI oi) (nI zi) (nI ci) 9 n = nI ci := by simp [bLeave, mU]
  have e14 : bLeave (mU A 19 0 0) n (nI oi) (nI zi) (nI ci) 14 n = -1 := by simp [bLeave, mU]
  have e15 : bLeave (mU A 19 0 0) n (nI oi) (nI zi) (nI ci) 15 n = -1 := by simp [bLeave, mU]
  have e12 : bLeave (mU A 19 0 0) n (nI oi) (nI zi) (nI ci) 12 n = 0 := by rw [leave_j (by omega)]; exact (k9 n (Nat.le_refl n) hlt).2.1
  have ne : ∀ i j, i ≠ n → j ≠ 5 → j ≠ 19 → bLeave (mU A 19 0 0) n (nI oi) (nI zi) (nI ci) j i = A j i := fun i j a b c => leave_ne a b c
  have hLn : n ∉ L := fun z => Nat.lt_irrefl n (k2.2.2 n z).1
  refine ⟨⟨⟨?_, by omega, ?_, fun t ht => ?_, ?_⟩, ⟨Nat.le_succ_of_le k2.1, k2.2.1, fun q hq => ?_⟩, fun t ht hL => ?_, fun t ht => ?_, fun t ht => ?_, fun t ht => ?_, fun t ht => ?_, fun t ht => ?_, fun t ht ht2 => ?_⟩, fun t ht => ?_, ?_⟩
  · unfold bLeave
    rw [mU_eq]
    show A 5 0 + 1 = _
    rw [g1, nI_1]
  · rw [leave_j (by omega)]; exact g3
  · by_cases e : t = n
    · subst e; rw [e6]; exact ⟨oi, by omega, rfl⟩
    · rw [ne t 6 e (by decide) (by decide)]; exact g4 t ht
  · rw [leave_j (by omega)]; exact g5
  · rw [ne q 15 (fun z => hLn (z ▸ hq)) (by decide) (by decide)]
    exact ⟨Nat.lt_succ_of_lt (k2.2.2 q hq).1, (k2.2.2 q hq).2⟩
  · by_cases e : t = n
    · subst e; exact e15
    · rw [ne t 15 e (by decide) (by decide)]; exact k3 t (by omega) hL
  · by_cases e : t = n
    · subst e; rw [e9]; exact nI_pos' (by omega)
    · rw [ne t 9 e (by decide) (by decide)]; exact k4 t (by omega)
  · rw [ne t 9 (fun z => hLn (z ▸ ht)) (by decide) (by decide)]; exact k5 t ht
  · by_cases e : t = n
    · subst e; exact Or.inl e12
    · rw [ne t 12 e (by decide) (by decide), ne t 9 e (by decide) (by decide)]; exact k6 t (by omega)
  · by_cases e : t = n
    · subst e; intro _; exact e14
    · rw [ne t 12 e (by decide) (by decide), ne t 14 e (by decide) (by decide)]; exact k7 t (by omega)
  · by_cases e : t = n
    · subst e; rw [e8, show (20 : Int32) = nI 20 from rfl, nI_mul]; exact nI_pos' (by omega)
    · rw [ne t 8 e (by decide) (by decide)]; exact k8 t (by omega)
  · rw [ne t 11 (by omega) (by decide) (by decide), ne t 12 (by omega) (by decide) (by decide), leave_j (j := 18) (by omega)]
    exact k9 t (by omega) ht2
  · by_cases e : t = n
    · subst e; exact Or.inl e14
    · rw [ne t 14 e (by decide) (by decide), leave_j (j := 4) (by omega)]; exact hC t (by omega)
  · rw [leave_j (j := 4) (by omega)]; exact hD
theorem st_leave0 (h : fI A n L D) (ow z c : Int32) (hk : ¬ kLeave A ow z c = 0) : fI (gLeave A L ow z c).2.1 n (gLeave A L ow z c).2.2 D := by
  unfold gLeave
  rw [fin_no rfl hk]
  exact h
theorem fDays_P (h : fI A n L D) : ∀ k, D + k ≤ 1000 → fI (fDays n k (0, mU A 19 0 0, L)).2.1 n (fDays n k (0, mU A 19 0 0, L)).2.2 (D + k)
  | 0, _ => h
  | k + 1, hk => by
    obtain ⟨i1, i2, i3, i4⟩ := fDays_P h k (by omega)
    obtain ⟨-, -, -, -, j5⟩ := fDay_P i1 i2 i3 (by omega)
    obtain ⟨j1, j2, j3, -⟩ := j5 _ rfl
    exact ⟨j1, j2, j3, hk⟩
theorem kPass_0 (h : fI A n L D) {v : Int32} (hk : kPass A v = 0) : ∃ dd, dd ≤ 40 ∧ v = nI dd ∧ D + dd ≤ 1000 := by
  obtain ⟨h1, hk⟩ := sub_0 (q := kT A v) hk (by decide)
  obtain ⟨h2, -⟩ := sub_0 (q := kT A v) hk (by decide)
  have hR := Decidable.not_not.mp h1
  obtain ⟨dd, hdd, rfl⟩ := rIn_nat (M := 40) (n := 40) (by decide) ⟨Int32.le_trans (by decide) hR.1, hR.2⟩
  refine ⟨dd, hdd, rfl, ?_⟩
  have h9 : A 4 0 + nI dd ≤ 1000 := Int32.not_lt.mp h2
  have := h.2.2.2
  rw [h.2.2.1, nI_add] at h9
  exact (nI_leI (b := 1000) (by omega) (by omega)).mp h9
theorem st_pass (h : fI A n L D) (v : Int32) (hk : kPass A v = 0) : fI (gPass A L v).2.1 n (gPass A L v).2.2 (D + ix v) := by
  obtain ⟨dd, hdd, rfl, hs⟩ := kPass_0 h hk
  unfold gPass
  rw [fin_ok hk, h.1.1.1, ixn2 (t := n) (by have := h.1.1.2.1; omega), ixn2 (t := dd) (by omega)]
  exact fDays_P h dd hs
theorem st_pass0 (h : fI A n L D) (v : Int32) (hk : ¬ kPass A v = 0) : fI (gPass A L v).2.1 n (gPass A L v).2.2 D := by
  unfold gPass
  rw [fin_no rfl hk]
  exact h
/-! what was thrown -/
theorem fin_19 {k : Int32} {A : xS} {L : List Nat} {b : xR} (h : k = 0 → b.2.1 19 0 = 0) : (fin k A L b).2.1 19 0 = k := by
  by_cases e : k = 0
  · rw [fin_ok e, h e, e]
  · rw [fin_no rfl e]
    exact mU_eq A 19 0 k
theorem fDay_19 (n : Nat) (V : xV) (h : lI V.2.1 n V.2.2) : (fDay n V).2.1 19 0 = V.2.1 19 0 := by
  have h1 : lI (fOwe n V.2.1) n V.2.2 := lI_same h (fOwe_j (by decide))
  have h2 := fCal_I (n := n) (V.1, fOwe n V.2.1, V.2.2) n h1
  have h3 := fUnf_I (n := n) (fCal n (V.1, fOwe n V.2.1, V.2.2)) n h2.2
  have h4 := fDrv_I (n := n) (fUnf n (fCal n (V.1, fOwe n V.2.1, V.2.2))).2.2 ((fUnf n (fCal n (V.1, fOwe n V.2.1, V.2.2))).2.1 1 0, (fUnf n (fCal n (V.1, fOwe n V.2.1, V.2.2))).2.1, (fUnf n (fCal n (V.1, fOwe n V.2.1, V.2.2))).2.2) h3.2
  have hs := (((sameR_owe V.2.1 n).tr h2.1).tr h3.1).tr h4.1
  show fBeg n (mU _ 4 0 _) 19 0 = _
  rw [fBeg_j (by decide), mU_j (by decide)]
  exact congrFun (hs 19 rfl) 0
theorem fDays_19 (h : fI A n L D) : ∀ k, D + k ≤ 1000 → (fDays n k (0, mU A 19 0 0, L)).2.1 19 0 = 0
  | 0, _ => mU_eq A 19 0 0
  | k + 1, hk => by
    have ih := fDays_19 h k (by omega)
    have hp := fDays_P h k (by omega)
    show (fDay n (0, (fDays n k (0, mU A 19 0 0, L)).2)).2.1 19 0 = 0
    exact (fDay_19 n (0, (fDays n k (0, mU A 19 0 0, L)).2) hp.1.2.1).trans ih
theorem pass_19 (h : fI A n L D) (v : Int32) : (gPass A L v).2.1 19 0 = kPass A v := by
  refine fin_19 (fun hk => ?_)
  obtain ⟨dd, hdd, rfl, hs⟩ := kPass_0 h hk
  rw [h.1.1.1, ixn2 (t := n) (by have := h.1.1.2.1; omega), ixn2 (t := dd) (by omega)]
  exact fDays_19 h dd hs
end XST
end
section
section XAK
theorem xMet_ofX {α : Type} {l : Launch} {G : xG} {y : MethodName} {cc : ByteArray} {maxL : Nat} {rt : Option FieldType} {rm : Room} {av : List Value} {w : xW} {emb : α → Option Value} {post : α → xW → Prop} {px : String → xW → Prop} (h : xMetX l G y cc maxL rt rm av w emb post px) (hp : ∀ E w', ¬ px E w') : xMet l G y cc maxL rt rm av w emb post := by
  intro p e hadm hf hc s m args below hinv happ hP hK
  obtain ⟨n, oc, h1, h2, h3, hq⟩ := h p e hadm hf hc s m args below hinv happ hP hK
  rcases hq with hq | ⟨q, h4, E, ce, L, ⟨⟨w', hpx, -⟩, -⟩, -⟩
  · exact ⟨n, oc, h1, h2, h3, hq⟩
  · exact (hp E w' hpx).elim
section XAKa
variable {p : Program} {l : Launch} {e : Env} {R : Room} {s : State} {m : MethodId} {args : Array Value} {below : List Frame} {meth : Method} {c : Code} {G : xG} {cc : ByteArray} {nL : Nat} {own : String} {rt : Option FieldType} {Q : State → Prop} {P P' : xW → Prop} {k n pc : Nat} {lv : List (Nat × Value)} {st : List Value}
theorem xScr.lt {U : State} {H : Heap} (h : xScr G U H) : G.2 6 < H.size := by
  obtain ⟨⟨scr, h4, -⟩, -⟩ := h
  exact (Array.getElem?_eq_some_iff.mp h4).1
theorem x_sld (Γ : xC p s m meth c G cc nL own rt) {i : Int32} {t : Nat} (hi : i = nI t) (ht : t < G.2 7) (hd : decode cc pc = .ok (.iaload, 1))
    (kk : xJ p l e R s m args below meth c G nL Q P k n (pc + 1) lv (.int (xsG G t) :: st)) : xJ p l e R s m args below meth c G nL Q P k n pc lv (.int i :: .ref (G.2 6) :: st) := fun w H locs ls hp hh hs hv => by
  subst hi
  have h9 := kk w H locs ls hp hh hs hv
  have hX := Γ.2.2.2.2.2.2.1.2.2.2.1
  have hl := hX.2.2
  refine va_sld Γ.1 Γ.2.1 hX.1 hX.lt hX.2.1 hs (vp_in_nI ht (by omega)) hd ?_
  rw [nI_clamp (by omega)]
  exact h9
theorem x_slen (Γ : xC p s m meth c G cc nL own rt) (hd : decode cc pc = .ok (.arraylength, 1))
    (kk : xJ p l e R s m args below meth c G nL Q P k n (pc + 1) lv (.int (nI (G.2 7)) :: st)) : xJ p l e R s m args below meth c G nL Q P k n pc lv (.ref (G.2 6) :: st) := fun w H locs ls hp hh hs hv => va_slen Γ.1 Γ.2.1 Γ.2.2.2.2.2.2.1.2.2.2.1.1 Γ.2.2.2.2.2.2.1.2.2.2.1.lt Γ.2.2.2.2.2.2.1.2.2.2.1.2.1 hs hd (kk w H locs ls hp hh hs hv)
theorem x_irem (Γ : xC p s m meth c G cc nL own rt) {x y : Int32} {a d : Nat} (hx : x = nI a) (hy : y = nI d) (ha : a < 2 ^ 31) (h0 : 0 < d) (hd9 : d < 2 ^ 31) (hd : decode cc pc = .ok (.irem, 1)) (kk : xJ p l e R s m args below meth c G nL Q P k n (pc + 1) lv (.int (nI (a % d)) :: st)) : xJ p l e R s m args below meth c G nL Q P k n pc lv (.int y :: .int x :: st) := fun w H locs ls hp hh hs hl => by
  subst hx
  subst hy
  refine lv_irem Γ.1 Γ.2.1 hd (nI_ne0 h0 hd9) ?_
  rw [pk_rem ha h0 hd9]
  exact kk w H locs ls hp hh hs hl
theorem x_idivN (Γ : xC p s m meth c G cc nL own rt) {x y : Int32} {a d : Nat} (hx : x = nI a) (hy : y = nI d) (ha : a < 2 ^ 31) (h0 : 0 < d) (hd9 : d < 2 ^ 31) (hd : decode cc pc = .ok (.idiv, 1)) (kk : xJ p l e R s m args below meth c G nL Q P k n (pc + 1) lv (.int (nI (a / d)) :: st)) : xJ p l e R s m args below meth c G nL Q P k n pc lv (.int y :: .int x :: st) := fun w H locs ls hp hh hs hl => by
  subst hx
  subst hy
  refine lv_idiv Γ.1 Γ.2.1 hd (nI_ne0 h0 hd9) ?_
  rw [pk_div ha h0 hd9]
  exact kk w H locs ls hp hh hs hl
theorem x_tin (Γ : xC p s m meth c G cc nL own rt) {dflt lo hi : Int} {offs : Array Int} {ln : Nat} {x : Int32} {off : Int} {tgt : Nat} (hd : decode cc pc = .ok (.tableswitch dflt lo hi offs, ln)) (h1 : ¬ x.toInt < lo) (h2 : ¬ hi < x.toInt) (ho : offs[(x.toInt - lo).toNat]? = some off) (ht : (pc : Int) + off = (tgt : Int))
    (kk : xJ p l e R s m args below meth c G nL Q P k n tgt lv st) : xJ p l e R s m args below meth c G nL Q P k n pc lv (.int x :: st) := fun w H locs ls hp hh hs hv => lv_tableIn Γ.1 Γ.2.1 hd h1 h2 ho ht (kk w H locs ls hp hh hs hv)
theorem x_tout (Γ : xC p s m meth c G cc nL own rt) {dflt lo hi : Int} {offs : Array Int} {ln : Nat} {x : Int32} {tgt : Nat} (hd : decode cc pc = .ok (.tableswitch dflt lo hi offs, ln)) (h : x.toInt < lo ∨ hi < x.toInt) (ht : (pc : Int) + dflt = (tgt : Int))
    (kk : xJ p l e R s m args below meth c G nL Q P k n tgt lv st) : xJ p l e R s m args below meth c G nL Q P k n pc lv (.int x :: st) := fun w H locs ls hp hh hs hv => lv_tableOut Γ.1 Γ.2.1 hd h ht (kk w H locs ls hp hh hs hv)
end XAKa
theorem hd_L_told : (yL_told).cls ≠ "java/lang/invoke/MethodHandle" ∧ (yL_told).cls ≠ "java/lang/invoke/VarHandle" ∧ (parseMethodDescriptor (yL_told).desc).map (fun d => d.parameters.length) = some 2 := by decide +kernel
theorem hd_L_purses : (yL_purses).cls ≠ "java/lang/invoke/MethodHandle" ∧ (yL_purses).cls ≠ "java/lang/invoke/VarHandle" ∧ (parseMethodDescriptor (yL_purses).desc).map (fun d => d.parameters.length) = some 1 := by decide +kernel
theorem hd_L_does : (yL_does).cls ≠ "java/lang/invoke/MethodHandle" ∧ (yL_does).cls ≠ "java/lang/invoke/VarHandle" ∧ (parseMethodDescriptor (yL_does).desc).map (fun d => d.parameters.length) = some 4 := by decide +kernel
theorem hd_L_lends : (yL_lends).cls ≠ "java/lang/invoke/MethodHandle" ∧ (yL_lends).cls ≠ "java/lang/invoke/VarHandle" ∧ (parseMethodDescriptor (yL_lends).desc).map (fun d => d.parameters.length) = some 5 := by decide +kernel
theorem hd_L_areSo : (yL_areSo).cls ≠ "java/lang/invoke/MethodHandle" ∧ (yL_areSo).cls ≠ "java/lang/invoke/VarHandle" ∧ (parseMethodDescriptor (yL_areSo).desc).map (fun d => d.parameters.length) = some 3 := by decide +kernel
variable {l : Launch} {G : xG}
theorem nI_nonneg {t n : Nat} (h : t < n) (hn : n < 2 ^ 31) : ¬ nI t < 0 := Int32.not_lt.mpr (nI_pos' (by omega))
set_option maxRecDepth 100000 in
theorem q_thing {ca th : Nat → Nat} {A : xS} {n : Nat} {L : List Nat} {T : Nat → xTg} {w : xW} (h : CRaw G w ca th (cB A) n L T) (hI : pI A n L) {t : Nat} (htn : t < n) : xMet l G yX2_thingNumbered cX2_thingNumbered 2 (some (.object "LeftThings$Thing")) ({ frames := 3, cells := 0, slots := 0, locals := 75 } : Room) [.ref (ca 0), .int (nI t)] w embA (fun r w' => r = th t ∧ cP G ca th (cB A) n L T w w') := by
  refine xMet_of (by decide) (Nat.le_of_ble_eq_true rfl) ?_
  intro p e s m below meth c Γ hnm
  have hn := hI.1.2.1
  refine c_in h ?_
  refine x_iload_n Γ dX2_thingNumbered_0 rfl rfl ?_
  refine x_if_lt (tgt := 15) Γ dX2_thingNumbered_1 (by decide) (fun c1 => absurd c1 (nI_nonneg htn (by omega))) (fun c1 => ?_)
  refine x_iload_n Γ dX2_thingNumbered_4 rfl rfl ?_
  refine x_aload_n Γ dX2_thingNumbered_5 rfl rfl ?_
  refine c_this Γ 2 rfl (by decide) k_60 rfl dX2_thingNumbered_6 ?_
  refine x_invV (emb := embI) (ci := 0) (rm := ({ frames := 0, cells := 0, slots := 0, locals := 0 } : Room)) Γ [] (fun w1 r w2 => r = nI n ∧ w2 = w1) rfl (fun w1 h1 => t_size h1.1.2.2.2.1) c_lst3 rfl k_91 k_4 k_88 k_89 k_90 hd_Jx4a65c_size_8abf5 ⟨Nat.le_of_ble_eq_true rfl, Nat.le_of_ble_eq_true rfl⟩ ⟨Nat.le_of_ble_eq_true rfl, Nat.le_of_ble_eq_true rfl⟩ (Nat.le_of_ble_eq_true rfl) dX2_thingNumbered_9 (fun r => ?_)
  refine m_same (fun e9 => ?_)
  subst e9
  refine x_icmp_lt (tgt := 25) Γ dX2_thingNumbered_12 (by decide) (fun c12 => ?_) (fun c12 => absurd (nI_lt htn (by omega)) c12)
  refine x_aload_n Γ dX2_thingNumbered_25 rfl rfl ?_
  refine c_this Γ 2 rfl (by decide) k_60 rfl dX2_thingNumbered_26 ?_
  refine x_iload_n Γ dX2_thingNumbered_29 rfl rfl ?_
  refine x_invV (emb := embA) (ci := 0) (rm := ({ frames := 2, cells := 0, slots := 0, locals := 43 } : Room)) Γ [.int (nI t)] (fun w1 r w2 => r = th t ∧ w2 = w1) rfl (fun w1 h1 => t_get h1.1.2.2.2.1 htn) c_lst3 rfl k_209 k_4 k_206 k_207 k_208 hd_Jx4a65c_get_915e3 ⟨Nat.le_of_ble_eq_true rfl, Nat.le_of_ble_eq_true rfl⟩ ⟨Nat.le_of_ble_eq_true rfl, Nat.le_of_ble_eq_true rfl⟩ (Nat.le_of_ble_eq_true rfl) dX2_thingNumbered_30 (fun r => ?_)
  refine m_same (fun e9 => ?_)
  subst e9
  refine x_cast (C := RX1) (T := TX1) (N := 12) (ci := 2) Γ rfl (c_thing htn) k_220 dX2_thingNumbered_33 ?_
  exact x_aret Γ rfl (Or.inl ⟨_, rfl⟩) (fun w2 e2 => ⟨rfl, e2⟩) ⟨Nat.le_of_ble_eq_true rfl, Nat.le_of_ble_eq_true rfl⟩ dX2_thingNumbered_36
set_option maxRecDepth 100000 in
theorem q_where {ca th : Nat → Nat} {A : xS} {n : Nat} {L : List Nat} {T : Nat → xTg} {w : xW} (h : CRaw G w ca th (cB A) n L T) (hI : pI A n L) {t : Nat} (htn : t < n) : xMet l G yX2_where cX2_where 2 (some .int) ({ frames := 5, cells := 0, slots := 0, locals := 140 } : Room) [.ref (ca 0), .int (nI t)] w embI (fun r w' => r = A 9 t ∧ cP G ca th (cB A) n L T w w') := by
  refine xMet_of (by decide) (Nat.le_of_ble_eq_true rfl) ?_
  intro p e s m below meth c Γ hnm
  have hn := hI.1.2.1
  refine c_in h ?_
  refine x_aload_n Γ dX2_where_0 rfl rfl ?_
  refine x_iload_n Γ dX2_where_1 rfl rfl ?_
  refine x_invV (emb := embA) (ci := 3) (rm := ({ frames := 3, cells := 0, slots := 0, locals := 75 } : Room)) Γ [.int (nI t)] (fun w1 r w2 => r = th t ∧ cP G ca th (cB A) n L T w1 w2) rfl (fun w1 h1 => q_thing h1.1 hI htn) c_self rfl k_375 k_1 k_372 k_374 s_6 hd_X2_thingNumbered ⟨Nat.le_of_ble_eq_true rfl, Nat.le_of_ble_eq_true rfl⟩ ⟨Nat.le_of_ble_eq_true rfl, Nat.le_of_ble_eq_true rfl⟩ (Nat.le_of_ble_eq_true rfl) dX2_where_2 (fun r => ?_)
  refine c_then (B' := cB A) (L' := L) (T' := T) (fun e9 => ?_)
  subst e9
  refine c_getT Γ 5 htn (fun _ => rfl) (by decide) k_272 dX2_where_5 ?_
  exact x_iret Γ rfl rfl (fun w2 e2 => ⟨rfl, e2⟩) ⟨Nat.le_of_ble_eq_true rfl, Nat.le_of_ble_eq_true rfl⟩ dX2_where_8
set_option maxRecDepth 100000 in
theorem q_fees {ca th : Nat → Nat} {A : xS} {n : Nat} {L : List Nat} {T : Nat → xTg} {w : xW} (h : CRaw G w ca th (cB A) n L T) (hI : pI A n L) {t : Nat} (htn : t < n) : xMet l G yX2_fees cX2_fees 2 (some .int) ({ frames := 5, cells := 0, slots := 0, locals := 140 } : Room) [.ref (ca 0), .int (nI t)] w embI (fun r w' => r = A 11 t ∧ cP G ca th (cB A) n L T w w') := by
  refine xMet_of (by decide) (Nat.le_of_ble_eq_true rfl) ?_
  intro p e s m below meth c Γ hnm
  have hn := hI.1.2.1
  refine c_in h ?_
  refine x_aload_n Γ dX2_fees_0 rfl rfl ?_
  refine x_iload_n Γ dX2_fees_1 rfl rfl ?_
  refine x_invV (emb := embA) (ci := 3) (rm := ({ frames := 3, cells := 0, slots := 0, locals := 75 } : Room)) Γ [.int (nI t)] (fun w1 r w2 => r = th t ∧ cP G ca th (cB A) n L T w1 w2) rfl (fun w1 h1 => q_thing h1.1 hI htn) c_self rfl k_375 k_1 k_372 k_374 s_6 hd_X2_thingNumbered ⟨Nat.le_of_ble_eq_true rfl, Nat.le_of_ble_eq_true rfl⟩ ⟨Nat.le_of_ble_eq_true rfl, Nat.le_of_ble_eq_true rfl⟩ (Nat.le_of_ble_eq_true rfl) dX2_fees_2 (fun r => ?_)
  refine c_then (B' := cB A) (L' := L) (T' := T) (fun e9 => ?_)
  subst e9
  refine c_getT Γ 8 htn (fun _ => rfl) (by decide) k_277 dX2_fees_5 ?_
  exact x_iret Γ rfl rfl (fun w2 e2 => ⟨rfl, e2⟩) ⟨Nat.le_of_ble_eq_true rfl, Nat.le_of_ble_eq_true rfl⟩ dX2_fees_8
set_option maxRecDepth 100000 in
theorem q_loan {ca th : Nat → Nat} {A : xS} {n : Nat} {L : List Nat} {T : Nat → xTg} {w : xW} (h : CRaw G w ca th (cB A) n L T) (hI : pI A n L) {t : Nat} (htn : t < n) : xMet l G yX2_loan cX2_loan 2 (some .int) ({ frames := 5, cells := 0, slots := 0, locals := 140 } : Room) [.ref (ca 0), .int (nI t)] w embI (fun r w' => r = A 12 t ∧ cP G ca th (cB A) n L T w w') := by
  refine xMet_of (by decide) (Nat.le_of_ble_eq_true rfl) ?_
  intro p e s m below meth c Γ hnm
  have hn := hI.1.2.1
  refine c_in h ?_
  refine x_aload_n Γ dX2_loan_0 rfl rfl ?_
  refine x_iload_n Γ dX2_loan_1 rfl rfl ?_
  refine x_invV (emb := embA) (ci := 3) (rm := ({ frames := 3, cells := 0, slots := 0, locals := 75 } : Room)) Γ [.int (nI t)] (fun w1 r w2 => r = th t ∧ cP G ca th (cB A) n L T w1 w2) rfl (fun w1 h1 => q_thing h1.1 hI htn) c_self rfl k_375 k_1 k_372 k_374 s_6 hd_X2_thingNumbered ⟨Nat.le_of_ble_eq_true rfl, Nat.le_of_ble_eq_true rfl⟩ ⟨Nat.le_of_ble_eq_true rfl, Nat.le_of_ble_eq_true rfl⟩ (Nat.le_of_ble_eq_true rfl) dX2_loan_2 (fun r => ?_)
  refine c_then (B' := cB A) (L' := L) (T' := T) (fun e9 => ?_)
  subst e9
  refine c_getT Γ 9 htn (fun _ => rfl) (by decide) k_279 dX2_loan_5 ?_
  exact x_iret Γ rfl rfl (fun w2 e2 => ⟨rfl, e2⟩) ⟨Nat.le_of_ble_eq_true rfl, Nat.le_of_ble_eq_true rfl⟩ dX2_loan_8
set_option maxRecDepth 100000 in
theorem q_whereOn {ca th : Nat → Nat} {A : xS} {n : Nat} {L : List Nat} {T : Nat → xTg} {w : xW} (h : CRaw G w ca th (cB A) n L T) (hI : pI A n L) {D : Nat} (hT : tgI A n D T) (hD : A 4 0 = nI D) (hD1 : D ≤ 1000) {t d : Nat} (htn : t < n) (hd : d ≤ D) : xMet l G yX2_whereOn cX2_whereOn 4 (some .int) ({ frames := 5, cells := 0, slots := 0, locals := 140 } : Room) [.ref (ca 0), .int (nI t), .int (nI d)] w embI (fun r w' => r = (if nI d = A 4 0 then A 9 t else A 18 (24 * d + t)) ∧ cP G ca th (cB A) n L T w w') := by
  refine xMet_of (by decide) (Nat.le_of_ble_eq_true rfl) ?_
  intro p e s m below meth c Γ hnm
  have hn := hI.1.2.1
  refine c_in h ?_
  refine x_aload_n Γ dX2_whereOn_0 rfl rfl ?_
  refine x_iload_n Γ dX2_whereOn_1 rfl rfl ?_
  refine x_invV (emb := embA) (ci := 3) (rm := ({ frames := 3, cells := 0, slots := 0, locals := 75 } : Room)) Γ [.int (nI t)] (fun w1 r w2 => r = th t ∧ cP G ca th (cB A) n L T w1 w2) rfl (fun w1 h1 => q_thing h1.1 hI htn) c_self rfl k_375 k_1 k_372 k_374 s_6 hd_X2_thingNumbered ⟨Nat.le_of_ble_eq_true rfl, Nat.le_of_ble_eq_true rfl⟩ ⟨Nat.le_of_ble_eq_true rfl, Nat.le_of_ble_eq_true rfl⟩ (Nat.le_of_ble_eq_true rfl) dX2_whereOn_2 (fun r => ?_)
  refine c_then (B' := cB A) (L' := L) (T' := T) (fun e9 => ?_)
  subst e9
  refine x_astore_n Γ dX2_whereOn_5 rfl rfl (by decide) ?_
  refine x_iload_n Γ dX2_whereOn_6 rfl rfl ?_
  refine x_if_lt (tgt := 18) Γ dX2_whereOn_7 (by decide) (fun c7 => absurd c7 (nI_nonneg (n := d + 1) (by omega) (by omega))) (fun c7 => ?_)
  refine x_iload_n Γ dX2_whereOn_10 rfl rfl ?_
  refine x_aload_n Γ dX2_whereOn_11 rfl rfl ?_
  refine c_this Γ 5 rfl (by decide) k_63 rfl dX2_whereOn_12 ?_
  refine x_icmp_le (tgt := 28) Γ dX2_whereOn_15 (by decide) (fun c15 => ?_) (fun c15 => absurd ((by rw [show cB A 4 0 = A 4 0 from rfl, hD]; exact nI_le hd (by omega))) c15)
  refine x_iload_n Γ dX2_whereOn_28 rfl rfl ?_
  refine x_aload_n Γ dX2_whereOn_29 rfl rfl ?_
  refine c_this Γ 5 rfl (by decide) k_63 rfl dX2_whereOn_30 ?_
  refine x_icmp_ne (tgt := 43) Γ dX2_whereOn_33 (by decide) (fun c33 => ?_) (fun c33 => ?_)
  · refine x_aload_n Γ dX2_whereOn_43 rfl rfl ?_
    refine x_iload_n Γ dX2_whereOn_44 rfl rfl ?_
    refine x_invVN (emb := embI) (ci := 2) (rm := ({ frames := 0, cells := 0, slots := 0, locals := 0 } : Room)) Γ [.int (nI d)] (fun w1 r w2 => r = lkp (nI d) (T t) ∧ w2 = w1) rfl (fun w1 h1 => by obtain ⟨b9, g1, g2⟩ := h1.1.2.2.2.2.2 t htn; exact t_placeAt g1 rfl g2) (c_thing htn) rfl k_534 k_14 k_531 k_533 s_23 hd_X1_placeAtBeginningOf ⟨Nat.le_of_ble_eq_true rfl, Nat.le_of_ble_eq_true rfl⟩ ⟨Nat.le_of_ble_eq_true rfl, Nat.le_of_ble_eq_true rfl⟩ (Nat.le_of_ble_eq_true rfl) dX2_whereOn_45 (fun r => ?_)
    refine m_same (fun e9 => ?_)
    subst e9
    exact x_iret Γ rfl rfl (fun w2 e2 => ⟨(by rw [if_neg (show ¬ nI d = A 4 0 from c33)]; exact (hT t htn).2.2 d hd), e2⟩) ⟨Nat.le_of_ble_eq_true rfl, Nat.le_of_ble_eq_true rfl⟩ dX2_whereOn_48
  · refine x_aload_n Γ dX2_whereOn_36 rfl rfl ?_
    refine c_getT Γ 5 htn (fun _ => rfl) (by decide) k_272 dX2_whereOn_37 ?_
    refine x_goto (tgt := 48) Γ dX2_whereOn_40 (by decide) ?_
    exact x_iret Γ rfl rfl (fun w2 e2 => ⟨(by rw [if_pos (show nI d = A 4 0 from c33)]; rfl), e2⟩) ⟨Nat.le_of_ble_eq_true rfl, Nat.le_of_ble_eq_true rfl⟩ dX2_whereOn_48
set_option maxRecDepth 100000 in
theorem q_load {ca th : Nat → Nat} {A : xS} {n : Nat} {L : List Nat} {T : Nat → xTg} {w : xW} (h : CRaw G w ca th (cB A) n L T) (hI : pI A n L) {ci : Nat} (hci : ci < 5) : xMet l G yX2_load cX2_load 2 (some .int) ({ frames := 5, cells := 0, slots := 0, locals := 140 } : Room) [.ref (ca 0), .int (nI ci)] w embI (fun r w' => r = ldF A (nI ci) n ∧ cP G ca th (cB A) n L T w w') := by
  refine xMet_of (by decide) (Nat.le_of_ble_eq_true rfl) ?_
  intro p e s m below meth c Γ hnm
  have hn := hI.1.2.1
  refine c_in h ?_
  refine x_iload_n Γ dX2_load_0 rfl rfl ?_
  refine x_invS (emb := embI) (rm := ({ frames := 0, cells := 0, slots := 0, locals := 0 } : Room)) Γ [.int (nI ci)] (fun w1 r w2 => bq (rIn 0 4 (nI ci)) r ∧ w2 = w1) rfl (fun w1 h1 => t2_isCounter) k_106 k_1 k_104 k_105 hd_X2_isCounter ⟨Nat.le_of_ble_eq_true rfl, Nat.le_of_ble_eq_true rfl⟩ ⟨Nat.le_of_ble_eq_true rfl, Nat.le_of_ble_eq_true rfl⟩ (Nat.le_of_ble_eq_true rfl) dX2_load_1 (fun r => ?_)
  refine m_same (fun q1 => ?_)
  refine x_if_ne (tgt := 17) Γ dX2_load_4 (by decide) (fun c4 => ?_) (fun c4 => ?_)
  · refine x_aload_n Γ dX2_load_17 rfl rfl ?_
    refine x_iload_n Γ dX2_load_18 rfl rfl ?_
    refine x_invV (emb := embI) (ci := 3) (rm := ({ frames := 3, cells := 0, slots := 0, locals := 80 } : Room)) Γ [.int (nI ci)] (fun w1 r w2 => r = ldF A (nI ci) n ∧ cP G ca th (cB A) n (L) (T) w1 w2) rfl (fun w1 h1 => by have h9 := t_sizesAt (l := l) (x := nI ci) h1.1 hn; rw [ldF_cB] at h9; exact h9) c_self rfl k_205 k_1 k_202 k_204 s_2 hd_X2_sizesAt ⟨Nat.le_of_ble_eq_true rfl, Nat.le_of_ble_eq_true rfl⟩ ⟨Nat.le_of_ble_eq_true rfl, Nat.le_of_ble_eq_true rfl⟩ (Nat.le_of_ble_eq_true rfl) dX2_load_19 (fun r => ?_)
    refine c_then (B' := cB A) (L' := L) (T' := T) (fun e9 => ?_)
    subst e9
    exact x_iret Γ rfl rfl (fun w2 e2 => ⟨rfl, e2⟩) ⟨Nat.le_of_ble_eq_true rfl, Nat.le_of_ble_eq_true rfl⟩ dX2_load_22
  · exact absurd ⟨nI_pos' (by omega), nI_le (b := 4) (by omega) (by decide)⟩ (q1.eq c4)
set_option maxRecDepth 100000 in
theorem q_purse {ca th : Nat → Nat} {A : xS} {n : Nat} {L : List Nat} {T : Nat → xTg} {w : xW} (h : CRaw G w ca th (cB A) n L T) (hI : pI A n L) {i : Nat} (hi : i < 8) : xMet l G yX2_purse cX2_purse 2 (some .int) ({ frames := 5, cells := 0, slots := 0, locals := 140 } : Room) [.ref (ca 0), .int (nI i)] w embI (fun r w' => r = A 2 i ∧ cP G ca th (cB A) n L T w w') := by
  refine xMet_of (by decide) (Nat.le_of_ble_eq_true rfl) ?_
  intro p e s m below meth c Γ hnm
  have hn := hI.1.2.1
  refine c_in h ?_
  refine x_iload_n Γ dX2_purse_0 rfl rfl ?_
  refine x_invS (emb := embI) (rm := ({ frames := 0, cells := 0, slots := 0, locals := 0 } : Room)) Γ [.int (nI i)] (fun w1 r w2 => bq (rIn 0 7 (nI i)) r ∧ w2 = w1) rfl (fun w1 h1 => t2_isPerson) k_196 k_1 k_194 k_195 hd_X2_isPerson ⟨Nat.le_of_ble_eq_true rfl, Nat.le_of_ble_eq_true rfl⟩ ⟨Nat.le_of_ble_eq_true rfl, Nat.le_of_ble_eq_true rfl⟩ (Nat.le_of_ble_eq_true rfl) dX2_purse_1 (fun r => ?_)
  refine m_same (fun q1 => ?_)
  refine x_if_ne (tgt := 17) Γ dX2_purse_4 (by decide) (fun c4 => ?_) (fun c4 => ?_)
  · refine x_aload_n Γ dX2_purse_17 rfl rfl ?_
    refine c_this Γ 1 rfl (by decide) k_59 rfl dX2_purse_18 ?_
    refine x_iload_n Γ dX2_purse_21 rfl rfl ?_
    refine c_ald (jj := 2) Γ rfl (Or.inr ⟨rfl, rfl, by omega⟩) dX2_purse_22 ?_
    exact x_iret Γ rfl rfl (fun w2 e2 => ⟨rfl, e2⟩) ⟨Nat.le_of_ble_eq_true rfl, Nat.le_of_ble_eq_true rfl⟩ dX2_purse_23
  · exact absurd ⟨nI_pos' (by omega), nI_le (b := 7) (by omega) (by decide)⟩ (q1.eq c4)
set_option maxRecDepth 100000 in
theorem q_day {ca th : Nat → Nat} {A : xS} {n : Nat} {L : List Nat} {T : Nat → xTg} {w : xW} (h : CRaw G w ca th (cB A) n L T) (hI : pI A n L) : xMet l G yX2_day cX2_day 1 (some .int) ({ frames := 1, cells := 0, slots := 0, locals := 40 } : Room) [.ref (ca 0)] w embI (fun r w' => r = A 4 0 ∧ cP G ca th (cB A) n L T w w') := by
  refine xMet_of (by decide) (Nat.le_of_ble_eq_true rfl) ?_
  intro p e s m below meth c Γ hnm
  have hn := hI.1.2.1
  refine c_in h ?_
  refine x_aload_n Γ dX2_day_0 rfl rfl ?_
  refine c_this Γ 5 rfl (by decide) k_63 rfl dX2_day_1 ?_
  exact x_iret Γ rfl rfl (fun w2 e2 => ⟨rfl, e2⟩) ⟨Nat.le_of_ble_eq_true rfl, Nat.le_of_ble_eq_true rfl⟩ dX2_day_4
set_option maxRecDepth 100000 in
theorem q_taken {ca th : Nat → Nat} {A : xS} {n : Nat} {L : List Nat} {T : Nat → xTg} {w : xW} (h : CRaw G w ca th (cB A) n L T) (hI : pI A n L) : xMet l G yX2_taken cX2_taken 1 (some .int) ({ frames := 1, cells := 0, slots := 0, locals := 40 } : Room) [.ref (ca 0)] w embI (fun r w' => r = A 3 0 ∧ cP G ca th (cB A) n L T w w') := by
  refine xMet_of (by decide) (Nat.le_of_ble_eq_true rfl) ?_
  intro p e s m below meth c Γ hnm
  have hn := hI.1.2.1
  refine c_in h ?_
  refine x_aload_n Γ dX2_taken_0 rfl rfl ?_
  refine c_this Γ 6 rfl (by decide) k_64 rfl dX2_taken_1 ?_
  exact x_iret Γ rfl rfl (fun w2 e2 => ⟨rfl, e2⟩) ⟨Nat.le_of_ble_eq_true rfl, Nat.le_of_ble_eq_true rfl⟩ dX2_taken_4
set_option maxRecDepth 100000 in
theorem q_things {ca th : Nat → Nat} {A : xS} {n : Nat} {L : List Nat} {T : Nat → xTg} {w : xW} (h : CRaw G w ca th (cB A) n L T) (hI : pI A n L) : xMet l G yX2_things cX2_things 1 (some .int) ({ frames := 1, cells := 0, slots := 0, locals := 40 } : Room) [.ref (ca 0)] w embI (fun r w' => r = nI n ∧ cP G ca th (cB A) n L T w w') := by
  refine xMet_of (by decide) (Nat.le_of_ble_eq_true rfl) ?_
  intro p e s m below meth c Γ hnm
  have hn := hI.1.2.1
  refine c_in h ?_
  refine x_aload_n Γ dX2_things_0 rfl rfl ?_
  refine c_this Γ 2 rfl (by decide) k_60 rfl dX2_things_1 ?_
  refine x_invV (emb := embI) (ci := 0) (rm := ({ frames := 0, cells := 0, slots := 0, locals := 0 } : Room)) Γ [] (fun w1 r w2 => r = nI n ∧ w2 = w1) rfl (fun w1 h1 => t_size h1.1.2.2.2.1) c_lst3 rfl k_91 k_4 k_88 k_89 k_90 hd_Jx4a65c_size_8abf5 ⟨Nat.le_of_ble_eq_true rfl, Nat.le_of_ble_eq_true rfl⟩ ⟨Nat.le_of_ble_eq_true rfl, Nat.le_of_ble_eq_true rfl⟩ (Nat.le_of_ble_eq_true rfl) dX2_things_4 (fun r => ?_)
  refine m_same (fun e9 => ?_)
  subst e9
  exact x_iret Γ rfl rfl (fun w2 e2 => ⟨rfl, e2⟩) ⟨Nat.le_of_ble_eq_true rfl, Nat.le_of_ble_eq_true rfl⟩ dX2_things_7
end XAK
end
section
section XOW
/-! what this law speaks of: loads, purses, fees, places; over the same pure state (A j i, n things, wishes L, day D) -/
theorem i_add {a b : Int32} (h1 : -2147483648 ≤ a.toInt + b.toInt) (h2 : a.toInt + b.toInt < 2147483648) : (a + b).toInt = a.toInt + b.toInt := by
  rw [Int32.toInt_add]
  exact Int.bmod_eq_of_le (by omega) (by omega)
theorem i_sub {a b : Int32} (h1 : -2147483648 ≤ a.toInt - b.toInt) (h2 : a.toInt - b.toInt < 2147483648) : (a - b).toInt = a.toInt - b.toInt := by
  rw [Int32.toInt_sub]
  exact Int.bmod_eq_of_le (by omega) (by omega)
theorem i_mul {a b : Int32} (h1 : -2147483648 ≤ a.toInt * b.toInt) (h2 : a.toInt * b.toInt < 2147483648) : (a * b).toInt = a.toInt * b.toInt := by
  rw [Int32.toInt_mul]
  exact Int.bmod_eq_of_le (by omega) (by omega)
theorem i_0 : (0 : Int32).toInt = 0 := by decide
theorem i_lt {a b : Int32} : a < b ↔ a.toInt < b.toInt := Int32.lt_iff_toInt_lt
theorem i_le {a b : Int32} : a ≤ b ↔ a.toInt ≤ b.toInt := Int32.le_iff_toInt_le
/-! sums -/
def psZ (A : xS) : Nat → Int
  | 0 => 0
  | p + 1 => psZ A p + (A 2 p).toInt
def psI (A : xS) : Nat → Int32
  | 0 => 0
  | p + 1 => psI A p + A 2 p
def ldZ (A : xS) (c : Int32) : Nat → Int
  | 0 => 0
  | t + 1 => ldZ A c t + (if A 9 t = c then (A 7 t).toInt else 0)
theorem psZ_row {A A' : xS} (h : A' 2 = A 2) : ∀ q, psZ A' q = psZ A q
  | 0 => rfl
  | q + 1 => by rw [psZ, psZ, psZ_row h q, h]
theorem psI_row {A A' : xS} (h : A' 2 = A 2) : ∀ q, psI A' q = psI A q
  | 0 => rfl
  | q + 1 => by rw [psI, psI, psI_row h q, h]
theorem psZ_mU (A : xS) (i : Nat) (v : Int32) : ∀ q, psZ (mU A 2 i v) q = psZ A q + (if i < q then v.toInt - (A 2 i).toInt else 0)
  | 0 => by simp [psZ]
  | q + 1 => by
    rw [psZ, psZ, psZ_mU A i v q]
    by_cases h : i = q
    · subst h
      rw [mU_eq, if_neg (Nat.lt_irrefl _), if_pos (Nat.lt_succ_self _)]
      omega
    · rw [mU_i (Ne.symm h)]
      by_cases h2 : i < q
      · rw [if_pos h2, if_pos (by omega)]; omega
      · rw [if_neg h2, if_neg (by omega)]; omega
theorem psI_mU (A : xS) (i : Nat) (z : Int32) : ∀ q, psI (mU A 2 i (A 2 i + z)) q = psI A q + (if i < q then z else 0)
  | 0 => by simp [psI]
  | q + 1 => by
    rw [psI, psI, psI_mU A i z q]
    by_cases h : i = q
    · subst h
      rw [mU_eq, if_neg (Nat.lt_irrefl _), if_pos (Nat.lt_succ_self _), Int32.add_zero, Int32.add_assoc]
    · rw [mU_i (Ne.symm h)]
      by_cases h2 : i < q
      · rw [if_pos h2, if_pos (by omega), Int32.add_assoc, Int32.add_assoc, Int32.add_comm z]
      · rw [if_neg h2, if_neg (by omega), Int32.add_zero, Int32.add_zero]
theorem psZ_ge {A : xS} (h : ∀ p, p < 8 → 0 ≤ (A 2 p).toInt) : ∀ q, q ≤ 8 → 0 ≤ psZ A q ∧ ∀ p, p < q → (A 2 p).toInt ≤ psZ A q
  | 0, _ => ⟨Int.le_refl _, fun p hp => absurd hp (Nat.not_lt_zero p)⟩
  | q + 1, hq => by
    obtain ⟨h1, h2⟩ := psZ_ge h q (by omega)
    have h3 := h q (by omega)
    rw [psZ]
    refine ⟨by omega, fun p hp => ?_⟩
    by_cases e : p = q
    · subst e; omega
    · have := h2 p (by omega)
      omega
theorem psZ_mono {A : xS} (h : ∀ p, p < 8 → 0 ≤ (A 2 p).toInt) : ∀ d q, q + d ≤ 8 → psZ A q ≤ psZ A (q + d)
  | 0, _, _ => Int.le_refl _
  | d + 1, q, hq => by
    have h1 := psZ_mono h d q (by omega)
    have h3 := h (q + d) (by omega)
    rw [← Nat.add_assoc, psZ]
    omega
theorem psI_int {A : xS} (h : ∀ p, p < 8 → 0 ≤ (A 2 p).toInt) (h2 : psZ A 8 ≤ 1000000000) : ∀ q, q ≤ 8 → (psI A q).toInt = psZ A q
  | 0, _ => i_0
  | q + 1, hq => by
    have ih := psI_int h h2 q (by omega)
    have h3 := psZ_mono h (8 - (q + 1)) (q + 1) (by omega)
    rw [show q + 1 + (8 - (q + 1)) = 8 by omega, psZ] at h3
    have h4 := (psZ_ge h q (by omega)).1
    have h5 := h q (by omega)
    rw [psI, psZ, i_add (by omega) (by omega), ih]
theorem ldZ_ge {A : xS} {c : Int32} {N : Nat} (h : ∀ t, t < N → 1 ≤ (A 7 t).toInt ∧ (A 7 t).toInt ≤ 3) : ∀ q, q ≤ N → 0 ≤ ldZ A c q ∧ ldZ A c q ≤ 3 * q
  | 0, _ => ⟨Int.le_refl _, Int.le_refl _⟩
  | q + 1, hq => by
    obtain ⟨h1, h2⟩ := ldZ_ge (c := c) h q (by omega)
    obtain ⟨h3, h4⟩ := h q (by omega)
    rw [ldZ]
    split <;> omega
theorem ldF_int {A : xS} {c : Int32} {N : Nat} (hN : N ≤ 1000) (h : ∀ t, t < N → 1 ≤ (A 7 t).toInt ∧ (A 7 t).toInt ≤ 3) : ∀ q, q ≤ N → (ldF A c q).toInt = ldZ A c q
  | 0, _ => i_0
  | q + 1, hq => by
    have ih := ldF_int (c := c) hN h q (by omega)
    obtain ⟨h1, h2⟩ := ldZ_ge (c := c) h q (by omega)
    obtain ⟨h3, h4⟩ := h q (by omega)
    rw [ldF, ldZ]
    by_cases e : A 9 q = c
    · rw [if_pos e, if_pos e, i_add (by omega) (by omega), ih]
    · rw [if_neg e, if_neg e, i_add (by rw [i_0]; omega) (by rw [i_0]; omega), ih, i_0]
theorem ldZ_same {A A' : xS} {c : Int32} {N : Nat} (h : ∀ t, t < N → A' 7 t = A 7 t ∧ A' 9 t = A 9 t) : ∀ q, q ≤ N → ldZ A' c q = ldZ A c q
  | 0, _ => rfl
  | q + 1, hq => by
    obtain ⟨h1, h2⟩ := h q (by omega)
    rw [ldZ, ldZ, ldZ_same h q (by omega), h1, h2]
theorem ldZ_mono {A A' : xS} {c : Int32} {N : Nat} (hz : ∀ t, t < N → 0 ≤ (A 7 t).toInt) (h : ∀ t, t < N → A' 7 t = A 7 t ∧ (A' 9 t = c → A 9 t = c)) : ∀ q, q ≤ N → ldZ A' c q ≤ ldZ A c q
  | 0, _ => Int.le_refl _
  | q + 1, hq => by
    have ih := ldZ_mono hz h q (by omega)
    obtain ⟨h1, h2⟩ := h q (by omega)
    have h3 := hz q (by omega)
    rw [ldZ, ldZ, h1]
    by_cases e : A' 9 q = c
    · rw [if_pos e, if_pos (h2 e)]; omega
    · rw [if_neg e]
      split <;> omega
theorem ldZ_at {A A' : xS} {c : Int32} {N t : Nat} (hz : ∀ t, t < N → 0 ≤ (A 7 t).toInt) (h : ∀ i, i < N → A' 7 i = A 7 i) (h9 : ∀ i, i < N → i ≠ t → A' 9 i = A 9 i) : ∀ q, q ≤ N → ldZ A' c q ≤ ldZ A c q + (if t < q then (A 7 t).toInt else 0)
  | 0, _ => by simp [ldZ]
  | q + 1, hq => by
    have ih := ldZ_at (c := c) hz h h9 q (by omega)
    have h1 := h q (by omega)
    have h3 := hz q (by omega)
    rw [ldZ, ldZ, h1]
    by_cases e : q = t
    · subst e
      rw [if_neg (Nat.lt_irrefl _)] at ih
      rw [if_pos (Nat.lt_succ_self _)]
      split <;> split <;> omega
    · rw [h9 q (by omega) e]
      by_cases h2 : t < q
      · rw [if_pos h2] at ih
        rw [if_pos (by omega : t < q + 1)]
        split <;> omega
      · rw [if_neg h2] at ih
        rw [if_neg (by omega : ¬ t < q + 1)]
        split <;> omega
/-! what holds between calls, beside fI -/
def jI (A : xS) (n D F m : Nat) : Prop :=
  (∀ c, c < 5 → A 0 c = 10) ∧ (∀ t, t < n → 1 ≤ (A 7 t).toInt ∧ (A 7 t).toInt ≤ 3) ∧ (∀ c, c < 5 → ldZ A (nI c) n ≤ 10) ∧
  (∀ t, t < n → 0 ≤ (A 8 t).toInt ∧ (A 8 t).toInt ≤ 300) ∧ (∀ t, t < n → 0 ≤ (A 11 t).toInt ∧ (A 11 t).toInt ≤ F) ∧ (∀ t, t < n → 0 ≤ (A 12 t).toInt ∧ (A 12 t).toInt ≤ 20) ∧
  ((∀ p, p < 8 → 0 ≤ (A 2 p).toInt) ∧ psZ A 8 + 300 * atC A n ≤ m) ∧ (0 ≤ (A 3 0).toInt ∧ (A 3 0).toInt + 6000 * atC A n ≤ 6000 * n) ∧
  (∀ t, t < n → A 18 (24 * D + t) = 12 ∨ A 18 (24 * D + t) < 5 ∨ A 9 t = A 18 (24 * D + t)) ∧ ∀ t, t < 24 → A 18 t = 12
/-- what may become of the things, purses and fees -/
def rl (n : Nat) (A A' : xS) : Prop :=
  (∀ t, t < n → ¬ A 9 t < 5 → A' 9 t = A 9 t) ∧ (∀ t, t < n → 0 < A 12 t → (A' 9 t = A 9 t ∧ 0 < A' 12 t) ∨ A' 9 t = 11) ∧ psZ A 8 ≤ psZ A' 8 ∧ (A 3 0).toInt ≤ (A' 3 0).toInt ∧ A' 6 = A 6 ∧ A' 7 = A 7
theorem rl.rf {n : Nat} {A : xS} : rl n A A := ⟨fun _ _ _ => rfl, fun _ _ h => Or.inl ⟨rfl, h⟩, Int.le_refl _, Int.le_refl _, rfl, rfl⟩
theorem rl.tr {n : Nat} {A A1 A2 : xS} (h : rl n A A1) (g : rl n A1 A2) : rl n A A2 := by
  obtain ⟨h1, h2, h3, h4, h5, h6⟩ := h
  obtain ⟨g1, g2, g3, g4, g5, g6⟩ := g
  refine ⟨fun t ht hc => ?_, fun t ht hc => ?_, by omega, by omega, g5.trans h5, g6.trans h6⟩
  · have e := h1 t ht hc
    rw [g1 t ht (by rw [e]; exact hc), e]
  · have h11 : ¬ (11 : Int32) < 5 := by decide
    rcases h2 t ht hc with ⟨e1, e2⟩ | e
    · rcases g2 t ht e2 with ⟨e3, e4⟩ | e3
      · exact Or.inl ⟨e3.trans e1, e4⟩
      · exact Or.inr e3
    · exact Or.inr (by rw [g1 t ht (by rw [e]; exact h11), e])
/-- what jI and rl see of a state is the same -/
theorem jI.same {A A' : xS} {n D F m : Nat} (h : jI A n D F m) (h0 : A' 0 = A 0) (h2 : A' 2 = A 2) (h3 : A' 3 = A 3) (h7 : A' 7 = A 7) (h8 : A' 8 = A 8) (h9 : A' 9 = A 9) (h11 : A' 11 = A 11) (h12 : A' 12 = A 12) (h18 : A' 18 = A 18) : jI A' n D F m := by
  obtain ⟨g1, g2, g3, g4, g5, g6, ⟨g7, g8⟩, g9, g10, g11⟩ := h
  have ea : atC A' n = atC A n := atC_same (fun i => by rw [h9]) n
  refine ⟨by rw [h0]; exact g1, by rw [h7]; exact g2, fun c hc => ?_, by rw [h8]; exact g4, by rw [h11]; exact g5, by rw [h12]; exact g6, ⟨by rw [h2]; exact g7, by rw [psZ_row h2, ea]; exact g8⟩, by rw [h3, ea]; exact g9, by rw [h18, h9]; exact g10, by rw [h18]; exact g11⟩
  rw [ldZ_same (N := n) (fun t _ => ⟨by rw [h7], by rw [h9]⟩) n (Nat.le_refl n)]
  exact g3 c hc
theorem rl.same {A A' : xS} {n : Nat} (h2 : A' 2 = A 2) (h3 : A' 3 = A 3) (h6 : A' 6 = A 6) (h7 : A' 7 = A 7) (h9 : A' 9 = A 9) (h12 : A' 12 = A 12) : rl n A A' :=
  ⟨fun t _ _ => by rw [h9], fun t _ hc => Or.inl ⟨by rw [h9], by rw [h12]; exact hc⟩, by rw [psZ_row h2]; exact Int.le_refl _, by rw [h3]; exact Int.le_refl _, h6, h7⟩
/-! one thing sold -/
theorem imn_int (x y : Int32) : (imn x y).toInt ≤ x.toInt ∧ (imn x y).toInt ≤ y.toInt ∧ ((imn x y).toInt = x.toInt ∨ (imn x y).toInt = y.toInt) := by
  unfold imn
  by_cases h : x < y
  · rw [if_pos h]
    have := i_lt.mp h
    exact ⟨Int.le_refl _, by omega, Or.inl rfl⟩
  · rw [if_neg h]
    have := i_le.mp (Int32.not_lt.mp h)
    exact ⟨this, Int.le_refl _, Or.inr rfl⟩
theorem sell_2 (A : xS) (t : Nat) : fSell t A 2 = mU (sA1 A t) 2 (ix (A 6 t)) (sA1 A t 2 (ix (A 6 t)) + (A 8 t - sBack A t - sPaid A t)) 2 := by
  unfold fSell sA3 sA2
  rw [mU_j (by decide), mU_j (by decide), mU_j (by decide), mU_j (by decide)]
  funext i
  by_cases h : i = ix (A 6 t)
  · subst h; rw [mU_eq, mU_eq]
  · rw [mU_i h, mU_i h, mU_j (by decide), mU_j (by decide)]
theorem sell_3 (A : xS) (t : Nat) : fSell t A 3 0 = A 3 0 + sPaid A t := by
  unfold fSell sA3 sA2
  rw [mU_j (by decide), mU_j (by decide), mU_j (by decide), mU_j (by decide), mU_j (by decide), mU_eq]
theorem sell_11 (A : xS) (t : Nat) : fSell t A 11 t = sPaid A t := by
  unfold fSell sA3 sA2
  rw [mU_j (by decide), mU_j (by decide), mU_j (by decide), mU_j (by decide), mU_j (by decide), mU_j (by decide), mU_eq]
theorem jI.sell {A : xS} {n D F m t : Nat} {L : List Nat} (hI : pI A n L) (h : jI A n D F m) (ht : t < n) (h9 : A 9 t < 5) (hF : F ≤ 6000) (hm : m ≤ 1000000) : jI (fSell t A) n D F m ∧ rl n A (fSell t A) := by
  obtain ⟨g1, g2, g3, g4, g5, g6, ⟨g7, g8⟩, ⟨g9, g9b⟩, g10, g11⟩ := h
  have hn := hI.1.2.1
  obtain ⟨ow, how, e6⟩ := hI.1.2.2.2.1 t (by omega)
  obtain ⟨lr, hlr, e13⟩ := hI.1.2.2.2.2 t (by omega)
  obtain ⟨w1, w2⟩ := g4 t ht
  obtain ⟨f1, f2⟩ := g5 t ht
  obtain ⟨l1, l2⟩ := g6 t ht
  obtain ⟨b1, b2, b3⟩ := imn_int (A 12 t) (A 8 t)
  have hb : sBack A t = imn (A 12 t) (A 8 t) := rfl
  rw [← hb] at b1 b2 b3
  have es : (A 8 t - sBack A t).toInt = (A 8 t).toInt - (sBack A t).toInt := i_sub (by omega) (by omega)
  obtain ⟨p1, p2, p3⟩ := imn_int (A 11 t) (A 8 t - sBack A t)
  have hp : sPaid A t = imn (A 11 t) (A 8 t - sBack A t) := rfl
  rw [← hp, es] at p2 p3
  rw [← hp] at p1
  have ex : (A 8 t - sBack A t - sPaid A t).toInt = (A 8 t).toInt - (sBack A t).toInt - (sPaid A t).toInt := by rw [i_sub (by rw [es]; omega) (by rw [es]; omega), es]
  have hge := psZ_ge g7 8 (Nat.le_refl 8)
  -- the lender's share
  have hA1 : psZ (sA1 A t) 8 = psZ A 8 + (sBack A t).toInt ∧ ∀ p, p < 8 → 0 ≤ (sA1 A t 2 p).toInt := by
    unfold sA1
    by_cases c : 0 < sBack A t
    · rw [if_pos c, e13, ixn2 (by omega)]
      have c0 := i_lt.mp c
      rw [i_0] at c0
      have h1 := g7 lr hlr
      have h2 := hge.2 lr hlr
      have ea : (A 2 lr + sBack A t).toInt = (A 2 lr).toInt + (sBack A t).toInt := i_add (by omega) (by omega)
      refine ⟨?_, fun p hp => ?_⟩
      · rw [psZ_mU, if_pos hlr, ea]; omega
      · by_cases e : p = lr
        · subst e; rw [mU_eq, ea]; omega
        · rw [mU_i e]; exact g7 p hp
    · rw [if_neg c]
      have c0 := i_le.mp (Int32.not_lt.mp c)
      rw [i_0] at c0
      exact ⟨by omega, g7⟩
  obtain ⟨k1, k2⟩ := hA1
  have hge1 := psZ_ge k2 8 (Nat.le_refl 8)
  have h2r := sell_2 A t
  rw [e6, ixn2 (by omega)] at h2r
  have q1 := k2 ow how
  have q2 := hge1.2 ow how
  have eo : (sA1 A t 2 ow + (A 8 t - sBack A t - sPaid A t)).toInt = (sA1 A t 2 ow).toInt + ((A 8 t).toInt - (sBack A t).toInt - (sPaid A t).toInt) := by
    rw [i_add (by rw [ex]; omega) (by rw [ex]; omega), ex]
  have hps : psZ (fSell t A) 8 = psZ A 8 + (A 8 t).toInt - (sPaid A t).toInt := by
    rw [psZ_row h2r, psZ_mU, if_pos how, eo, k1]; omega
  have hat := atC_sell (A := A) (A' := fSell t A) (t := t) (fun i hi => sell_ne hi (by decide) (by decide)) h9 (by rw [sell_9]; decide) n
  rw [if_pos ht] at hat
  have e3 : (fSell t A 3 0).toInt = (A 3 0).toInt + (sPaid A t).toInt := by
    rw [sell_3, i_add (by omega) (by omega)]
  have e9 : ∀ i, fSell t A 9 i = if i = t then 11 else A 9 i := fun i => by
    by_cases e : i = t
    · subst e; rw [sell_9, if_pos rfl]
    · rw [sell_ne e (by decide) (by decide), if_neg e]
  refine ⟨⟨?_, ?_, fun c hc => ?_, ?_, fun i hi => ?_, fun i hi => ?_, ⟨fun p hp => ?_, ?_⟩, ⟨?_, ?_⟩, fun i hi => ?_, ?_⟩, fun i hi hc => ?_, fun i hi hc => ?_, ?_, ?_, sell_j rfl, sell_j rfl⟩
  · rw [sell_j rfl]; exact g1
  · rw [sell_j rfl]; exact g2
  · refine Int.le_trans (ldZ_mono (N := n) (A := A) (fun i hi => by have := (g2 i hi).1; omega) (fun i hi => ⟨by rw [sell_j rfl], fun q => ?_⟩) n (Nat.le_refl n)) (g3 c hc)
    rw [e9] at q
    by_cases e : i = t
    · rw [if_pos e] at q
      exact absurd (q ▸ nI_lt (b := 5) hc (by decide)) (by decide)
    · rw [if_neg e] at q; exact q
  · rw [sell_j rfl]; exact g4
  · by_cases e : i = t
    · subst e; rw [sell_11]; omega
    · rw [sell_ne e (by decide) (by decide)]; exact g5 i hi
  · by_cases e : i = t
    · subst e; rw [sell_12, i_0]; omega
    · rw [sell_ne e (by decide) (by decide)]; exact g6 i hi
  · rw [h2r]
    by_cases e : p = ow
    · subst e; rw [mU_eq, eo]; omega
    · rw [mU_i e]; exact k2 p hp
  · rw [hps]; omega
  · rw [e3]; omega
  · rw [e3]; omega
  · rw [sell_j (j := 18) rfl, e9]
    by_cases e : i = t
    · subst e
      rcases g10 i hi with h | h | h
      · exact Or.inl h
      · exact Or.inr (Or.inl h)
      · exact Or.inr (Or.inl (by rw [← h]; exact h9))
    · rw [if_neg e]; exact g10 i hi
  · rw [sell_j (j := 18) rfl]; exact g11
  · rw [e9, if_neg (fun e => hc (by rw [e]; exact h9))]
  · by_cases e : i = t
    · exact Or.inr (by rw [e9, if_pos e])
    · exact Or.inl ⟨by rw [e9, if_neg e], by rw [sell_ne e (by decide) (by decide)]; exact hc⟩
  · rw [hps]; omega
  · rw [e3]; omega
end XOW
end
section
section XOD
/-! a day's end -/
theorem move_j {A : xS} {t j : Nat} (h9 : j ≠ 9) (h15 : j ≠ 15) : fMove A t j = A j := by
  unfold fMove
  rw [mU_j h15, mU_j h9]
theorem move_9 {A : xS} {t i : Nat} : fMove A t 9 i = if i = t then A 15 t else A 9 i := by
  unfold fMove
  rw [mU_j (by decide)]
  by_cases e : i = t
  · subst e; rw [mU_eq, if_pos rfl]
  · rw [mU_i e, if_neg e]
theorem jI.move {A : xS} {n D F m t : Nat} {L : List Nat} {left : Int32} (hI : pI A n L) (h : jI A n D F m) (ht : t ∈ L) (hd : fDrvT n A left t) : jI (fMove A t) n D F m ∧ rl n A (fMove A t) := by
  obtain ⟨g1, g2, g3, g4, g5, g6, g7, g9, g10, g11⟩ := h
  have hn := hI.1.2.1
  obtain ⟨htn, ci, hci, e15⟩ := hI.2.1.2.2 t ht
  have h9 := hI.2.2.2.2.1 t ht
  obtain ⟨d1, d2, d3⟩ := hd
  have e2 : psZ (fMove A t) 8 = psZ A 8 := psZ_row (move_j (by decide) (by decide)) 8
  have ea : atC (fMove A t) n = atC A n := atC_same (fun i => by
    rw [move_9]
    by_cases e : i = t
    · subst e
      rw [if_pos rfl, e15]
      exact ⟨fun _ => h9, fun _ => nI_lt (b := 5) hci (by decide)⟩
    · rw [if_neg e]) n
  refine ⟨⟨?_, ?_, fun c hc => ?_, ?_, ?_, ?_, ⟨?_, ?_⟩, ?_, fun i hi => ?_, ?_⟩, fun i hi hc => ?_, fun i hi hc => Or.inl ⟨?_, ?_⟩, ?_, ?_, move_j (by decide) (by decide), move_j (by decide) (by decide)⟩
  · rw [move_j (by decide) (by decide)]; exact g1
  · rw [move_j (by decide) (by decide)]; exact g2
  · by_cases e : c = ci
    · subst e
      have h1 := ldZ_at (c := nI c) (N := n) (A := A) (A' := fMove A t) (t := t) (fun i hi => by have := (g2 i hi).1; omega) (fun i hi => by rw [move_j (by decide) (by decide)]) (fun i hi hne => by rw [move_9, if_neg hne]) n (Nat.le_refl n)
      rw [if_pos htn] at h1
      rw [e15, ixn2 (by omega), g1 c hc] at d3
      have h2 := ldF_int (c := nI c) (A := A) (N := n) (by omega) g2 n (Nat.le_refl n)
      have h3 := ldZ_ge (c := nI c) (A := A) (N := n) g2 n (Nat.le_refl n)
      have h4 := g2 t htn
      have h5 := i_le.mp d3
      rw [i_add (by rw [h2]; omega) (by rw [h2]; omega), h2, show (10 : Int32).toInt = 10 by decide] at h5
      omega
    · refine Int.le_trans (ldZ_mono (N := n) (A := A) (fun i hi => by have := (g2 i hi).1; omega) (fun i hi => ⟨by rw [move_j (by decide) (by decide)], fun q => ?_⟩) n (Nat.le_refl n)) (g3 c hc)
      rw [move_9] at q
      by_cases e2 : i = t
      · rw [if_pos e2, e15] at q
        exact absurd ((nI_eq (by omega) (by omega)).mp q).symm e
      · rw [if_neg e2] at q; exact q
  · rw [move_j (by decide) (by decide)]; exact g4
  · rw [move_j (by decide) (by decide)]; exact g5
  · rw [move_j (by decide) (by decide)]; exact g6
  · rw [move_j (by decide) (by decide)]; exact g7.1
  · rw [e2, ea]; exact g7.2
  · rw [move_j (by decide) (by decide), ea]; exact g9
  · rw [move_j (j := 18) (by decide) (by decide), move_9]
    by_cases e : i = t
    · subst e
      rcases g10 i hi with h | h | h
      · exact Or.inl h
      · exact Or.inr (Or.inl h)
      · exact Or.inr (Or.inl (by rw [← h]; exact h9))
    · rw [if_neg e]; exact g10 i hi
  · rw [move_j (by decide) (by decide)]; exact g11
  · rw [move_9, if_neg (fun e => hc (by rw [e]; exact h9))]
  · rw [move_9, if_neg (fun e => by rw [e, d1] at hc; exact absurd hc (by decide))]
  · rw [move_j (by decide) (by decide)]; exact hc
  · rw [e2]; exact Int.le_refl _
  · rw [move_j (by decide) (by decide)]; exact Int.le_refl _
theorem owes_int {A : xS} {n t : Nat} (g2 : ∀ t, t < n → 1 ≤ (A 7 t).toInt ∧ (A 7 t).toInt ≤ 3) (ht : t < n) : 0 ≤ (owes A t).toInt ∧ (owes A t).toInt ≤ 6 := by
  have h := g2 t ht
  unfold owes
  split
  · decide
  · split
    · omega
    · have e2 : (2 : Int32).toInt = 2 := by decide
      rw [i_mul (by rw [e2]; omega) (by rw [e2]; omega), e2]; omega
theorem fOwe_11 {A : xS} {n F : Nat} (g2 : ∀ t, t < n → 1 ≤ (A 7 t).toInt ∧ (A 7 t).toInt ≤ 3) (g5 : ∀ t, t < n → 0 ≤ (A 11 t).toInt ∧ (A 11 t).toInt ≤ F) (hF : F ≤ 6000) : ∀ m, m ≤ n → ∀ i, i < n → 0 ≤ (fOwe m A 11 i).toInt ∧ (fOwe m A 11 i).toInt ≤ F + (if i < m then 6 else 0)
  | 0, _, i, hi => by
    have := g5 i hi
    rw [if_neg (Nat.not_lt_zero i)]
    show 0 ≤ (A 11 i).toInt ∧ (A 11 i).toInt ≤ _
    omega
  | m + 1, hm, i, hi => by
    have ih := fOwe_11 g2 g5 hF m (by omega) i hi
    rw [fOwe]
    by_cases e : i = m
    · subst e
      rw [if_neg (Nat.lt_irrefl _)] at ih
      have ho := owes_int (A := fOwe i A) (n := n) (by rw [fOwe_j (by decide)]; exact g2) hi
      rw [mU_eq, if_pos (Nat.lt_succ_self _), i_add (by omega) (by omega)]
      omega
    · rw [mU_i e]
      by_cases h2 : i < m
      · rw [if_pos h2] at ih; rw [if_pos (by omega)]; exact ih
      · rw [if_neg h2] at ih; rw [if_neg (by omega)]; exact ih
theorem jI.owe {A : xS} {n D F m : Nat} (h : jI A n D F m) (hF : F ≤ 6000) : jI (fOwe n A) n D (F + 6) m ∧ rl n A (fOwe n A) := by
  obtain ⟨g1, g2, g3, g4, g5, g6, ⟨g7, g8⟩, g9, g10, g11⟩ := h
  have ej : ∀ j, j ≠ 11 → fOwe n A j = A j := fun j hj => fOwe_j hj
  have ea : atC (fOwe n A) n = atC A n := atC_same (fun i => by rw [ej 9 (by decide)]) n
  refine ⟨⟨by rw [ej 0 (by decide)]; exact g1, by rw [ej 7 (by decide)]; exact g2, fun c hc => ?_, by rw [ej 8 (by decide)]; exact g4, fun i hi => ?_, by rw [ej 12 (by decide)]; exact g6, ⟨by rw [ej 2 (by decide)]; exact g7, by rw [psZ_row (ej 2 (by decide)), ea]; exact g8⟩, by rw [ej 3 (by decide), ea]; exact g9, by rw [ej 18 (by decide), ej 9 (by decide)]; exact g10, by rw [ej 18 (by decide)]; exact g11⟩,
    rl.same (ej 2 (by decide)) (ej 3 (by decide)) (ej 6 (by decide)) (ej 7 (by decide)) (ej 9 (by decide)) (ej 12 (by decide))⟩
  · rw [ldZ_same (N := n) (fun t _ => ⟨by rw [ej 7 (by decide)], by rw [ej 9 (by decide)]⟩) n (Nat.le_refl n)]
    exact g3 c hc
  · have := fOwe_11 g2 g5 hF n (Nat.le_refl n) i hi
    rw [if_pos hi] at this
    omega
theorem jI.tick {A : xS} {n D F m : Nat} (h : jI A n D F m) (hn : n ≤ 24) (hD : D + 1 ≤ 1000) : jI (fBeg n (mU A 4 0 (nI (D + 1)))) n (D + 1) F m ∧ rl n A (fBeg n (mU A 4 0 (nI (D + 1)))) := by
  obtain ⟨g1, g2, g3, g4, g5, g6, ⟨g7, g8⟩, g9, g10, g11⟩ := h
  have hB : mU A 4 0 (nI (D + 1)) 4 0 = nI (D + 1) := mU_eq _ _ _ _
  have ej : ∀ j, j ≠ 4 → j ≠ 18 → fBeg n (mU A 4 0 (nI (D + 1))) j = A j := fun j g1 g2 => by rw [fBeg_j g2, mU_j g1]
  have ea : atC (fBeg n (mU A 4 0 (nI (D + 1)))) n = atC A n := atC_same (fun i => by rw [ej 9 (by decide) (by decide)]) n
  refine ⟨⟨by rw [ej 0 (by decide) (by decide)]; exact g1, by rw [ej 7 (by decide) (by decide)]; exact g2, fun c hc => ?_, by rw [ej 8 (by decide) (by decide)]; exact g4, by rw [ej 11 (by decide) (by decide)]; exact g5, by rw [ej 12 (by decide) (by decide)]; exact g6, ⟨by rw [ej 2 (by decide) (by decide)]; exact g7, by rw [psZ_row (ej 2 (by decide) (by decide)), ea]; exact g8⟩, by rw [ej 3 (by decide) (by decide), ea]; exact g9, fun i hi => ?_, fun i hi => ?_⟩,
    rl.same (ej 2 (by decide) (by decide)) (ej 3 (by decide) (by decide)) (ej 6 (by decide) (by decide)) (ej 7 (by decide) (by decide)) (ej 9 (by decide) (by decide)) (ej 12 (by decide) (by decide))⟩
  · rw [ldZ_same (N := n) (fun t _ => ⟨by rw [ej 7 (by decide) (by decide)], by rw [ej 9 (by decide) (by decide)]⟩) n (Nat.le_refl n)]
    exact g3 c hc
  · refine Or.inr (Or.inr ?_)
    rw [fBeg_at hB hD n hn hi, mU_j (by decide), ej 9 (by decide) (by decide)]
  · rw [fBeg_ne hB hD n hn (fun q hq => by omega), mU_j (by decide)]
    exact g11 i hi
theorem jI.cal {A : xS} {n D F m : Nat} {L : List Nat} (hI : pI A n L) (hC : calI A n) (h : jI A n D F m) (hF : F ≤ 6000) (hm : m ≤ 1000000) : ∀ q, q ≤ n → jI (fCal q (0, A, L)).2.1 n D F m ∧ rl n A (fCal q (0, A, L)).2.1
  | 0, _ => ⟨h, rl.rf⟩
  | q + 1, hq => by
    obtain ⟨i1, i2⟩ := jI.cal hI hC h hF hm q (by omega)
    obtain ⟨b1, -, -⟩ := fCal_P (0 : Int32) hI hC q (by omega)
    rw [fCal]
    split
    · rename_i hc
      obtain ⟨j1, j2⟩ := i1.sell b1 (show q < n by omega) hc.1 hF hm
      exact ⟨j1, i2.tr j2⟩
    · exact ⟨i1, i2⟩
theorem jI.unf {A : xS} {n D F m : Nat} {L : List Nat} (hI : pI A n L) (hC : calS A n) (h : jI A n D F m) (hF : F ≤ 6000) (hm : m ≤ 1000000) : ∀ q, q ≤ n → jI (fUnf q (0, A, L)).2.1 n D F m ∧ rl n A (fUnf q (0, A, L)).2.1
  | 0, _ => ⟨h, rl.rf⟩
  | q + 1, hq => by
    obtain ⟨i1, i2⟩ := jI.unf hI hC h hF hm q (by omega)
    obtain ⟨b1, -⟩ := fUnf_P (0 : Int32) hI hC q (by omega)
    rw [fUnf]
    split
    · rename_i hc
      obtain ⟨j1, j2⟩ := i1.sell b1 (show q < n by omega) hc.1 hF hm
      exact ⟨j1, i2.tr j2⟩
    · exact ⟨i1, i2⟩
theorem jI.drv {n D F m : Nat} : ∀ (R : List Nat) (V : xV), pI V.2.1 n V.2.2 → jI V.2.1 n D F m → R.Nodup → (∀ q ∈ R, q ∈ V.2.2) → jI (fDrv n R V).2.1 n D F m ∧ rl n V.2.1 (fDrv n R V).2.1
  | [], V, _, h, _, _ => ⟨h, rl.rf⟩
  | t :: r, V, hI, h, hd, hs => by
    have h1 := List.nodup_cons.mp hd
    rw [fDrv]
    split
    · rename_i hc
      have ht := hs t List.mem_cons_self
      obtain ⟨j1, j2⟩ := h.move hI ht hc
      have g := jI.drv r (V.1 - V.2.1 7 t, fMove V.2.1 t, fFor t V.2.2) (hI.move ht) j1 h1.2 (fun q hq => fFor_in (hs q (List.mem_cons_of_mem _ hq)) (fun z => h1.1 (z ▸ hq)))
      exact ⟨g.1, j2.tr g.2⟩
    · exact jI.drv r V hI h h1.2 (fun q hq => hs q (List.mem_cons_of_mem _ hq))
theorem jI.day {A : xS} {n D m : Nat} {L : List Nat} (hI : pI A n L) (hC : calI A n) (hD : A 4 0 = nI D) (hD1 : D + 1 ≤ 990) (h : jI A n D (6 * D) m) (hm : m ≤ 1000000) : jI (fDay n (0, A, L)).2.1 n (D + 1) (6 * (D + 1)) m ∧ rl n A (fDay n (0, A, L)).2.1 := by
  obtain ⟨⟨a1, a2, a3⟩, b, c, d, -⟩ := fDay_P hI hC hD (by omega)
  obtain ⟨b1, b2, b3, -⟩ := b _ rfl
  obtain ⟨c1, c2, c3, -⟩ := c _ rfl
  obtain ⟨d1, d2, d3, -⟩ := d _ rfl
  obtain ⟨j1, r1⟩ := h.owe (by omega)
  obtain ⟨j2, r2⟩ := jI.cal (D := D) (F := 6 * D + 6) (m := m) a1 a2 j1 (by omega) hm n (Nat.le_refl n)
  obtain ⟨j3, r3⟩ := jI.unf (D := D) (F := 6 * D + 6) (m := m) b1 b2 j2 (by omega) hm n (Nat.le_refl n)
  obtain ⟨j4, r4⟩ := jI.drv (D := D) (F := 6 * D + 6) (m := m) (n := n) (fUnf n (0, (fCal n (0, fOwe n A, L)).2)).2.2 ((fUnf n (0, (fCal n (0, fOwe n A, L)).2)).2.1 1 0, (fUnf n (0, (fCal n (0, fOwe n A, L)).2)).2) c1 j3 c1.2.1.2.1 (fun q hq => hq)
  obtain ⟨j5, r5⟩ := j4.tick hI.1.2.1 (by omega)
  rw [fDay_eq]
  show jI (fBeg n (mU _ 4 0 (_ + 1))) n (D + 1) (6 * (D + 1)) m ∧ rl n A (fBeg n (mU _ 4 0 (_ + 1)))
  rw [d3, nI_1]
  exact ⟨j5, r1.tr (r2.tr (r3.tr (r4.tr r5)))⟩
theorem fCal_1 {n : Nat} (A : xS) (L : List Nat) : ∀ q, q ≤ 1000 → 0 ≤ (fCal q (0, A, L)).1.toInt ∧ (fCal q (0, A, L)).1.toInt ≤ q
  | 0, _ => ⟨by show 0 ≤ (0 : Int32).toInt; decide, by show (0 : Int32).toInt ≤ 0; decide⟩
  | q + 1, hq => by
    have ih := fCal_1 (n := n) A L q (by omega)
    have e1 : (1 : Int32).toInt = 1 := by decide
    rw [fCal]
    split
    · show 0 ≤ ((fCal q (0, A, L)).1 + 1).toInt ∧ ((fCal q (0, A, L)).1 + 1).toInt ≤ _
      rw [i_add (by rw [e1]; omega) (by rw [e1]; omega), e1]
      omega
    · omega
theorem fUnf_1 {n : Nat} (A : xS) (L : List Nat) : ∀ q, q ≤ 1000 → 0 ≤ (fUnf q (0, A, L)).1.toInt ∧ (fUnf q (0, A, L)).1.toInt ≤ q
  | 0, _ => ⟨by show 0 ≤ (0 : Int32).toInt; decide, by show (0 : Int32).toInt ≤ 0; decide⟩
  | q + 1, hq => by
    have ih := fUnf_1 (n := n) A L q (by omega)
    have e1 : (1 : Int32).toInt = 1 := by decide
    rw [fUnf]
    split
    · show 0 ≤ ((fUnf q (0, A, L)).1 + 1).toInt ∧ ((fUnf q (0, A, L)).1 + 1).toInt ≤ _
      rw [i_add (by rw [e1]; omega) (by rw [e1]; omega), e1]
      omega
    · omega
theorem day_1 {A : xS} {n D : Nat} {L : List Nat} (hI : pI A n L) (hC : calI A n) (hD : A 4 0 = nI D) (hD1 : D + 1 ≤ 990) : (∀ k, k < 24 * (D + 1) → (fDay n (0, A, L)).2.1 18 k = A 18 k) ∧ 0 ≤ (fDay n (0, A, L)).1.toInt ∧ (fDay n (0, A, L)).1.toInt ≤ 48 := by
  obtain ⟨⟨a1, a2, a3⟩, b, c, d, -⟩ := fDay_P hI hC hD (by omega)
  obtain ⟨b1, b2, b3, -⟩ := b _ rfl
  obtain ⟨c1, c2, c3, -⟩ := c _ rfl
  obtain ⟨d1, d2, d3, -⟩ := d _ rfl
  have hn := hI.1.2.1
  rw [fDay_eq]
  refine ⟨fun k hk => ?_, ?_⟩
  · show fBeg n (mU _ 4 0 (_ + 1)) 18 k = _
    rw [d3, nI_1, fBeg_ne (mU_eq _ _ _ _) (by omega) n hn (fun i hi => by omega), mU_j (by decide)]
    rw [(fDrv_I (n := n) (fUnf n (0, (fCal n (0, fOwe n A, L)).2)).2.2 ((fUnf n (0, (fCal n (0, fOwe n A, L)).2)).2.1 1 0, (fUnf n (0, (fCal n (0, fOwe n A, L)).2)).2) c1.2.1).1 18 rfl]
    show (fUnf n (0, (fCal n (0, fOwe n A, L)).2)).2.1 18 k = _
    rw [(fUnf_I (n := n) (0, (fCal n (0, fOwe n A, L)).2) n b1.2.1).1 18 rfl]
    show (fCal n (0, fOwe n A, L)).2.1 18 k = _
    rw [(fCal_I (n := n) (0, fOwe n A, L) n a1.2.1).1 18 rfl]
    show fOwe n A 18 k = _
    rw [fOwe_j (by decide)]
  · have h1 := fCal_1 (n := n) (fOwe n A) L n (by omega)
    have h2 : 0 ≤ (fUnf n (0, (fCal n (0, fOwe n A, L)).2)).1.toInt ∧ (fUnf n (0, (fCal n (0, fOwe n A, L)).2)).1.toInt ≤ n := fUnf_1 (n := n) (fCal n (0, fOwe n A, L)).2.1 (fCal n (0, fOwe n A, L)).2.2 n (by omega)
    show 0 ≤ ((fCal n (0, fOwe n A, L)).1 + (fUnf n (0, (fCal n (0, fOwe n A, L)).2)).1).toInt ∧ ((fCal n (0, fOwe n A, L)).1 + (fUnf n (0, (fCal n (0, fOwe n A, L)).2)).1).toInt ≤ 48
    rw [i_add (by omega) (by omega)]
    omega
theorem jI.days {A : xS} {n D m : Nat} {L : List Nat} (hF : fI A n L D) (h : jI A n D (6 * D) m) (hm : m ≤ 1000000) : ∀ k, D + k ≤ 990 → jI (fDays n k (0, mU A 19 0 0, L)).2.1 n (D + k) (6 * (D + k)) m ∧ rl n A (fDays n k (0, mU A 19 0 0, L)).2.1 ∧ (∀ i, i < 24 * (D + 1) → (fDays n k (0, mU A 19 0 0, L)).2.1 18 i = A 18 i) ∧ 0 ≤ (fDays n k (0, mU A 19 0 0, L)).1.toInt ∧ (fDays n k (0, mU A 19 0 0, L)).1.toInt ≤ 48 * k
  | 0, _ => ⟨h.same rfl rfl rfl rfl rfl rfl rfl rfl rfl, rl.same rfl rfl rfl rfl rfl rfl, fun _ _ => rfl, by show 0 ≤ (0 : Int32).toInt; decide, by show (0 : Int32).toInt ≤ 0; decide⟩
  | k + 1, hk => by
    obtain ⟨i1, i2, i3, i4, i5⟩ := jI.days hF h hm k (by omega)
    obtain ⟨f1, f2, f3, f4⟩ := fDays_P hF k (by omega)
    obtain ⟨j1, j2⟩ := jI.day f1 f2 f3 (by omega) i1 hm
    obtain ⟨k1, k2, k3⟩ := day_1 f1 f2 f3 (by omega)
    refine ⟨j1, i2.tr j2, fun i hi => ?_, ?_⟩
    · show (fDay n (0, (fDays n k (0, mU A 19 0 0, L)).2)).2.1 18 i = _
      exact (k1 i (by omega)).trans (i3 i hi)
    · show 0 ≤ ((fDays n k (0, mU A 19 0 0, L)).1 + (fDay n (0, (fDays n k (0, mU A 19 0 0, L)).2)).1).toInt ∧ ((fDays n k (0, mU A 19 0 0, L)).1 + (fDay n (0, (fDays n k (0, mU A 19 0 0, L)).2)).1).toInt ≤ _
      have hk2 : ((fDay n (0, (fDays n k (0, mU A 19 0 0, L)).2)).1).toInt ≤ 48 := k3
      have hk1 : 0 ≤ ((fDay n (0, (fDays n k (0, mU A 19 0 0, L)).2)).1).toInt := k2
      rw [i_add (by omega) (by omega)]
      omega
end XOD
end
section
section XOM
/-! what each single call does to what this law speaks of -/
def rs (n : Nat) (A A' : xS) : Prop := (∀ t, t < n → ¬ A 9 t < 5 → A' 9 t = A 9 t) ∧ psZ A 8 ≤ psZ A' 8 ∧ (A 3 0).toInt ≤ (A' 3 0).toInt ∧ ∀ t, t < n → A' 6 t = A 6 t ∧ A' 7 t = A 7 t
theorem rl.rs {n : Nat} {A A' : xS} (h : rl n A A') : rs n A A' := by
  obtain ⟨h1, h2, h3, h4, h5, h6⟩ := h
  exact ⟨h1, h3, h4, fun t _ => ⟨by rw [h5], by rw [h6]⟩⟩
theorem rs.rf {n : Nat} {A : xS} : rs n A A := rl.rf.rs
theorem rs.tr {n : Nat} {A A1 A2 : xS} (h : rs n A A1) (g : rs n A1 A2) : rs n A A2 := by
  obtain ⟨h1, h2, h3, h4⟩ := h
  obtain ⟨g1, g2, g3, g4⟩ := g
  refine ⟨fun t ht hc => ?_, by omega, by omega, fun t ht => ⟨(g4 t ht).1.trans (h4 t ht).1, (g4 t ht).2.trans (h4 t ht).2⟩⟩
  have e := h1 t ht hc
  rw [g1 t ht (by rw [e]; exact hc), e]
theorem jI.mono {A : xS} {n D F m m' : Nat} (h : jI A n D F m) (hm : m ≤ m') : jI A n D F m' := by
  obtain ⟨g1, g2, g3, g4, g5, g6, ⟨g7, g8⟩, g9⟩ := h
  exact ⟨g1, g2, g3, g4, g5, g6, ⟨g7, by omega⟩, g9⟩
variable {A : xS} {n D F m : Nat} {L : List Nat}
theorem jI.thr (h : jI A n D F m) : jI (mU A 19 0 0) n D F m := h.same rfl rfl rfl rfl rfl rfl rfl rfl rfl
theorem jI.want (h : jI A n D F m) (t : Nat) (c : Int32) : jI (mU (mU (mU A 19 0 0) 15 t (-1)) 15 t c) n D F m ∧ rs n A (mU (mU (mU A 19 0 0) 15 t (-1)) 15 t c) := ⟨h.same rfl rfl rfl rfl rfl rfl rfl rfl rfl, rl.rs (rl.same rfl rfl rfl rfl rfl rfl)⟩
theorem jI.doubt (h : jI A n D F m) (t : Nat) (c : Int32) : jI (mU (mU A 19 0 0) 14 t c) n D F m ∧ rs n A (mU (mU A 19 0 0) 14 t c) := ⟨h.same rfl rfl rfl rfl rfl rfl rfl rfl rfl, rl.rs (rl.same rfl rfl rfl rfl rfl rfl)⟩
theorem jI.value (h : jI A n D F m) (t : Nat) {v : Int32} (hv : 0 ≤ v.toInt ∧ v.toInt ≤ 300) : jI (mU (mU A 19 0 0) 8 t v) n D F m ∧ rs n A (mU (mU A 19 0 0) 8 t v) := by
  obtain ⟨g1, g2, g3, g4, g5, g6, g7, g9, g10, g11⟩ := h
  have ea : atC (mU (mU A 19 0 0) 8 t v) n = atC A n := atC_same (A := A) (A' := mU (mU A 19 0 0) 8 t v) (fun i => Iff.rfl) n
  refine ⟨⟨g1, g2, fun c hc => ?_, fun i hi => ?_, g5, g6, ⟨g7.1, ?_⟩, ?_, g10, g11⟩, rl.rs (rl.same rfl rfl rfl rfl rfl rfl)⟩
  · rw [ldZ_same (A := A) (A' := mU (mU A 19 0 0) 8 t v) (N := n) (fun t _ => ⟨rfl, rfl⟩) n (Nat.le_refl n)]
    exact g3 c hc
  · by_cases e : i = t
    · subst e; rw [mU_eq]; exact hv
    · rw [mU_i e]; exact g4 i hi
  · rw [ea, psZ_row (A := A) (A' := mU (mU A 19 0 0) 8 t v) rfl]; exact g7.2
  · rw [ea]; exact g9
theorem jI.lend (hI : pI A n L) (h : jI A n D F m) {t : Nat} (ht : t < n) {l z : Int32} (hz : 1 ≤ z.toInt ∧ z.toInt ≤ 20) (hm : m ≤ 1000000) : jI (bLend (mU A 19 0 0) t l z) n D F (m + 20) ∧ rs n A (bLend (mU A 19 0 0) t l z) ∧ psI (bLend (mU A 19 0 0) t l z) 8 = psI A 8 + z := by
  obtain ⟨ow, how, e6⟩ := hI.1.2.2.2.1 t (by have := hI.1.2.1; omega)
  have h0 : bLend (mU A 19 0 0) t l z = mU (mU (mU (mU (mU A 19 0 0) 12 t z) 13 t l) 14 t (-1)) 2 ow (A 2 ow + z) := by
    unfold bLend
    rw [show mU A 19 0 0 6 t = nI ow from e6, ixn2 (by omega)]
    rfl
  have h2 : bLend (mU A 19 0 0) t l z 2 = mU A 2 ow (A 2 ow + z) 2 := by
    rw [h0, mU_row, mU_row]
    rfl
  obtain ⟨g1, g2, g3, g4, g5, g6, ⟨g7, g8⟩, g9, g10, g11⟩ := h
  have hj : ∀ j, j ≠ 2 → j ≠ 12 → j ≠ 13 → j ≠ 14 → j ≠ 19 → bLend (mU A 19 0 0) t l z j = A j := fun j a b c d e => by rw [h0, mU_j a, mU_j d, mU_j c, mU_j b, mU_j e]
  have ea : atC (bLend (mU A 19 0 0) t l z) n = atC A n := atC_same (fun i => by rw [hj 9 (by decide) (by decide) (by decide) (by decide) (by decide)]) n
  have hge := psZ_ge g7 8 (Nat.le_refl 8)
  have h5 := g7 ow how
  have h6 := hge.2 ow how
  have ez : (A 2 ow + z).toInt = (A 2 ow).toInt + z.toInt := i_add (by omega) (by omega)
  have hps : psZ (bLend (mU A 19 0 0) t l z) 8 = psZ A 8 + z.toInt := by
    rw [psZ_row h2, psZ_mU, if_pos how, ez]; omega
  refine ⟨⟨?_, ?_, fun c hc => ?_, ?_, ?_, fun i hi => ?_, ⟨fun p hp => ?_, ?_⟩, ?_, ?_, ?_⟩, ⟨fun i hi hc => ?_, ?_, ?_, fun i hi => ⟨?_, ?_⟩⟩, ?_⟩
  · rw [hj 0 (by decide) (by decide) (by decide) (by decide) (by decide)]; exact g1
  · rw [hj 7 (by decide) (by decide) (by decide) (by decide) (by decide)]; exact g2
  · rw [ldZ_same (A := A) (N := n) (fun t _ => ⟨by rw [hj 7 (by decide) (by decide) (by decide) (by decide) (by decide)], by rw [hj 9 (by decide) (by decide) (by decide) (by decide) (by decide)]⟩) n (Nat.le_refl n)]
    exact g3 c hc
  · rw [hj 8 (by decide) (by decide) (by decide) (by decide) (by decide)]; exact g4
  · rw [hj 11 (by decide) (by decide) (by decide) (by decide) (by decide)]; exact g5
  · rw [h0, mU_j (by decide), mU_j (by decide), mU_j (by decide)]
    by_cases e : i = t
    · subst e; rw [mU_eq]; omega
    · rw [mU_i e]; exact g6 i hi
  · rw [h2]
    by_cases e : p = ow
    · subst e; rw [mU_eq, ez]; omega
    · rw [mU_i e]; exact g7 p hp
  · rw [hps, ea]; omega
  · rw [hj 3 (by decide) (by decide) (by decide) (by decide) (by decide), ea]; exact g9
  · rw [hj 18 (by decide) (by decide) (by decide) (by decide) (by decide), hj 9 (by decide) (by decide) (by decide) (by decide) (by decide)]; exact g10
  · rw [hj 18 (by decide) (by decide) (by decide) (by decide) (by decide)]; exact g11
  · rw [hj 9 (by decide) (by decide) (by decide) (by decide) (by decide)]
  · rw [hps]; omega
  · rw [hj 3 (by decide) (by decide) (by decide) (by decide) (by decide)]; exact Int.le_refl _
  · rw [hj 6 (by decide) (by decide) (by decide) (by decide) (by decide)]
  · rw [hj 7 (by decide) (by decide) (by decide) (by decide) (by decide)]
  · rw [psI_row h2, psI_mU, if_pos how]
theorem jI.repay (hI : pI A n L) (h : jI A n D F m) {t : Nat} (ht : t < n) (hm : m ≤ 1000000) : jI (bRepay (mU A 19 0 0) t) n D F (m + 20) ∧ rs n A (bRepay (mU A 19 0 0) t) ∧ psI (bRepay (mU A 19 0 0) t) 8 = psI A 8 + A 12 t := by
  obtain ⟨ow, how, e13⟩ := hI.1.2.2.2.2 t (by have := hI.1.2.1; omega)
  have h0 : bRepay (mU A 19 0 0) t = mU (mU (mU (mU A 19 0 0) 2 ow (A 2 ow + A 12 t)) 12 t 0) 14 t (-1) := by
    unfold bRepay
    rw [show mU A 19 0 0 13 t = nI ow from e13, ixn2 (by omega)]
    rfl
  have h2 : bRepay (mU A 19 0 0) t 2 = mU A 2 ow (A 2 ow + A 12 t) 2 := by
    rw [h0, mU_j (by decide), mU_j (by decide), mU_row, mU_row]
    rfl
  obtain ⟨g1, g2, g3, g4, g5, g6, ⟨g7, g8⟩, g9, g10, g11⟩ := h
  have hj : ∀ j, j ≠ 2 → j ≠ 12 → j ≠ 14 → j ≠ 19 → bRepay (mU A 19 0 0) t j = A j := fun j a b c e => by rw [h0, mU_j c, mU_j b, mU_j a, mU_j e]
  have ea : atC (bRepay (mU A 19 0 0) t) n = atC A n := atC_same (fun i => by rw [hj 9 (by decide) (by decide) (by decide) (by decide)]) n
  have hge := psZ_ge g7 8 (Nat.le_refl 8)
  have h5 := g7 ow how
  have h6 := hge.2 ow how
  have hz := g6 t ht
  have ez : (A 2 ow + A 12 t).toInt = (A 2 ow).toInt + (A 12 t).toInt := i_add (by omega) (by omega)
  have hps : psZ (bRepay (mU A 19 0 0) t) 8 = psZ A 8 + (A 12 t).toInt := by
    rw [psZ_row h2, psZ_mU, if_pos how, ez]; omega
  refine ⟨⟨?_, ?_, fun c hc => ?_, ?_, ?_, fun i hi => ?_, ⟨fun p hp => ?_, ?_⟩, ?_, ?_, ?_⟩, ⟨fun i hi hc => ?_, ?_, ?_, fun i hi => ⟨?_, ?_⟩⟩, ?_⟩
  · rw [hj 0 (by decide) (by decide) (by decide) (by decide)]; exact g1
  · rw [hj 7 (by decide) (by decide) (by decide) (by decide)]; exact g2
  · rw [ldZ_same (A := A) (N := n) (fun t _ => ⟨by rw [hj 7 (by decide) (by decide) (by decide) (by decide)], by rw [hj 9 (by decide) (by decide) (by decide) (by decide)]⟩) n (Nat.le_refl n)]
    exact g3 c hc
  · rw [hj 8 (by decide) (by decide) (by decide) (by decide)]; exact g4
  · rw [hj 11 (by decide) (by decide) (by decide) (by decide)]; exact g5
  · rw [h0, mU_j (by decide)]
    by_cases e : i = t
    · subst e; rw [mU_eq]; decide
    · rw [mU_i e]; exact g6 i hi
  · rw [h2]
    by_cases e : p = ow
    · subst e; rw [mU_eq, ez]; omega
    · rw [mU_i e]; exact g7 p hp
  · rw [hps, ea]; omega
  · rw [hj 3 (by decide) (by decide) (by decide) (by decide), ea]; exact g9
  · rw [hj 18 (by decide) (by decide) (by decide) (by decide), hj 9 (by decide) (by decide) (by decide) (by decide)]; exact g10
  · rw [hj 18 (by decide) (by decide) (by decide) (by decide)]; exact g11
  · rw [hj 9 (by decide) (by decide) (by decide) (by decide)]
  · rw [hps]; omega
  · rw [hj 3 (by decide) (by decide) (by decide) (by decide)]; exact Int.le_refl _
  · rw [hj 6 (by decide) (by decide) (by decide) (by decide)]
  · rw [hj 7 (by decide) (by decide) (by decide) (by decide)]
  · rw [psI_row h2, psI_mU, if_pos how]
theorem fetch_9 (A : xS) (t i : Nat) : bFetch (mU A 19 0 0) t 9 i = if i = t then 10 else A 9 i := by
  unfold bFetch
  rw [mU_j (by decide), mU_j (by decide)]
  by_cases e : i = t
  · subst e; rw [mU_eq, if_pos rfl]
  · rw [mU_i e, if_neg e]; rfl
theorem fetch_j {A : xS} {t j : Nat} (h9 : j ≠ 9) (h3 : j ≠ 3) (h15 : j ≠ 15) (h19 : j ≠ 19) : bFetch (mU A 19 0 0) t j = A j := by
  unfold bFetch
  rw [mU_j h15, mU_j h3, mU_j h9, mU_j h19]
theorem fetch_3 (A : xS) (t : Nat) : bFetch (mU A 19 0 0) t 3 0 = A 3 0 + A 11 t := by
  unfold bFetch
  rw [mU_j (by decide), mU_eq]
  rfl
theorem jI.fetch (h : jI A n D F m) {t : Nat} (ht : t < n) (h9 : A 9 t < 5) (hF : F ≤ 6000) (hn : n ≤ 24) : jI (bFetch (mU A 19 0 0) t) n D F m ∧ rs n A (bFetch (mU A 19 0 0) t) := by
  obtain ⟨g1, g2, g3, g4, g5, g6, ⟨g7, g8⟩, ⟨g9, g9b⟩, g10, g11⟩ := h
  have f1 := g5 t ht
  have hat := atC_sell (A := A) (A' := bFetch (mU A 19 0 0) t) (t := t) (fun i hi => by rw [fetch_9, if_neg hi]) h9 (by rw [fetch_9, if_pos rfl]; decide) n
  rw [if_pos ht] at hat
  have e3 : (bFetch (mU A 19 0 0) t 3 0).toInt = (A 3 0).toInt + (A 11 t).toInt := by
    rw [fetch_3, i_add (by omega) (by omega)]
  have e2 : psZ (bFetch (mU A 19 0 0) t) 8 = psZ A 8 := psZ_row (fetch_j (by decide) (by decide) (by decide) (by decide)) 8
  refine ⟨⟨?_, ?_, fun c hc => ?_, ?_, ?_, ?_, ⟨?_, ?_⟩, ⟨?_, ?_⟩, fun i hi => ?_, ?_⟩, fun i hi hc => ?_, ?_, ?_, fun i hi => ⟨?_, ?_⟩⟩
  · rw [fetch_j (by decide) (by decide) (by decide) (by decide)]; exact g1
  · rw [fetch_j (by decide) (by decide) (by decide) (by decide)]; exact g2
  · refine Int.le_trans (ldZ_mono (N := n) (A := A) (fun i hi => by have := (g2 i hi).1; omega) (fun i hi => ⟨by rw [fetch_j (by decide) (by decide) (by decide) (by decide)], fun q => ?_⟩) n (Nat.le_refl n)) (g3 c hc)
    rw [fetch_9] at q
    by_cases e : i = t
    · rw [if_pos e] at q
      exact absurd (q ▸ nI_lt (b := 5) hc (by decide)) (by decide)
    · rw [if_neg e] at q; exact q
  · rw [fetch_j (by decide) (by decide) (by decide) (by decide)]; exact g4
  · rw [fetch_j (by decide) (by decide) (by decide) (by decide)]; exact g5
  · rw [fetch_j (by decide) (by decide) (by decide) (by decide)]; exact g6
  · rw [fetch_j (by decide) (by decide) (by decide) (by decide)]; exact g7
  · rw [e2]; omega
  · rw [e3]; omega
  · rw [e3]; omega
  · rw [fetch_j (j := 18) (by decide) (by decide) (by decide) (by decide), fetch_9]
    by_cases e : i = t
    · subst e
      rcases g10 i hi with h | h | h
      · exact Or.inl h
      · exact Or.inr (Or.inl h)
      · exact Or.inr (Or.inl (by rw [← h]; exact h9))
    · rw [if_neg e]; exact g10 i hi
  · rw [fetch_j (by decide) (by decide) (by decide) (by decide)]; exact g11
  · rw [fetch_9, if_neg (fun e => hc (by rw [e]; exact h9))]
  · rw [e2]; exact Int.le_refl _
  · rw [e3]; omega
  · rw [fetch_j (by decide) (by decide) (by decide) (by decide)]
  · rw [fetch_j (by decide) (by decide) (by decide) (by decide)]
/-! a thing left -/
theorem lv_7 (A : xS) (n i : Nat) (ow z c : Int32) : bLeave (mU A 19 0 0) n ow z c 7 i = if i = n then z else A 7 i := by
  by_cases e : i = n
  · subst e
    unfold bLeave
    rw [if_pos rfl, mU_j (by decide), mU_j (by decide), mU_j (by decide), mU_j (by decide), mU_j (by decide), mU_j (by decide), mU_eq]
  · rw [leave_ne e (by decide) (by decide), if_neg e]
theorem lv_9 (A : xS) (n i : Nat) (ow z c : Int32) : bLeave (mU A 19 0 0) n ow z c 9 i = if i = n then c else A 9 i := by
  by_cases e : i = n
  · subst e
    unfold bLeave
    rw [if_pos rfl, mU_j (by decide), mU_j (by decide), mU_j (by decide), mU_j (by decide), mU_eq]
  · rw [leave_ne e (by decide) (by decide), if_neg e]
theorem lv_8 (A : xS) (n i : Nat) (ow z c : Int32) : bLeave (mU A 19 0 0) n ow z c 8 i = if i = n then 20 * z else A 8 i := by
  by_cases e : i = n
  · subst e
    unfold bLeave
    rw [if_pos rfl, mU_j (by decide), mU_j (by decide), mU_j (by decide), mU_j (by decide), mU_j (by decide), mU_eq]
  · rw [leave_ne e (by decide) (by decide), if_neg e]
theorem lv_6 (A : xS) (n i : Nat) (ow z c : Int32) : bLeave (mU A 19 0 0) n ow z c 6 i = if i = n then ow else A 6 i := by
  by_cases e : i = n
  · subst e
    unfold bLeave
    rw [if_pos rfl, mU_j (by decide), mU_j (by decide), mU_j (by decide), mU_j (by decide), mU_j (by decide), mU_j (by decide), mU_j (by decide), mU_eq]
  · rw [leave_ne e (by decide) (by decide), if_neg e]
theorem jI.leave (hI : pI A n L) (h : jI A n D F m) (hn : n < 24) (hD : D ≤ 1000) {ow z c : Int32} {ci : Nat} (hci : ci < 5) (ec : c = nI ci) (hz : 1 ≤ z.toInt ∧ z.toInt ≤ 3) (hld : ldZ A (nI ci) n + z.toInt ≤ 10) : jI (bLeave (mU A 19 0 0) n ow z c) (n + 1) D F (m + 300) ∧ rs n A (bLeave (mU A 19 0 0) n ow z c) := by
  obtain ⟨g1, g2, g3, g4, g5, g6, ⟨g7, g8⟩, ⟨g9, g9b⟩, g10, g11⟩ := h
  obtain ⟨n1, n2, n3⟩ := hI.2.2.2.2.2.2.2.2 n (Nat.le_refl n) hn
  have ej : ∀ j, j = 0 ∨ j = 1 ∨ j = 2 ∨ j = 3 ∨ j = 4 ∨ j = 11 ∨ j = 12 ∨ j = 13 ∨ j = 18 → bLeave (mU A 19 0 0) n ow z c j = A j := fun j hj => leave_j hj
  have e2 : psZ (bLeave (mU A 19 0 0) n ow z c) 8 = psZ A 8 := psZ_row (ej 2 (by decide)) 8
  have at1 : ∀ q, q ≤ n → atC (bLeave (mU A 19 0 0) n ow z c) q = atC A q := by
    intro q
    induction q with
    | zero => intro _; rfl
    | succ q ih =>
      intro hq
      rw [atC, atC, ih (by omega), lv_9, if_neg (show ¬ q = n by omega)]
  have ea : atC (bLeave (mU A 19 0 0) n ow z c) (n + 1) ≤ atC A n + 1 := by
    rw [atC, at1 n (Nat.le_refl n)]
    split <;> omega
  have e20 : (20 * z).toInt = 20 * z.toInt := by
    have : (20 : Int32).toInt = 20 := by decide
    rw [i_mul (by rw [this]; omega) (by rw [this]; omega), this]
  refine ⟨⟨?_, fun i hi => ?_, fun c' hc => ?_, fun i hi => ?_, fun i hi => ?_, fun i hi => ?_, ⟨?_, ?_⟩, ⟨?_, ?_⟩, fun i hi => ?_, ?_⟩, fun i hi hc => ?_, ?_, ?_, fun i hi => ⟨?_, ?_⟩⟩
  · rw [ej 0 (by decide)]; exact g1
  · rw [lv_7]
    by_cases e : i = n
    · rw [if_pos e]; exact hz
    · rw [if_neg e]; exact g2 i (by omega)
  · rw [ldZ, lv_7, lv_9, if_pos rfl, if_pos rfl, ldZ_same (A := A) (N := n) (fun t ht => ⟨by rw [lv_7, if_neg (by omega)], by rw [lv_9, if_neg (by omega)]⟩) n (Nat.le_refl n)]
    by_cases e : c = nI c'
    · have : c' = ci := (nI_eq (by omega) (by omega)).mp (e.symm.trans ec)
      subst this
      rw [if_pos e]; exact hld
    · rw [if_neg e]; have := g3 c' hc; omega
  · rw [lv_8]
    by_cases e : i = n
    · rw [if_pos e, e20]; omega
    · rw [if_neg e]; exact g4 i (by omega)
  · rw [ej 11 (by decide)]
    by_cases e : i = n
    · rw [e, n1, i_0]; omega
    · exact g5 i (by omega)
  · rw [ej 12 (by decide)]
    by_cases e : i = n
    · rw [e, n2, i_0]; omega
    · exact g6 i (by omega)
  · rw [ej 2 (by decide)]; exact g7
  · rw [e2]; omega
  · rw [ej 3 (by decide)]; exact g9
  · rw [ej 3 (by decide)]; omega
  · rw [ej 18 (by decide), lv_9]
    by_cases e : i = n
    · rw [e, n3 D hD]; exact Or.inl rfl
    · rw [if_neg e]; exact g10 i (by omega)
  · rw [ej 18 (by decide)]; exact g11
  · rw [lv_9, if_neg (by omega)]
  · rw [e2]; exact Int.le_refl _
  · rw [ej 3 (by decide)]; exact Int.le_refl _
  · rw [lv_6, if_neg (by omega)]
  · rw [lv_7, if_neg (by omega)]
end XOM
end
section
/-! THE CLAIM OUT OF ONE WALK OF THE LAW'S BODY. Your part is whole_start (and what it stands on); all else here is the same for every law, but numbers. -/
def R_law : String := "LeftThingsLaw"
def lw_P (b : Addr) (xs : List Int32) (args : Array Value) (s : State) : Prop := args = #[.ref b] ∧ s.IntsAt b xs ∧ xs.length ≤ 260 ∧ (Jvm.Cond.and given_1 narrow_1).before args s = true
def lw_Q (_ : Array Value) (s : State) (o : Outcome) (t : State) : Prop := o = .returned (some (.int 1)) ∧ Framed s o t [] 662782 7113121
def lw_Z (below : List Frame) (a : Array Value) (s : State) : State → Prop := fun t => ∃ o, t.status = .running ∧ Ended t below o ∧ lw_Q a s o t
/-- the law's own end, with 1 on the stack, nothing written that was there before, its room as the claim has it -/
theorem lw_ret {p : Program} {l : Launch} {e : Env} {s : State} {m : MethodId} {below : List Frame} {meth : Method} {c : Code} {b : Nat} (hx : p.tables.exec = Jvm.exec) (hb : c.code = code) (hr : meth.sig.returnType = ret) (hlocks : meth.locks = false) {pc : Nat} {H : Heap} {ls : Array Slot} (hdg : decode code pc = .ok (.ireturn, 1)) : W p l e room_1 s m #[Value.ref b] below meth c H [] 662782 7113121 (lw_Z below #[Value.ref b] s) (F0 m pc ls [.int 1]) := by
  intro T hT X
  obtain ⟨fs, hret, hrun, hended, hW, hframe⟩ := X.leave (v := some (.int 1)) (hlocks := hlocks) (fun h => by rw [hr] at h; cases h)
  have hmeth' : T.vm.method? m = some meth := X.method'
  refine ⟨T.setFrames fs, ?_, .returned (some (.int 1)), hrun, hended, rfl, ⟨_, rfl⟩, hW, hframe⟩
  jvm_step X.here [X.here.top, hx, hb, hdg, hmeth', hr, ret, narrow_b1]
  (try refine ⟨rfl, ?_⟩); (try refine ⟨rfl, ?_⟩)
  first | (intro acts; rw [hret _ acts rfl rfl rfl]) | rw [hret _ _ rfl rfl rfl]
  exact Steps.refl _
/-- what holds at the law's entry: the machine, the code, the tables' words (any of lw_tbl by 'hts w (by decide +kernel)'), the script of L ints xs at the cell b, what the Statement gives of the start (any of its parts by flat_of_before) -/
def lw_At (p : Program) (s : State) (m : MethodId) (meth : Method) (c : Code) (b L : Nat) (xs : Nat → Int32) : Prop :=
  p.tables.exec = Jvm.exec ∧ c.code = code ∧ meth.sig.returnType = ret ∧ c.maxLocals = 17 ∧ s.vm.findClass R_law = some m.cls ∧ (∀ w ∈ lw_tbl, w.before #[Value.ref b] s = true) ∧ va_X b L xs s s.heap ∧ b < s.heap.size ∧ meth.locks = false ∧ (Jvm.Cond.and given_1 narrow_1).before #[Value.ref b] s = true
-- ===== YOUR PART BEGINS =====
/-- YOUR PART: from the entry, for every script of at most 260 ints, the law comes to its end with true ('hflags': the launch's flags, for a law that throws: no stack traces) -/
theorem whole_start {p : Program} {e : Env} {s : State} {m : MethodId} {below : List Frame} {meth : Method} {c : Code} (l : Launch) (hflags : l.flags = flags0) {b L : Nat} {xs : Nat → Int32} (hL : L ≤ 260) (C0 : lw_At p s m meth c b L xs) : W p l e room_1 s m #[Value.ref b] below meth c s.heap [] 0 0 (lw_Z below #[Value.ref b] s) (entryFrame m ([Value.ref b] : List Value).toArray 17) := by
  sorry
-- ===== YOUR PART ENDS =====
set_option maxHeartbeats 4000000 in
theorem lw_walk (l : Launch) (hflags : l.flags = flags0) (b : Addr) (xs : List Int32) : MetFree l x (headSpec (Jvm.Cond.code x code maxLocals ret :: tables_1) room_1) (lw_P b xs) (fun _ _ _ _ _ => True) lw_Q := by
  refine MetFree.of_bodyS (code := code) (maxLocals := maxLocals) (ret := ret) (by decide) ?_ ?_
  · intro args s m h hn
    obtain ⟨meth, c, h1, h2, h3, h4, h5, h6, -, -⟩ := Cond.code_spec hn (atoms_spec (ws := Jvm.Cond.code x code maxLocals ret :: tables_1) h _ List.mem_cons_self)
    exact ⟨meth, c, h1, h2, h3, h4, h5, h6⟩
  · intro p e s m args below meth c s₁ B hml0 hP _
    obtain ⟨rfl, hx, hbd, hgv⟩ := hP
    obtain ⟨scr, harrAt, hlist, hof, hsmall⟩ := hx
    obtain ⟨hcb, hkn, -, -⟩ := State.arrayAt?_spec harrAt
    have hown : s.vm.findClass R_law = some m.cls := findClass_of_methodNamed B.named
    have hts0 : ∀ c ∈ (Jvm.Cond.code x code maxLocals ret :: tables_1), c.before #[Value.ref b] s = true := atoms_spec (ws := Jvm.Cond.code x code maxLocals ret :: tables_1) B.pre
    have hts : ∀ w ∈ lw_tbl, w.before #[Value.ref b] s = true := k2_hts_sels lw_privs (fun w hw => hts0 w (List.mem_cons_of_mem _ hw)) lw_privs_ok
    have hml : c.maxLocals = 17 := B.maxLocals_eq (hts0 _ List.mem_cons_self)
    have X₀ : Stand p l e room_1 s m #[Value.ref b] below meth c s₁ [] 0 0 := Stand.of_body B
    have hh0 : s₁.heap = s.heap := by rw [B.state]; rfl
    have hsz : scr.slots.size = xs.length := by rw [← Array.length_toList, hlist, List.length_map]
    have hval : ∀ j : Nat, j < xs.length → scr.slots[j]? = some (.int (xs.getD j 0)) := fun j hj => by
      rw [← Array.getElem?_toList, hlist]
      simp [hj]
    have hbl : b < s.heap.size := (Array.getElem?_eq_some_iff.mp hcb).1
    have hX : va_X b xs.length (fun j => xs.getD j 0) s s.heap := ⟨scr, hcb, hof, hkn, hsz, hval⟩
    have K : W p l e room_1 s m #[Value.ref b] below meth c s₁.heap [] 0 0 (lw_Z below #[Value.ref b] s) (entryFrame m ([Value.ref b] : List Value).toArray 17) := by
      rw [hh0]
      exact whole_start l hflags hbd ⟨B.exec, B.bytes, B.returns, hml, hown, hts, hX, hbl, B.notSynchronized, hgv⟩
    obtain ⟨t, a1, o, b1, b2, b3⟩ := K s₁ rfl X₀
    exact ⟨t, o, a1, b1, b2, b3⟩
theorem lw_pre_spec {args : Array Value} {s : State} (h : (Jvm.Cond.and given_1 narrow_1).before args s = true) (hr : rest_1_c.before args s = true) : ∃ (b : Addr) (xs : List Int32), lw_P b xs args s := by
  have hs := flat_of_before _ h
  have hq := flat_of_before _ hr
  have hc : (Cond.count 1).before args s = true := hs _ (by decide +kernel)
  have harr : (Cond.arrayOf (.arg 0) .int).before args s = true := hs _ (by decide +kernel)
  have hle : (Cond.le (.length (.arg 0)) (.int 260)).before args s = true := hs _ (by decide +kernel)
  have hlen : (Cond.isInt (.length (.arg 0))).before args s = true := hq _ (by decide +kernel)
  have hall : (Cond.all (.arg 0) (.isInt (.elem (.arg 0) (.index 0)))).before args s = true := hq _ (by decide +kernel)
  obtain ⟨b, xs, hb, hx⟩ := State.ints_of_pre rfl harr hlen hall
  have hsm : xs.length < 2 ^ 31 := hx.choose_spec.2.2.2
  have hev : (Term.length (.arg 0)).eval args s none [] s = some (.int xs.length.toInt32) := hx.length_eval hb
  have hv := Cond.le_ints hev (show (Term.int 260).eval args s none [] s = some (.int 260) from rfl)
  have hd : xs.length.toInt32 ≤ 260 := by
    simpa [Cond.before, Cond.holds, hv] using hle
  have hN : xs.length ≤ 260 := (Int32.ofNat_le_ofNat hsm (by decide)).mp (show Int32.ofNat xs.length ≤ Int32.ofNat 260 from hd)
  exact ⟨b, xs, Cond.one_arg hc (show args[0]? = some (.ref b) from hb), hx, hN, h⟩
theorem lw_comes (l : Launch) (hflags : l.flags = flags0) : Comes l x (Jvm.Cond.code x code maxLocals ret :: tables_1) room_1 (fun tb e args s => Calls_1 tb e args s ∧ rest_1 tb e args s ∧ Pre_1 tb e args s)
    (fun _ _ args s o t => lw_Q args s o t) := by
  intro p e ha hc hk s m args below hf hfit hheap happ hpre
  obtain ⟨b, xs, hP⟩ := lw_pre_spec hpre.2.2 hpre.2.1
  obtain ⟨k, o, h1, h2, h3, hQ⟩ := lw_walk l hflags b xs p e ha hc hk s m args below hf ((Spec.applies_iff_loose hf).mp happ).1 hP trivial
  exact ⟨k, o, h1, h2, h3, hQ⟩
theorem lw_frame {s t : State} {o : Outcome} {args : Array Value} (h : Framed s o t [] 662782 7113121) :
    Framed s o t (fieldLocs frame_1_writes args s ++ arrayLocs frame_1_arrays args s ++ staticLocs frame_1_statics s) 662782 7113121 := h
theorem lw_limb (L : Cond) (hL : ∀ (args : Array Value) (s t : State), L.after args s (.returned (some (.int 1))) t = true) :
    ArmFor flags0 classFile x code maxLocals ret World_1 tables_1 room_1 Calls_1 rest_1 Pre_1
      (fun tb e a s o t => postC L tb e a s o t ∧ Framed s o t (fieldLocs frame_1_writes a s ++ arrayLocs frame_1_arrays a s ++ staticLocs frame_1_statics s) 662782 7113121) := by
  intro l hflags _ _ p e ha hc hk s m args below hf hfit hheap happ hpre
  obtain ⟨k, o, h1, h2, h3, rfl, hF⟩ := lw_comes l hflags p e ha hc hk s m args below hf hfit hheap happ hpre
  exact ⟨k, _, h1, h2, h3, hL args s _, lw_frame hF⟩
theorem i_vc : Claimed_1_1 ∧ Claimed_1_2 := ⟨lw_limb limb_1_1 (fun args s t => by simp [limb_1_1, Cond.after, Cond.holds, Cond.value]), lw_limb limb_1_2 (fun args s t => Cond.after_iff.mpr (by
  first | (rw [show limb_1_2 = Cond.eq .result (.int 1) from rfl, Cond.eq_ints (x := 1) (y := 1) rfl rfl]; simp; done) | (simp [limb_1_2, Cond.value, Term.eval]; done)))⟩
end

section
-- ===== PART A: goes FIRST, ahead of the names: the tables' words, and 'selects' of the private methods out of them =====
/-- a private method of a class that the tables say can be made, by its rows of tables_1 -/
def lw_okq (q : MethodName × Nat) : Prop := (q.1.cls ≠ "java/lang/invoke/MethodHandle" ∧ q.1.cls ≠ "java/lang/invoke/VarHandle") ∧ Cond.instantiable q.1.cls q.2 ∈ tables_1 ∧ Cond.privateMethod q.1 ∈ tables_1 ∧ Cond.instanceMethod q.1 ∈ tables_1
theorem lw_p0 : lw_okq (⟨"java/lang/Throwable", "fillInStackTrace", "(I)Ljava/lang/Throwable;"⟩, 6) := ⟨⟨by decide +kernel, by decide +kernel⟩, List.mem_of_getElem? (i := 149) (by decide +kernel), List.mem_of_getElem? (i := 147) (by decide +kernel), List.mem_of_getElem? (i := 148) (by decide +kernel)⟩
theorem lw_p1 : lw_okq (⟨"LeftThings", "hasRoomFor", "(II)Z"⟩, 7) := ⟨⟨by decide +kernel, by decide +kernel⟩, List.mem_of_getElem? (i := 21) (by decide +kernel), List.mem_of_getElem? (i := 199) (by decide +kernel), List.mem_of_getElem? (i := 200) (by decide +kernel)⟩
theorem lw_p2 : lw_okq (⟨"LeftThings", "sizesAt", "(I)I"⟩, 7) := ⟨⟨by decide +kernel, by decide +kernel⟩, List.mem_of_getElem? (i := 21) (by decide +kernel), List.mem_of_getElem? (i := 203) (by decide +kernel), List.mem_of_getElem? (i := 204) (by decide +kernel)⟩
theorem lw_p3 : lw_okq (⟨"java/util/ArrayList", "add", "(Ljava/lang/Object;[Ljava/lang/Object;I)V"⟩, 3) := ⟨⟨by decide +kernel, by decide +kernel⟩, List.mem_of_getElem? (i := 29) (by decide +kernel), List.mem_of_getElem? (i := 314) (by decide +kernel), List.mem_of_getElem? (i := 315) (by decide +kernel)⟩
theorem lw_p4 : lw_okq (⟨"java/util/ArrayList", "grow", "()[Ljava/lang/Object;"⟩, 3) := ⟨⟨by decide +kernel, by decide +kernel⟩, List.mem_of_getElem? (i := 29) (by decide +kernel), List.mem_of_getElem? (i := 318) (by decide +kernel), List.mem_of_getElem? (i := 319) (by decide +kernel)⟩
theorem lw_p5 : lw_okq (⟨"java/util/ArrayList", "grow", "(I)[Ljava/lang/Object;"⟩, 3) := ⟨⟨by decide +kernel, by decide +kernel⟩, List.mem_of_getElem? (i := 29) (by decide +kernel), List.mem_of_getElem? (i := 322) (by decide +kernel), List.mem_of_getElem? (i := 323) (by decide +kernel)⟩
theorem lw_p6 : lw_okq (⟨"LeftThings", "thingNumbered", "(I)LLeftThings$Thing;"⟩, 7) := ⟨⟨by decide +kernel, by decide +kernel⟩, List.mem_of_getElem? (i := 21) (by decide +kernel), List.mem_of_getElem? (i := 373) (by decide +kernel), List.mem_of_getElem? (i := 374) (by decide +kernel)⟩
theorem lw_p7 : lw_okq (⟨"LeftThings$Thing", "isAtCounter", "()Z"⟩, 12) := ⟨⟨by decide +kernel, by decide +kernel⟩, List.mem_of_getElem? (i := 237) (by decide +kernel), List.mem_of_getElem? (i := 393) (by decide +kernel), List.mem_of_getElem? (i := 394) (by decide +kernel)⟩
theorem lw_p8 : lw_okq (⟨"LeftThings$Thing", "hasLoan", "()Z"⟩, 12) := ⟨⟨by decide +kernel, by decide +kernel⟩, List.mem_of_getElem? (i := 237) (by decide +kernel), List.mem_of_getElem? (i := 398) (by decide +kernel), List.mem_of_getElem? (i := 399) (by decide +kernel)⟩
theorem lw_p9 : lw_okq (⟨"LeftThings", "giveAway", "(LLeftThings$Thing;II)V"⟩, 7) := ⟨⟨by decide +kernel, by decide +kernel⟩, List.mem_of_getElem? (i := 21) (by decide +kernel), List.mem_of_getElem? (i := 403) (by decide +kernel), List.mem_of_getElem? (i := 404) (by decide +kernel)⟩
theorem lw_p10 : lw_okq (⟨"LeftThings", "dropEndedWishes", "()V"⟩, 7) := ⟨⟨by decide +kernel, by decide +kernel⟩, List.mem_of_getElem? (i := 21) (by decide +kernel), List.mem_of_getElem? (i := 407) (by decide +kernel), List.mem_of_getElem? (i := 408) (by decide +kernel)⟩
theorem lw_p11 : lw_okq (⟨"java/util/ArrayList", "fastRemove", "([Ljava/lang/Object;I)V"⟩, 3) := ⟨⟨by decide +kernel, by decide +kernel⟩, List.mem_of_getElem? (i := 29) (by decide +kernel), List.mem_of_getElem? (i := 415) (by decide +kernel), List.mem_of_getElem? (i := 416) (by decide +kernel)⟩
theorem lw_p12 : lw_okq (⟨"LeftThings$Thing", "moveTo", "(II)V"⟩, 12) := ⟨⟨by decide +kernel, by decide +kernel⟩, List.mem_of_getElem? (i := 237) (by decide +kernel), List.mem_of_getElem? (i := 420) (by decide +kernel), List.mem_of_getElem? (i := 421) (by decide +kernel)⟩
theorem lw_p13 : lw_okq (⟨"LeftThings$Thing", "beginLoan", "(II)V"⟩, 12) := ⟨⟨by decide +kernel, by decide +kernel⟩, List.mem_of_getElem? (i := 237) (by decide +kernel), List.mem_of_getElem? (i := 451) (by decide +kernel), List.mem_of_getElem? (i := 452) (by decide +kernel)⟩
theorem lw_p14 : lw_okq (⟨"LeftThings", "putIntoPurse", "(II)V"⟩, 7) := ⟨⟨by decide +kernel, by decide +kernel⟩, List.mem_of_getElem? (i := 21) (by decide +kernel), List.mem_of_getElem? (i := 455) (by decide +kernel), List.mem_of_getElem? (i := 456) (by decide +kernel)⟩
theorem lw_p15 : lw_okq (⟨"LeftThings$Thing", "endLoan", "()V"⟩, 12) := ⟨⟨by decide +kernel, by decide +kernel⟩, List.mem_of_getElem? (i := 237) (by decide +kernel), List.mem_of_getElem? (i := 467) (by decide +kernel), List.mem_of_getElem? (i := 468) (by decide +kernel)⟩
def lw_privs_1 : List (MethodName × Nat) := [(⟨"java/lang/Throwable", "fillInStackTrace", "(I)Ljava/lang/Throwable;"⟩, 6), (⟨"LeftThings", "hasRoomFor", "(II)Z"⟩, 7), (⟨"LeftThings", "sizesAt", "(I)I"⟩, 7), (⟨"java/util/ArrayList", "add", "(Ljava/lang/Object;[Ljava/lang/Object;I)V"⟩, 3), (⟨"java/util/ArrayList", "grow", "()[Ljava/lang/Object;"⟩, 3), (⟨"java/util/ArrayList", "grow", "(I)[Ljava/lang/Object;"⟩, 3), (⟨"LeftThings", "thingNumbered", "(I)LLeftThings$Thing;"⟩, 7), (⟨"LeftThings$Thing", "isAtCounter", "()Z"⟩, 12), (⟨"LeftThings$Thing", "hasLoan", "()Z"⟩, 12), (⟨"LeftThings", "giveAway", "(LLeftThings$Thing;II)V"⟩, 7), (⟨"LeftThings", "dropEndedWishes", "()V"⟩, 7), (⟨"java/util/ArrayList", "fastRemove", "([Ljava/lang/Object;I)V"⟩, 3), (⟨"LeftThings$Thing", "moveTo", "(II)V"⟩, 12), (⟨"LeftThings$Thing", "beginLoan", "(II)V"⟩, 12), (⟨"LeftThings", "putIntoPurse", "(II)V"⟩, 7), (⟨"LeftThings$Thing", "endLoan", "()V"⟩, 12)]
theorem lw_r1 : ∀ q ∈ lw_privs_1, lw_okq q := List.forall_mem_cons.mpr ⟨lw_p0, List.forall_mem_cons.mpr ⟨lw_p1, List.forall_mem_cons.mpr ⟨lw_p2, List.forall_mem_cons.mpr ⟨lw_p3, List.forall_mem_cons.mpr ⟨lw_p4, List.forall_mem_cons.mpr ⟨lw_p5, List.forall_mem_cons.mpr ⟨lw_p6, List.forall_mem_cons.mpr ⟨lw_p7, List.forall_mem_cons.mpr ⟨lw_p8, List.forall_mem_cons.mpr ⟨lw_p9, List.forall_mem_cons.mpr ⟨lw_p10, List.forall_mem_cons.mpr ⟨lw_p11, List.forall_mem_cons.mpr ⟨lw_p12, List.forall_mem_cons.mpr ⟨lw_p13, List.forall_mem_cons.mpr ⟨lw_p14, List.forall_mem_cons.mpr ⟨lw_p15, fun _ h => absurd h List.not_mem_nil⟩⟩⟩⟩⟩⟩⟩⟩⟩⟩⟩⟩⟩⟩⟩⟩
theorem lw_p16 : lw_okq (⟨"LeftThings$Thing", "isCalled", "()Z"⟩, 12) := ⟨⟨by decide +kernel, by decide +kernel⟩, List.mem_of_getElem? (i := 237) (by decide +kernel), List.mem_of_getElem? (i := 478) (by decide +kernel), List.mem_of_getElem? (i := 479) (by decide +kernel)⟩
theorem lw_p17 : lw_okq (⟨"LeftThings", "endDay", "()I"⟩, 7) := ⟨⟨by decide +kernel, by decide +kernel⟩, List.mem_of_getElem? (i := 21) (by decide +kernel), List.mem_of_getElem? (i := 492) (by decide +kernel), List.mem_of_getElem? (i := 493) (by decide +kernel)⟩
theorem lw_p18 : lw_okq (⟨"LeftThings", "oweFees", "()V"⟩, 7) := ⟨⟨by decide +kernel, by decide +kernel⟩, List.mem_of_getElem? (i := 21) (by decide +kernel), List.mem_of_getElem? (i := 496) (by decide +kernel), List.mem_of_getElem? (i := 497) (by decide +kernel)⟩
theorem lw_p19 : lw_okq (⟨"LeftThings", "sellCalled", "()I"⟩, 7) := ⟨⟨by decide +kernel, by decide +kernel⟩, List.mem_of_getElem? (i := 21) (by decide +kernel), List.mem_of_getElem? (i := 500) (by decide +kernel), List.mem_of_getElem? (i := 501) (by decide +kernel)⟩
theorem lw_p20 : lw_okq (⟨"LeftThings", "sell", "(LLeftThings$Thing;)V"⟩, 7) := ⟨⟨by decide +kernel, by decide +kernel⟩, List.mem_of_getElem? (i := 21) (by decide +kernel), List.mem_of_getElem? (i := 504) (by decide +kernel), List.mem_of_getElem? (i := 505) (by decide +kernel)⟩
theorem lw_p21 : lw_okq (⟨"LeftThings", "sellUnfetched", "()I"⟩, 7) := ⟨⟨by decide +kernel, by decide +kernel⟩, List.mem_of_getElem? (i := 21) (by decide +kernel), List.mem_of_getElem? (i := 509) (by decide +kernel), List.mem_of_getElem? (i := 510) (by decide +kernel)⟩
theorem lw_p22 : lw_okq (⟨"LeftThings", "driveVan", "()V"⟩, 7) := ⟨⟨by decide +kernel, by decide +kernel⟩, List.mem_of_getElem? (i := 21) (by decide +kernel), List.mem_of_getElem? (i := 513) (by decide +kernel), List.mem_of_getElem? (i := 514) (by decide +kernel)⟩
theorem lw_p23 : lw_okq (⟨"LeftThings$Thing", "placeAtBeginningOf", "(I)I"⟩, 12) := ⟨⟨by decide +kernel, by decide +kernel⟩, List.mem_of_getElem? (i := 237) (by decide +kernel), List.mem_of_getElem? (i := 532) (by decide +kernel), List.mem_of_getElem? (i := 533) (by decide +kernel)⟩
theorem lw_p24 : lw_okq (⟨"LeftThingsModel", "isFine", "(I)Z"⟩, 20) := ⟨⟨by decide +kernel, by decide +kernel⟩, List.mem_of_getElem? (i := 573) (by decide +kernel), List.mem_of_getElem? (i := 654) (by decide +kernel), List.mem_of_getElem? (i := 655) (by decide +kernel)⟩
theorem lw_p25 : lw_okq (⟨"LeftThingsModel", "loadOf", "(I)I"⟩, 20) := ⟨⟨by decide +kernel, by decide +kernel⟩, List.mem_of_getElem? (i := 573) (by decide +kernel), List.mem_of_getElem? (i := 666) (by decide +kernel), List.mem_of_getElem? (i := 667) (by decide +kernel)⟩
theorem lw_p26 : lw_okq (⟨"LeftThingsModel", "isThing", "(I)Z"⟩, 20) := ⟨⟨by decide +kernel, by decide +kernel⟩, List.mem_of_getElem? (i := 573) (by decide +kernel), List.mem_of_getElem? (i := 674) (by decide +kernel), List.mem_of_getElem? (i := 675) (by decide +kernel)⟩
theorem lw_p27 : lw_okq (⟨"LeftThingsModel", "isAt", "(I)Z"⟩, 20) := ⟨⟨by decide +kernel, by decide +kernel⟩, List.mem_of_getElem? (i := 573) (by decide +kernel), List.mem_of_getElem? (i := 678) (by decide +kernel), List.mem_of_getElem? (i := 679) (by decide +kernel)⟩
theorem lw_p28 : lw_okq (⟨"LeftThingsModel", "forgets", "(I)V"⟩, 20) := ⟨⟨by decide +kernel, by decide +kernel⟩, List.mem_of_getElem? (i := 573) (by decide +kernel), List.mem_of_getElem? (i := 682) (by decide +kernel), List.mem_of_getElem? (i := 683) (by decide +kernel)⟩
theorem lw_p29 : lw_okq (⟨"LeftThingsModel", "endsDay", "()I"⟩, 20) := ⟨⟨by decide +kernel, by decide +kernel⟩, List.mem_of_getElem? (i := 573) (by decide +kernel), List.mem_of_getElem? (i := 710) (by decide +kernel), List.mem_of_getElem? (i := 711) (by decide +kernel)⟩
theorem lw_p30 : lw_okq (⟨"LeftThingsModel", "sells", "(I)V"⟩, 20) := ⟨⟨by decide +kernel, by decide +kernel⟩, List.mem_of_getElem? (i := 573) (by decide +kernel), List.mem_of_getElem? (i := 714) (by decide +kernel), List.mem_of_getElem? (i := 715) (by decide +kernel)⟩
theorem lw_p31 : lw_okq (⟨"LeftThingsModel", "drives", "()V"⟩, 20) := ⟨⟨by decide +kernel, by decide +kernel⟩, List.mem_of_getElem? (i := 573) (by decide +kernel), List.mem_of_getElem? (i := 718) (by decide +kernel), List.mem_of_getElem? (i := 719) (by decide +kernel)⟩
def lw_privs_2 : List (MethodName × Nat) := [(⟨"LeftThings$Thing", "isCalled", "()Z"⟩, 12), (⟨"LeftThings", "endDay", "()I"⟩, 7), (⟨"LeftThings", "oweFees", "()V"⟩, 7), (⟨"LeftThings", "sellCalled", "()I"⟩, 7), (⟨"LeftThings", "sell", "(LLeftThings$Thing;)V"⟩, 7), (⟨"LeftThings", "sellUnfetched", "()I"⟩, 7), (⟨"LeftThings", "driveVan", "()V"⟩, 7), (⟨"LeftThings$Thing", "placeAtBeginningOf", "(I)I"⟩, 12), (⟨"LeftThingsModel", "isFine", "(I)Z"⟩, 20), (⟨"LeftThingsModel", "loadOf", "(I)I"⟩, 20), (⟨"LeftThingsModel", "isThing", "(I)Z"⟩, 20), (⟨"LeftThingsModel", "isAt", "(I)Z"⟩, 20), (⟨"LeftThingsModel", "forgets", "(I)V"⟩, 20), (⟨"LeftThingsModel", "endsDay", "()I"⟩, 20), (⟨"LeftThingsModel", "sells", "(I)V"⟩, 20), (⟨"LeftThingsModel", "drives", "()V"⟩, 20)]
theorem lw_r2 : ∀ q ∈ lw_privs_2, lw_okq q := List.forall_mem_cons.mpr ⟨lw_p16, List.forall_mem_cons.mpr ⟨lw_p17, List.forall_mem_cons.mpr ⟨lw_p18, List.forall_mem_cons.mpr ⟨lw_p19, List.forall_mem_cons.mpr ⟨lw_p20, List.forall_mem_cons.mpr ⟨lw_p21, List.forall_mem_cons.mpr ⟨lw_p22, List.forall_mem_cons.mpr ⟨lw_p23, List.forall_mem_cons.mpr ⟨lw_p24, List.forall_mem_cons.mpr ⟨lw_p25, List.forall_mem_cons.mpr ⟨lw_p26, List.forall_mem_cons.mpr ⟨lw_p27, List.forall_mem_cons.mpr ⟨lw_p28, List.forall_mem_cons.mpr ⟨lw_p29, List.forall_mem_cons.mpr ⟨lw_p30, List.forall_mem_cons.mpr ⟨lw_p31, fun _ h => absurd h List.not_mem_nil⟩⟩⟩⟩⟩⟩⟩⟩⟩⟩⟩⟩⟩⟩⟩⟩
def lw_privs : List (MethodName × Nat) := lw_privs_1 ++ (lw_privs_2)
def lw_tbl : List Cond := k2_sels lw_privs ++ tables_1
theorem lw_privs_ok : ∀ q ∈ lw_privs, lw_okq q := by
  show ∀ q ∈ lw_privs_1 ++ (lw_privs_2), lw_okq q
  exact List.forall_mem_append.mpr ⟨lw_r1, lw_r2⟩
-- ===== end of PART A; then your names; then what follows =====
end
section
/-! ===== BEGIN words of one list among another's, by their places ===== -/
theorem goodIn_r {big : List Cond} (ws : List Cond) (ps : List Nat) (hp : ws = ps.filterMap (fun i => big[i]?)) (h : ws.all goodWord = true) : GoodIn big ws := by
  intro w hw
  have h1 := List.all_eq_true.mp h w hw
  rw [hp] at hw
  obtain ⟨i, -, hi⟩ := List.mem_filterMap.mp hw
  have hm : w ∈ big := by first | exact List.mem_of_getElem? hi | exact List.getElem?_mem hi
  exact ⟨hm, good_of_word h1⟩
theorem goodIn_app {big a b : List Cond} (ha : GoodIn big a) (hb : GoodIn big b) : GoodIn big (a ++ b) := fun w h => (List.mem_append.mp h).elim (ha w) (hb w)
theorem goodIn_ca {big a b : List Cond} {c : Cond} (ha : GoodIn big (c :: a)) (hb : GoodIn big b) : GoodIn big (c :: (a ++ b)) := fun w h => (List.mem_cons.mp h).elim (fun e => ha w (List.mem_cons.mpr (Or.inl e))) (fun h => (List.mem_append.mp h).elim (fun h => ha w (List.mem_cons.mpr (Or.inr h))) (hb w))
theorem goodIn_sub {big ws : List Cond} (hm : ∀ w ∈ ws, w ∈ big) (h : ws.all goodWord = true) : GoodIn big ws := fun w hw => ⟨hm w hw, good_of_word (List.all_eq_true.mp h w hw)⟩
/-! ===== END ===== -/

/-! ===== BEGIN exceptions that leave a method, and their catching by the caller (launches without stack traces) ===== -/
section VXA
/-! The laws vx_back, vx_callV, vx_callS, vx_callSW, vx_throw0, vx_throwS follow proofs of the library, with one case more: JvmDerived/Free/Laws.lean (Back.of_free), Shelf42/LK1.lean (callV, callS), Shelf/KitTraced.lean (throwNew0V, throwNewS). -/
/-- where a method has thrown q: the class by its name, the cell, what was written, the world -/
def vx_T (XC : String → State → State → Prop) (st : State) (q : Addr) (t : State) (mc ms : Nat) (free : Addr → Prop) : Prop :=
  ∃ (E : String) (ce : Cell) (L : List Loc), XC E st t ∧ t.heap[q]? = some ce ∧ ce.vm = .none ∧ st.vm.findClass E = some ce.cls ∧ st.WarmedH t.vm ∧ st.sameButNew ({ t with vm := st.vm } : State) L mc ms ∧ ∀ z ∈ L, free z.base
def vx_Q (Qc : Array Value → State → Outcome → State → Prop) (XC : String → State → State → Prop) (mc ms : Nat) (free : Addr → Prop) : Array Value → State → Outcome → State → Prop := fun a st o t =>
  (Qc a st o t ∧ ∃ L, FrameEnd st o t L mc ms ∧ ∀ q ∈ L, free q.base) ∨ ∃ q, o = .threw q ∧ vx_T XC st q t mc ms free
/-- a callee that returns or throws -/
def vx_Met (l : Launch) (y : MethodName) (ws : List Cond) (rm : Room) (Pc : Array Value → State → Prop) (Qc : Array Value → State → Outcome → State → Prop) (XC : String → State → State → Prop) (mc ms : Nat) (free : Addr → Prop) : Prop :=
  MetFree l y (headSpec ws rm) Pc (fun _ _ _ _ _ => True) (vx_Q Qc XC mc ms free)
def vx_Post (XC : String → State → State → Prop) (mc ms : Nat) (free : Addr → Prop) : Pt → Array Value → Addr → Pt → Prop := fun A a q B =>
  ∃ (g : JFrame) (mk : MethodId) (t : State) (L : List Loc) (E : String) (ce : Cell), B.U.heap = t.heap ∧ B.U.vm = t.vm ∧ XC E (A.U.calling g mk a) t ∧ t.heap[q]? = some ce ∧ ce.vm = .none ∧ A.U.vm.findClass E = some ce.cls ∧ B.locs = A.locs ++ L ∧ (∀ z ∈ L, free z.base) ∧ B.cells = A.cells + mc ∧ B.slots = A.slots + ms
def vx_Back (l : Launch) (R : Room) (p : Program) (e : Env) (below : List Frame) (s : State) (sargs : Array Value) (y : MethodName) (len W9 : Nat)
    (Pre : Pt → Array Value → Prop) (Post : Pt → Array Value → Option Value → Pt → Prop) (PostX : Pt → Array Value → Addr → Pt → Prop) : Prop :=
  ∀ (m : MethodId) (meth : Method) (c : Code) (A : Pt) (g : JFrame) (ig : Instr) (mk : MethodId) (a : Array Value),
    Stand p l e R s m sargs below meth c A.U A.locs A.cells A.slots → g.method = m → g.locals.size = c.maxLocals → decode c.code g.pc = .ok (ig, len) →
    2 * g.monitorRoom + (g.stack.map fun v => v.category).sum ≤ W9 → A.U.methodNamed? y = some mk → Pre A a →
    (∃ (v : Option Value) (B : Pt), Stand p l e R s m sargs below meth c B.U B.locs B.cells B.slots ∧ Post A a v B ∧
      Steps p.tables e below (doInvoke e (A.U.setTop g) [] mk a).1 (B.U.setTop { g with pc := g.pc + len, stack := v.toList ++ g.stack })) ∨
    (∃ (q : Addr) (B : Pt), Stand p l e R s m sargs below meth c B.U B.locs B.cells B.slots ∧ PostX A a q B ∧
      Steps p.tables e below (doInvoke e (A.U.setTop g) [] mk a).1 ((B.U.setTop g).pushFrame (.throwing q)))
section Payer
variable {l : Launch} {R : Room} {p : Program} {e : Env} {below : List Frame} {s : State} {sargs : Array Value} {y : MethodName} {len W9 : Nat}
theorem vx_back {ws : List Cond} {rm : Room} {Pc : Array Value → State → Prop} {Qc : Array Value → State → Outcome → State → Prop} {XC : String → State → State → Prop} {mc ms : Nat} {free : Addr → Prop} {bytes : ByteArray} {maxL : Nat} {ret : Option FieldType}
    (hM : vx_Met l y ws rm Pc Qc XC mc ms free) (hblind : FrameBlind Pc) (hrc : rm.cells = mc) (hrs : rm.slots = ms)
    (hframes : rm.frames + 1 ≤ R.frames) (hlocals : W9 + (maxL + 11) + rm.locals ≤ R.locals)
    (hws : ∀ w ∈ ws, ∀ a' U, s.WarmedH U.vm → w.before a' U = true) (hcode : Cond.code y bytes maxL ret ∈ ws) (hinit : ∀ a' U, s.WarmedH U.vm → (Cond.initialized y.cls).before a' U = true) :
    vx_Back l R p e below s sargs y len W9 (PreOf R mc ms Pc) (PostOf Qc mc ms free) (vx_Post XC mc ms free) := by
  intro m meth c A g ig mk a X hg hsize hdg hW hn hp
  have h1 : (headSpec ws rm).pre.before a A.U = true := atoms_intro fun w hw => hws w hw _ _ X.warmed
  have h2 : (Cond.code y bytes maxL ret).before a A.U = true := hws _ hcode _ _ X.warmed
  have h3 : (Cond.initialized y.cls).before a A.U = true := hinit _ _ X.warmed
  have h4 : A.cells + (headSpec ws rm).room.cells ≤ R.cells := by rw [show (headSpec ws rm).room.cells = mc from hrc]; exact hp.1
  have h5 : A.slots + (headSpec ws rm).room.slots ≤ R.slots := by rw [show (headSpec ws rm).room.slots = ms from hrs]; exact hp.2.1
  have hPc : Pc a (A.U.calling g mk a) := hblind _ _ _ _ hp.2.2
  obtain ⟨U, Ls, c0, s0⟩ := A
  dsimp only [Pt.U, Pt.locs, Pt.cells, Pt.slots] at h1 h2 h3 h4 h5 X hn hPc ⊢
  obtain ⟨methY, cY, hmY, hcY, -, hlY, -, -, -, -⟩ := Cond.code_spec hn h2
  obtain ⟨kY, hkY, -⟩ := className_of_methodNamed hn
  have hinitY : kY.init = .initialized := Cond.initialized_spec (findClass_of_methodNamed hn) hkY h3
  have h : At U g.method c below := by rw [hg]; exact X.here
  have hlocals9 : W9 + (maxL + 11) + (headSpec ws rm).room.locals ≤ R.locals := hlocals
  have happ : (headSpec ws rm).appliesLoose y e.platform (U.calling g mk a) = true :=
    Spec.appliesLoose_calling (g := g) h hdg hn hkY hinitY
      (X.room_calling (g := g) (R' := (headSpec ws rm).room) hsize hmY hcY hframes (by rw [hlY]; omega) h4 h5) h1
  obtain ⟨mid, hmid⟩ := h.above
  have hfr : (U.setTop g).frames = (.java g :: mid) ++ below := by rw [State.frames_setTop' g h.top, hmid]; rfl
  obtain ⟨o, s₂, hsteps, -, hend, hq⟩ := Steps.callFree hM p X.admits X.cas X.clock (acts := []) hfr happ hPc trivial
  have hq' : vx_Q Qc XC mc ms free a (U.calling g mk a) o s₂ := hq
  rw [State.frames_setTop' g h.top] at hend
  obtain ⟨g₀, hg0⟩ := Option.isSome_iff_exists.mp h.top
  obtain ⟨r, hr⟩ := State.topJava?_eq_some.mp hg0
  have hr' : (({ U with heap := s₂.heap, slotsUsed := s₂.slotsUsed } : State).setVm s₂.vm).frames = .java g₀ :: r := hr
  rcases hq' with ⟨hqc, L, hfe, hL⟩ | ⟨q, rfl, E, ce, L, hx, hce, hcv, hcl, hW₂, hsm, hL⟩
  · obtain ⟨⟨v, rfl⟩, hW₂, e2, q2, q3, q4, q5, q6⟩ := id hfe
    have e3 : s₂ = ({ (U.calling g mk a).setFrames s₂.frames with heap := s₂.heap, slotsUsed := s₂.slotsUsed } : State).setVm s₂.vm := by
      have : s₂ = ({ s₂ with vm := (U.calling g mk a).vm } : State).setVm s₂.vm := rfl
      rw [e2] at this
      exact this
    obtain ⟨c₂, i₂, len₂, hc₂, hd₂, hf₂⟩ := hend
    have hW' : U.WarmedH s₂.vm := hW₂
    have hcc : c₂ = c := by
      have h1 : s₂.code? g.method = U.code? g.method := by
        rw [State.code?_eq, State.code?_eq, hW'.alike.method?]
      exact Option.some.inj (hc₂.symm.trans (h1.trans h.code))
    subst hcc
    have hlen : len₂ = len := by rw [hdg] at hd₂; cases hd₂; rfl
    subst hlen
    have hs₂ : s₂ = (({ U with heap := s₂.heap, slotsUsed := s₂.slotsUsed } : State).setVm s₂.vm).setTop { g with pc := g.pc + len₂, stack := v.toList ++ g.stack } := by
      refine e3.trans ?_
      rw [hf₂, State.calling_eq h.top, State.setFrames_setFrames, State.setTop_of_frames _ hr', hr]
      rfl
    have hsame : U.sameButNew ({ U with heap := s₂.heap, slotsUsed := s₂.slotsUsed } : State) L mc ms := by
      refine ⟨?_, q2, q3, q4, q5, q6⟩
      obtain ⟨t, ht, -⟩ := State.frames_cons hr
      show ({ U with heap := s₂.heap, slotsUsed := s₂.slotsUsed } : State) = { U.setFrames U.frames with heap := s₂.heap, slotsUsed := s₂.slotsUsed }
      rw [State.setFrames_self ht]
    subst hg
    refine Or.inl ⟨v, ⟨(({ U with heap := s₂.heap, slotsUsed := s₂.slotsUsed } : State).setVm s₂.vm), Ls ++ L, c0 + mc, s0 + ms⟩,
      ⟨X.admits, X.cas, X.clock, X.frames, X.room, X.hears, X.method, X.code, (X.here.setHeapUsed s₂.heap s₂.slotsUsed).setVm hW'.alike, X.tail, State.WarmedH.trans X.warmed hW', X.limits, X.bytes, X.same.trans (hsame.setVm s.vm)⟩,
      ⟨g, mk, s₂, L, rfl, rfl, hqc, rfl, hL, rfl, rfl⟩, ?_⟩
    show Steps p.tables e below _ ((({ U with heap := s₂.heap, slotsUsed := s₂.slotsUsed } : State).setVm s₂.vm).setTop { g with pc := g.pc + len₂, stack := v.toList ++ g.stack })
    rw [← hs₂]
    exact hsteps
  · obtain ⟨e2, q2, q3, q4, q5, q6⟩ := id hsm
    have e3 : s₂ = ({ (U.calling g mk a).setFrames s₂.frames with heap := s₂.heap, slotsUsed := s₂.slotsUsed } : State).setVm s₂.vm := by
      have : s₂ = ({ s₂ with vm := (U.calling g mk a).vm } : State).setVm s₂.vm := rfl
      rw [e2] at this
      exact this
    have hf₂ : s₂.frames = .throwing q :: .java g :: U.frames.tail := hend
    have hW' : U.WarmedH s₂.vm := hW₂
    have hs₂ : s₂ = ((({ U with heap := s₂.heap, slotsUsed := s₂.slotsUsed } : State).setVm s₂.vm).setTop g).pushFrame (.throwing q) := by
      refine e3.trans ?_
      rw [hf₂, State.calling_eq h.top, State.setFrames_setFrames, State.pushFrame, State.frames_setTop _ hr', State.setTop_of_frames _ hr', State.setFrames_setFrames, hr]
      rfl
    have hsame : U.sameButNew ({ U with heap := s₂.heap, slotsUsed := s₂.slotsUsed } : State) L mc ms := by
      refine ⟨?_, q2, q3, q4, q5, q6⟩
      obtain ⟨t, ht, -⟩ := State.frames_cons hr
      show ({ U with heap := s₂.heap, slotsUsed := s₂.slotsUsed } : State) = { U.setFrames U.frames with heap := s₂.heap, slotsUsed := s₂.slotsUsed }
      rw [State.setFrames_self ht]
    subst hg
    refine Or.inr ⟨q, ⟨(({ U with heap := s₂.heap, slotsUsed := s₂.slotsUsed } : State).setVm s₂.vm), Ls ++ L, c0 + mc, s0 + ms⟩,
      ⟨X.admits, X.cas, X.clock, X.frames, X.room, X.hears, X.method, X.code, (X.here.setHeapUsed s₂.heap s₂.slotsUsed).setVm hW'.alike, X.tail, State.WarmedH.trans X.warmed hW', X.limits, X.bytes, X.same.trans (hsame.setVm s.vm)⟩,
      ⟨g, mk, s₂, L, E, ce, rfl, rfl, hx, hce, hcv, hcl, rfl, hL, rfl, rfl⟩, ?_⟩
    show Steps p.tables e below _ (((({ U with heap := s₂.heap, slotsUsed := s₂.slotsUsed } : State).setVm s₂.vm).setTop g).pushFrame (.throwing q))
    rw [← hs₂]
    exact hsteps
end Payer
section Calls
variable {p : Program} {l : Launch} {e : Env} {R : Room} {s : State} {m : MethodId} {args : Array Value} {below : List Frame} {meth : Method} {c : Code} {T : State} {locs : List Loc} {cells slots : Nat}
theorem vx_callV (X : Stand p l e R s m args below meth c T locs cells slots) (hexec : p.tables.exec = Jvm.exec) {own C : String} {index : Nat} {y : MethodName} {bytes : ByteArray} {maxL : Nat} {ret : Option FieldType}
    (hown : s.vm.findClass own = some m.cls) (hlink : (Cond.methodLink own index y).before args s = true) (hinst : (Cond.instanceMethod y).before args s = true) (hsel : (Cond.selects C y y).before args s = true)
    (hcode : (Cond.code y bytes maxL ret).before args s = true) (hy : y.cls ≠ "java/lang/invoke/MethodHandle" ∧ y.cls ≠ "java/lang/invoke/VarHandle")
    {W9 : Nat} {Pre : Pt → Array Value → Prop} {Post : Pt → Array Value → Option Value → Pt → Prop} {PostX : Pt → Array Value → Addr → Pt → Prop} (hK : vx_Back l R p e below s args y 3 W9 Pre Post PostX)
    {b : Addr} {cellB : Cell} (hcell : T.heap[b]? = some cellB) (hobj : cellB.vm.isStatics = false) (hcls : s.vm.findClass C = some cellB.cls)
    {g : JFrame} (hg : g.method = m) (hsize : g.locals.size = c.maxLocals) {argsL rest : List Value} (hlen : ∀ sig, parseMethodDescriptor y.desc = some sig → argsL.length = sig.parameters.length)
    (hstack : g.stack = argsL.reverse ++ .ref b :: rest) (hW : 2 * g.monitorRoom + (rest.map fun v => v.category).sum ≤ W9) (hdg : decode c.code g.pc = .ok (.invokevirtual index, 3))
    (hpre : ∀ vm₁, s.WarmedH vm₁ → Pre ⟨T.setVm vm₁, locs, cells, slots⟩ (Value.ref b :: argsL).toArray) :
    (∃ (v : Option Value) (vm₁ : Vm) (B : Pt), s.WarmedH vm₁ ∧ Stand p l e R s m args below meth c B.U B.locs B.cells B.slots ∧ Post ⟨T.setVm vm₁, locs, cells, slots⟩ (Value.ref b :: argsL).toArray v B ∧
      ∀ target, Steps p.tables e below (B.U.setTop { g with pc := g.pc + 3, stack := v.toList ++ rest }) target → Steps p.tables e below (T.setTop g) target) ∨
    (∃ (q : Addr) (vm₁ : Vm) (B : Pt), s.WarmedH vm₁ ∧ Stand p l e R s m args below meth c B.U B.locs B.cells B.slots ∧ PostX ⟨T.setVm vm₁, locs, cells, slots⟩ (Value.ref b :: argsL).toArray q B ∧
      Steps p.tables e below (T.setTop g) ((B.U.setTop { g with stack := rest }).pushFrame (.throwing q))) := by
  obtain ⟨mk, methM, hnamed, hmethM, hstM, habM⟩ := Cond.instanceMethod_spec hinst
  obtain ⟨methM', cM, hmethM', -, -, -, -, -, -, hsigM⟩ := Cond.code_spec hnamed hcode
  cases hmethM.symm.trans hmethM'
  obtain ⟨c2, r2, m2, q1, q2, q3, q4, kP, hkP, hkPi⟩ := Cond.selects_spec hsel
  cases hcls.symm.trans q1
  cases (State.methodFound?_of_named hnamed hy).symm.trans q2
  cases hnamed.symm.trans q3
  have hselP : selectMethod e.platform s.vm cellB.cls mk = .method mk := by rw [Launch.admits_selectMethod X.admits]; exact q4
  obtain ⟨vm₁, X₁, hstep₁⟩ := X.invokevirtual hexec hown hlink hnamed hmethM hstM hkP hkPi hy (a := b) (cell := cellB) hcell
    (fun z h => by rw [h] at hobj; cases hobj) hselP hmethM habM hkP hkPi (g := g) hg (argsL := argsL) (rest := rest) (hlen _ hsigM) hstack hdg
  rcases hK m meth c ⟨T.setVm vm₁, locs, cells, slots⟩ { g with stack := rest } (.invokevirtual index) mk (Value.ref b :: argsL).toArray X₁ hg hsize hdg hW (X₁.named hnamed) (hpre vm₁ X₁.warmed) with ⟨v, B, X', hpost, hsteps⟩ | ⟨q, B, X', hpost, hsteps⟩
  · exact Or.inl ⟨v, vm₁, B, X₁.warmed, X', hpost, fun target h => hstep₁ _ fun acts => by rw [doInvoke_state]; exact hsteps.trans h⟩
  · exact Or.inr ⟨q, vm₁, B, X₁.warmed, X', hpost, hstep₁ _ fun acts => by rw [doInvoke_state]; exact hsteps⟩
theorem vx_callS (X : Stand p l e R s m args below meth c T locs cells slots) (hexec : p.tables.exec = Jvm.exec) {own : String} {index : Nat} {y : MethodName} {bytes : ByteArray} {maxL : Nat} {ret : Option FieldType}
    (hown : s.vm.findClass own = some m.cls) (hlink : (Cond.methodLink own index y).before args s = true) (hstat : (Cond.static y).before args s = true) (hinit : (Cond.initialized y.cls).before args s = true)
    (hcode : (Cond.code y bytes maxL ret).before args s = true) (hy : y.cls ≠ "java/lang/invoke/MethodHandle" ∧ y.cls ≠ "java/lang/invoke/VarHandle")
    {W9 : Nat} {Pre : Pt → Array Value → Prop} {Post : Pt → Array Value → Option Value → Pt → Prop} {PostX : Pt → Array Value → Addr → Pt → Prop} (hK : vx_Back l R p e below s args y 3 W9 Pre Post PostX)
    {g : JFrame} (hg : g.method = m) (hsize : g.locals.size = c.maxLocals) {argsL rest : List Value} (hlen : ∀ sig, parseMethodDescriptor y.desc = some sig → argsL.length = sig.parameters.length)
    (hstack : g.stack = argsL.reverse ++ rest) (hW : 2 * g.monitorRoom + (rest.map fun v => v.category).sum ≤ W9) (hdg : decode c.code g.pc = .ok (.invokestatic index, 3))
    (hpre : ∀ vm₁, s.WarmedH vm₁ → Pre ⟨T.setVm vm₁, locs, cells, slots⟩ argsL.toArray) :
    (∃ (v : Option Value) (vm₁ : Vm) (B : Pt), s.WarmedH vm₁ ∧ Stand p l e R s m args below meth c B.U B.locs B.cells B.slots ∧ Post ⟨T.setVm vm₁, locs, cells, slots⟩ argsL.toArray v B ∧
      ∀ target, Steps p.tables e below (B.U.setTop { g with pc := g.pc + 3, stack := v.toList ++ rest }) target → Steps p.tables e below (T.setTop g) target) ∨
    (∃ (q : Addr) (vm₁ : Vm) (B : Pt), s.WarmedH vm₁ ∧ Stand p l e R s m args below meth c B.U B.locs B.cells B.slots ∧ PostX ⟨T.setVm vm₁, locs, cells, slots⟩ argsL.toArray q B ∧
      Steps p.tables e below (T.setTop g) ((B.U.setTop { g with stack := rest }).pushFrame (.throwing q))) := by
  obtain ⟨mk, hnamed⟩ := Cond.code_named hcode
  obtain ⟨methM, cM, hmethM, -, -, -, -, -, -, hsigM⟩ := Cond.code_spec hnamed hcode
  have hstatic : methM.isStatic = true := Cond.static_spec hnamed hmethM hstat
  obtain ⟨kP, hkP, -⟩ := className_of_methodNamed hnamed
  have hinitP : kP.init = .initialized := Cond.initialized_spec (findClass_of_methodNamed hnamed) hkP hinit
  obtain ⟨vm₁, X₁, hstep₁⟩ := X.invokestatic hexec hown hlink hnamed hmethM hstatic hkP hinitP hy (g := g) hg (argsL := argsL) (rest := rest) (hlen _ hsigM) hstack hdg
  rcases hK m meth c ⟨T.setVm vm₁, locs, cells, slots⟩ { g with stack := rest } (.invokestatic index) mk argsL.toArray X₁ hg hsize hdg hW (X₁.named hnamed) (hpre vm₁ X₁.warmed) with ⟨v, B, X', hpost, hsteps⟩ | ⟨q, B, X', hpost, hsteps⟩
  · exact Or.inl ⟨v, vm₁, B, X₁.warmed, X', hpost, fun target h => hstep₁ _ fun acts => by rw [doInvoke_state]; exact hsteps.trans h⟩
  · exact Or.inr ⟨q, vm₁, B, X₁.warmed, X', hpost, hstep₁ _ fun acts => by rw [doInvoke_state]; exact hsteps⟩
end Calls
theorem vx_cls {s : State} {T : State} {vm₁ : Vm} {E : String} {k : ClassId} (hW : s.WarmedH vm₁) (h : (T.setVm vm₁).vm.findClass E = some k) : s.vm.findClass E = some k := by
  have h1 : vm₁.findClass E = some k := h
  rw [hW.alike.findClass] at h1
  exact h1
/-- the method's frame g, with q thrown over it -/
def vx_W (p : Program) (l : Launch) (e : Env) (R : Room) (s : State) (m : MethodId) (args : Array Value) (below : List Frame) (meth : Method) (c : Code) (H : Heap) (locs : List Loc) (cells slots : Nat) (Q : State → Prop) (g : JFrame) (q : Addr) : Prop :=
  ∀ T : State, T.heap = H → Stand p l e R s m args below meth c T locs cells slots → ∃ t, Steps p.tables e below ((T.setTop g).pushFrame (.throwing q)) t ∧ Q t
def vx_Run (p : Program) (l : Launch) (e : Env) (R : Room) (s : State) (m : MethodId) (args : Array Value) (below : List Frame) (meth : Method) (c : Code) (H : Heap) (locs : List Loc) (cells slots mc ms : Nat) (g : JFrame) (rest : List Value) (Qa : State → Outcome → State → Prop) (XC : String → State → State → Prop) (free : Addr → Prop) : Prop :=
  ∀ T : State, T.heap = H → Stand p l e R s m args below meth c T locs cells slots →
    (∃ (v : Option Value) (st₀ t T' : State) (L : List Loc), st₀.heap = H ∧ Stand p l e R s m args below meth c T' (locs ++ L) (cells + mc) (slots + ms) ∧ (∀ q ∈ L, free q.base) ∧ T'.heap = t.heap ∧ T'.vm = t.vm ∧ Qa st₀ (.returned v) t ∧
      Goes p e below T g T' { g with pc := g.pc + 3, stack := v.toList ++ rest }) ∨
    (∃ (q : Addr) (st₀ t T' : State) (L : List Loc) (E : String) (ce : Cell), st₀.heap = H ∧ Stand p l e R s m args below meth c T' (locs ++ L) (cells + mc) (slots + ms) ∧ (∀ z ∈ L, free z.base) ∧ T'.heap = t.heap ∧ T'.vm = t.vm ∧ XC E st₀ t ∧ t.heap[q]? = some ce ∧ ce.vm = .none ∧ s.vm.findClass E = some ce.cls ∧
      Steps p.tables e below (T.setTop g) ((T'.setTop { g with stack := rest }).pushFrame (.throwing q)))
def vx_X {S : Type} (px : S → Prop) (B : String → S → State → Prop) (A : Nat → Prop) : String → State → State → Prop := fun E st t => ∃ u : S, px u ∧ B E u t ∧ va_F A st t
section Runs
variable {p : Program} {l : Launch} {e : Env} {R : Room} {s : State} {m : MethodId} {args : Array Value} {below : List Frame} {meth : Method} {c : Code} {H : Heap} {locs : List Loc} {cells slots : Nat}
variable {y : MethodName} {bytes cc : ByteArray} {maxL nL mc ms n index : Nat} {ret : Option FieldType} {ws : List Cond} {rm : Room} {Pc : Array Value → State → Prop} {Qc : Array Value → State → Outcome → State → Prop} {XC : String → State → State → Prop} {free : Addr → Prop} {Ts : List Cond} {own C : String} {b : Addr} {As rest : List Value} {g : JFrame}
theorem vx_callBack (cb : CallB R s args own index y bytes maxL ret ws rm mc ms n) (hM : vx_Met l y ws rm Pc Qc XC mc ms free) (hbl : FrameBlind Pc) : vx_Back l R p e below s args y 3 8 (PreOf R mc ms Pc) (PostOf Qc mc ms free) (vx_Post XC mc ms free) := by
  obtain ⟨hrc, hrs, hfr, hlo, hws, hcw, -, hini, -⟩ := cb
  exact vx_back (bytes := bytes) (maxL := maxL) (ret := ret) hM hbl hrc hrs hfr hlo hws hcw (fun a' U hW => word_at hW (Or.inl (by first | rfl | simp [Cond.onTables, Cond.keeps, Cond.steady])) hini)
theorem vx_runV (S : CallFix p m c cc nL s args Ts own) (hM : vx_Met l y ws rm Pc Qc XC mc ms free) (cw : CallW R s args own C index y bytes maxL ret ws rm mc ms n) (hp : PreV s H C b Pc As)
    (hg : g.method = m) (hn : As.length = n) (hsize : g.locals.size = nL) (hstack : g.stack = As.reverse ++ .ref b :: rest) (hW : 2 * g.monitorRoom + (rest.map fun v => v.category).sum ≤ 8) (hdg : decode cc g.pc = .ok (.invokevirtual index, 3)) (hf : cells + mc ≤ R.cells ∧ slots + ms ≤ R.slots) :
    vx_Run p l e R s m args below meth c H locs cells slots mc ms g rest (Qc (Value.ref b :: As).toArray) XC free := by
  have hK : vx_Back l R p e below s args y 3 8 (PreOf R mc ms Pc) (PostOf Qc mc ms free) (vx_Post XC mc ms free) := vx_callBack cw.1 hM hp.1
  obtain ⟨⟨-, -, -, -, -, -, hcode, -, hy, hlen, hl⟩, hin, hse⟩ := cw
  obtain ⟨hx, hb, hml, ho, -⟩ := S
  obtain ⟨-, ⟨cellB, hcB, hoB, hclB⟩, hPc⟩ := hp
  intro T hT X
  rcases vx_callV X hx (C := C) (bytes := bytes) (maxL := maxL) (ret := ret) ho hl hin hse hcode hy hK (by rw [hT]; exact hcB) hoB hclB hg (hsize.trans hml.symm) (argsL := As) (rest := rest) (fun sig h => hn.trans (hlen sig h)) hstack hW (by rw [hb]; exact hdg)
    (fun vm₁ hW₁ => ⟨hf.1, hf.2, hPc (T.setVm vm₁) hT hW₁⟩) with ⟨v, vm₁, ⟨U', l2, c2, s2⟩, hW₁, X', ⟨g', mk, t, L, e1, e2, hq, h1, hL, h2, h3⟩, st⟩ | ⟨q, vm₁, ⟨U', l2, c2, s2⟩, hW₁, X', ⟨g', mk, t, L, E, ce, e1, e2, hq, hce, hcv, hcl, h1, hL, h2, h3⟩, st⟩
  · dsimp only [Pt.U, Pt.locs, Pt.cells, Pt.slots] at X' e1 e2 h1 h2 h3 st
    subst h1; subst h2; subst h3
    exact Or.inl ⟨v, (T.setVm vm₁).calling g' mk (Value.ref b :: As).toArray, t, U', L, hT, X', hL, e1, e2, hq, st⟩
  · dsimp only [Pt.U, Pt.locs, Pt.cells, Pt.slots] at X' e1 e2 h1 h2 h3 st hcl
    subst h1; subst h2; subst h3
    exact Or.inr ⟨q, (T.setVm vm₁).calling g' mk (Value.ref b :: As).toArray, t, U', L, E, ce, hT, X', hL, e1, e2, hq, hce, hcv, vx_cls hW₁ hcl, st⟩
theorem vx_runS (S : CallFix p m c cc nL s args Ts own) (hM : vx_Met l y ws rm Pc Qc XC mc ms free) (cw : CallB R s args own index y bytes maxL ret ws rm mc ms n ∧ (Cond.static y).before args s = true) (hp : PreS s H Pc As)
    (hg : g.method = m) (hn : As.length = n) (hsize : g.locals.size = nL) (hstack : g.stack = As.reverse ++ rest) (hW : 2 * g.monitorRoom + (rest.map fun v => v.category).sum ≤ 8) (hdg : decode cc g.pc = .ok (.invokestatic index, 3)) (hf : cells + mc ≤ R.cells ∧ slots + ms ≤ R.slots) :
    vx_Run p l e R s m args below meth c H locs cells slots mc ms g rest (Qc As.toArray) XC free := by
  have hK : vx_Back l R p e below s args y 3 8 (PreOf R mc ms Pc) (PostOf Qc mc ms free) (vx_Post XC mc ms free) := vx_callBack cw.1 hM hp.1
  obtain ⟨⟨-, -, -, -, -, -, hcode, hini, hy, hlen, hl⟩, hstt⟩ := cw
  obtain ⟨hx, hb, hml, ho, -⟩ := S
  intro T hT X
  rcases vx_callS X hx (bytes := bytes) (maxL := maxL) (ret := ret) ho hl hstt hini hcode hy hK hg (hsize.trans hml.symm) (argsL := As) (rest := rest) (fun sig h => hn.trans (hlen sig h)) hstack hW (by rw [hb]; exact hdg)
    (fun vm₁ hW₁ => ⟨hf.1, hf.2, hp.2 (T.setVm vm₁) hT hW₁⟩) with ⟨v, vm₁, ⟨U', l2, c2, s2⟩, hW₁, X', ⟨g', mk, t, L, e1, e2, hq, h1, hL, h2, h3⟩, st⟩ | ⟨q, vm₁, ⟨U', l2, c2, s2⟩, hW₁, X', ⟨g', mk, t, L, E, ce, e1, e2, hq, hce, hcv, hcl, h1, hL, h2, h3⟩, st⟩
  · dsimp only [Pt.U, Pt.locs, Pt.cells, Pt.slots] at X' e1 e2 h1 h2 h3 st
    subst h1; subst h2; subst h3
    exact Or.inl ⟨v, (T.setVm vm₁).calling g' mk As.toArray, t, U', L, hT, X', hL, e1, e2, hq, st⟩
  · dsimp only [Pt.U, Pt.locs, Pt.cells, Pt.slots] at X' e1 e2 h1 h2 h3 st hcl
    subst h1; subst h2; subst h3
    exact Or.inr ⟨q, (T.setVm vm₁).calling g' mk As.toArray, t, U', L, E, ce, hT, X', hL, e1, e2, hq, hce, hcv, vx_cls hW₁ hcl, st⟩
end Runs
section Rows
variable {p : Program} {l : Launch} {e : Env} {R : Room} {s : State} {m : MethodId} {args : Array Value} {below : List Frame} {meth : Method} {c : Code} {H : Heap} {locs : List Loc} {cells slots : Nat} {Q : State → Prop}
variable {mc ms : Nat} {free : Addr → Prop} {A0 A1 : Nat → Prop} {H0 : Heap} {a : Array Value} {pc : Nat} {ls : Array Slot} {st0 rest : List Value}
theorem vx_keep {st₀ t T' : State} {L : List Loc} (h0 : st₀.heap = H) (e1 : T'.heap = t.heap) (hS : va_S A0 H0 H locs) (hA : ∀ q, q < H.size → A1 q → A0 q) (hf : ∀ q, free q → A0 q) (hL : ∀ q ∈ L, free q.base) (hF : va_F A1 st₀ t) :
    H.size ≤ T'.heap.size ∧ (∀ q : Nat, q < H.size → ¬ A1 q → T'.heap[q]? = H[q]?) ∧ va_S A0 H0 T'.heap (locs ++ L) := by
  obtain ⟨hz, hk⟩ := hF
  rw [h0] at hz hk
  exact ⟨by rw [e1]; exact hz, fun q h1 h2 => by rw [e1]; exact hk q h1 h2,
    ⟨Nat.le_trans hS.1 (by rw [e1]; exact hz), fun q h1 h2 => by rw [e1, hk q (Nat.lt_of_lt_of_le h1 hS.1) (fun z => h2 (hA q (Nat.lt_of_lt_of_le h1 hS.1) z))]; exact hS.2.1 q h1 h2, fun q hq => by
      rcases List.mem_append.mp hq with h | h
      · exact hS.2.2 q h
      · exact hf _ (hL q h)⟩⟩
theorem vx_calli {S SX : Type} {post : Int32 → S → Prop} {px : SX → Prop} {B : S → State → Prop} {BX : String → SX → State → Prop} {AX : Nat → Prop} (hr : vx_Run p l e R s m args below meth c H locs cells slots mc ms (F0 m pc ls st0) rest (va_Qi post B A1 a) (vx_X px BX AX) free) (hS : va_S A0 H0 H locs) (hA : ∀ q, q < H.size → A1 q → A0 q) (hf : ∀ q, free q → A0 q) (hAX : ∀ q, q < H.size → AX q → A0 q)
    (kx : ∀ (E : String) (ce : Cell) (q9 : Addr) (u : SX) (t : State) (H1 : Heap) (locs1 : List Loc), t.heap = H1 → s.vm.Alike t.vm → px u → BX E u t → H.size ≤ H1.size → (∀ q : Nat, q < H.size → ¬ AX q → H1[q]? = H[q]?) → va_S A0 H0 H1 locs1 → H1[q9]? = some ce → ce.vm = .none → s.vm.findClass E = some ce.cls → vx_W p l e R s m args below meth c H1 locs1 (cells + mc) (slots + ms) Q (F0 m pc ls rest) q9)
    (kk : ∀ (r : Int32) (u : S) (t : State) (H1 : Heap) (locs1 : List Loc), t.heap = H1 → s.vm.Alike t.vm → post r u → B u t → H.size ≤ H1.size → (∀ q : Nat, q < H.size → ¬ A1 q → H1[q]? = H[q]?) → va_S A0 H0 H1 locs1 → W p l e R s m args below meth c H1 locs1 (cells + mc) (slots + ms) Q (F0 m (pc + 3) ls (.int r :: rest))) : W p l e R s m args below meth c H locs cells slots Q (F0 m pc ls st0) := by
  intro T hT X
  rcases hr T hT X with ⟨v, st₀, t, T', L, h0, X', hL, e1, e2, ⟨⟨r, u, hv, hp, hb⟩, hF⟩, st⟩ | ⟨q, st₀, t, T', L, E, ce, h0, X', hL, e1, e2, ⟨u, hp, hb, hF⟩, hce, hcv, hcl, st⟩
  · cases hv
    obtain ⟨k1, k2, k3⟩ := vx_keep h0 e1 hS hA hf hL hF
    obtain ⟨t2, a1, b1⟩ := kk r u t T'.heap (locs ++ L) e1.symm (by rw [← e2]; exact X'.warmed.alike) hp hb k1 k2 k3 T' rfl X'
    exact ⟨t2, st t2 a1, b1⟩
  · obtain ⟨k1, k2, k3⟩ := vx_keep h0 e1 hS hAX hf hL hF
    obtain ⟨t2, a1, b1⟩ := kx E ce q u t T'.heap (locs ++ L) e1.symm (by rw [← e2]; exact X'.warmed.alike) hp hb k1 k2 k3 (by rw [e1]; exact hce) hcv hcl T' rfl X'
    exact ⟨t2, st.trans a1, b1⟩
theorem vx_calll {S SX : Type} {post : Int64 → S → Prop} {px : SX → Prop} {B : S → State → Prop} {BX : String → SX → State → Prop} {AX : Nat → Prop} (hr : vx_Run p l e R s m args below meth c H locs cells slots mc ms (F0 m pc ls st0) rest (va_Ql post B A1 a) (vx_X px BX AX) free) (hS : va_S A0 H0 H locs) (hA : ∀ q, q < H.size → A1 q → A0 q) (hf : ∀ q, free q → A0 q) (hAX : ∀ q, q < H.size → AX q → A0 q)
    (kx : ∀ (E : String) (ce : Cell) (q9 : Addr) (u : SX) (t : State) (H1 : Heap) (locs1 : List Loc), t.heap = H1 → s.vm.Alike t.vm → px u → BX E u t → H.size ≤ H1.size → (∀ q : Nat, q < H.size → ¬ AX q → H1[q]? = H[q]?) → va_S A0 H0 H1 locs1 → H1[q9]? = some ce → ce.vm = .none → s.vm.findClass E = some ce.cls → vx_W p l e R s m args below meth c H1 locs1 (cells + mc) (slots + ms) Q (F0 m pc ls rest) q9)
    (kk : ∀ (r : Int64) (u : S) (t : State) (H1 : Heap) (locs1 : List Loc), t.heap = H1 → s.vm.Alike t.vm → post r u → B u t → H.size ≤ H1.size → (∀ q : Nat, q < H.size → ¬ A1 q → H1[q]? = H[q]?) → va_S A0 H0 H1 locs1 → W p l e R s m args below meth c H1 locs1 (cells + mc) (slots + ms) Q (F0 m (pc + 3) ls (.long r :: rest))) : W p l e R s m args below meth c H locs cells slots Q (F0 m pc ls st0) := by
  intro T hT X
  rcases hr T hT X with ⟨v, st₀, t, T', L, h0, X', hL, e1, e2, ⟨⟨r, u, hv, hp, hb⟩, hF⟩, st⟩ | ⟨q, st₀, t, T', L, E, ce, h0, X', hL, e1, e2, ⟨u, hp, hb, hF⟩, hce, hcv, hcl, st⟩
  · cases hv
    obtain ⟨k1, k2, k3⟩ := vx_keep h0 e1 hS hA hf hL hF
    obtain ⟨t2, a1, b1⟩ := kk r u t T'.heap (locs ++ L) e1.symm (by rw [← e2]; exact X'.warmed.alike) hp hb k1 k2 k3 T' rfl X'
    exact ⟨t2, st t2 a1, b1⟩
  · obtain ⟨k1, k2, k3⟩ := vx_keep h0 e1 hS hAX hf hL hF
    obtain ⟨t2, a1, b1⟩ := kx E ce q u t T'.heap (locs ++ L) e1.symm (by rw [← e2]; exact X'.warmed.alike) hp hb k1 k2 k3 (by rw [e1]; exact hce) hcv hcl T' rfl X'
    exact ⟨t2, st.trans a1, b1⟩
theorem vx_callf {S SX : Type} {post : UInt32 → S → Prop} {px : SX → Prop} {B : S → State → Prop} {BX : String → SX → State → Prop} {AX : Nat → Prop} (hr : vx_Run p l e R s m args below meth c H locs cells slots mc ms (F0 m pc ls st0) rest (va_Qf post B A1 a) (vx_X px BX AX) free) (hS : va_S A0 H0 H locs) (hA : ∀ q, q < H.size → A1 q → A0 q) (hf : ∀ q, free q → A0 q) (hAX : ∀ q, q < H.size → AX q → A0 q)
    (kx : ∀ (E : String) (ce : Cell) (q9 : Addr) (u : SX) (t : State) (H1 : Heap) (locs1 : List Loc), t.heap = H1 → s.vm.Alike t.vm → px u → BX E u t → H.size ≤ H1.size → (∀ q : Nat, q < H.size → ¬ AX q → H1[q]? = H[q]?) → va_S A0 H0 H1 locs1 → H1[q9]? = some ce → ce.vm = .none → s.vm.findClass E = some ce.cls → vx_W p l e R s m args below meth c H1 locs1 (cells + mc) (slots + ms) Q (F0 m pc ls rest) q9)
    (kk : ∀ (r : UInt32) (u : S) (t : State) (H1 : Heap) (locs1 : List Loc), t.heap = H1 → s.vm.Alike t.vm → post r u → B u t → H.size ≤ H1.size → (∀ q : Nat, q < H.size → ¬ A1 q → H1[q]? = H[q]?) → va_S A0 H0 H1 locs1 → W p l e R s m args below meth c H1 locs1 (cells + mc) (slots + ms) Q (F0 m (pc + 3) ls (.float r :: rest))) : W p l e R s m args below meth c H locs cells slots Q (F0 m pc ls st0) := by
  intro T hT X
  rcases hr T hT X with ⟨v, st₀, t, T', L, h0, X', hL, e1, e2, ⟨⟨r, u, hv, hp, hb⟩, hF⟩, st⟩ | ⟨q, st₀, t, T', L, E, ce, h0, X', hL, e1, e2, ⟨u, hp, hb, hF⟩, hce, hcv, hcl, st⟩
  · cases hv
    obtain ⟨k1, k2, k3⟩ := vx_keep h0 e1 hS hA hf hL hF
    obtain ⟨t2, a1, b1⟩ := kk r u t T'.heap (locs ++ L) e1.symm (by rw [← e2]; exact X'.warmed.alike) hp hb k1 k2 k3 T' rfl X'
    exact ⟨t2, st t2 a1, b1⟩
  · obtain ⟨k1, k2, k3⟩ := vx_keep h0 e1 hS hAX hf hL hF
    obtain ⟨t2, a1, b1⟩ := kx E ce q u t T'.heap (locs ++ L) e1.symm (by rw [← e2]; exact X'.warmed.alike) hp hb k1 k2 k3 (by rw [e1]; exact hce) hcv hcl T' rfl X'
    exact ⟨t2, st.trans a1, b1⟩
theorem vx_calld {S SX : Type} {post : UInt64 → S → Prop} {px : SX → Prop} {B : S → State → Prop} {BX : String → SX → State → Prop} {AX : Nat → Prop} (hr : vx_Run p l e R s m args below meth c H locs cells slots mc ms (F0 m pc ls st0) rest (va_Qd post B A1 a) (vx_X px BX AX) free) (hS : va_S A0 H0 H locs) (hA : ∀ q, q < H.size → A1 q → A0 q) (hf : ∀ q, free q → A0 q) (hAX : ∀ q, q < H.size → AX q → A0 q)
    (kx : ∀ (E : String) (ce : Cell) (q9 : Addr) (u : SX) (t : State) (H1 : Heap) (locs1 : List Loc), t.heap = H1 → s.vm.Alike t.vm → px u → BX E u t → H.size ≤ H1.size → (∀ q : Nat, q < H.size → ¬ AX q → H1[q]? = H[q]?) → va_S A0 H0 H1 locs1 → H1[q9]? = some ce → ce.vm = .none → s.vm.findClass E = some ce.cls → vx_W p l e R s m args below meth c H1 locs1 (cells + mc) (slots + ms) Q (F0 m pc ls rest) q9)
    (kk : ∀ (r : UInt64) (u : S) (t : State) (H1 : Heap) (locs1 : List Loc), t.heap = H1 → s.vm.Alike t.vm → post r u → B u t → H.size ≤ H1.size → (∀ q : Nat, q < H.size → ¬ A1 q → H1[q]? = H[q]?) → va_S A0 H0 H1 locs1 → W p l e R s m args below meth c H1 locs1 (cells + mc) (slots + ms) Q (F0 m (pc + 3) ls (.double r :: rest))) : W p l e R s m args below meth c H locs cells slots Q (F0 m pc ls st0) := by
  intro T hT X
  rcases hr T hT X with ⟨v, st₀, t, T', L, h0, X', hL, e1, e2, ⟨⟨r, u, hv, hp, hb⟩, hF⟩, st⟩ | ⟨q, st₀, t, T', L, E, ce, h0, X', hL, e1, e2, ⟨u, hp, hb, hF⟩, hce, hcv, hcl, st⟩
  · cases hv
    obtain ⟨k1, k2, k3⟩ := vx_keep h0 e1 hS hA hf hL hF
    obtain ⟨t2, a1, b1⟩ := kk r u t T'.heap (locs ++ L) e1.symm (by rw [← e2]; exact X'.warmed.alike) hp hb k1 k2 k3 T' rfl X'
    exact ⟨t2, st t2 a1, b1⟩
  · obtain ⟨k1, k2, k3⟩ := vx_keep h0 e1 hS hAX hf hL hF
    obtain ⟨t2, a1, b1⟩ := kx E ce q u t T'.heap (locs ++ L) e1.symm (by rw [← e2]; exact X'.warmed.alike) hp hb k1 k2 k3 (by rw [e1]; exact hce) hcv hcl T' rfl X'
    exact ⟨t2, st.trans a1, b1⟩
theorem vx_callv {S SX : Type} {post : S → Prop} {px : SX → Prop} {B : S → State → Prop} {BX : String → SX → State → Prop} {AX : Nat → Prop} (hr : vx_Run p l e R s m args below meth c H locs cells slots mc ms (F0 m pc ls st0) rest (va_Qv post B A1 a) (vx_X px BX AX) free) (hS : va_S A0 H0 H locs) (hA : ∀ q, q < H.size → A1 q → A0 q) (hf : ∀ q, free q → A0 q) (hAX : ∀ q, q < H.size → AX q → A0 q)
    (kx : ∀ (E : String) (ce : Cell) (q9 : Addr) (u : SX) (t : State) (H1 : Heap) (locs1 : List Loc), t.heap = H1 → s.vm.Alike t.vm → px u → BX E u t → H.size ≤ H1.size → (∀ q : Nat, q < H.size → ¬ AX q → H1[q]? = H[q]?) → va_S A0 H0 H1 locs1 → H1[q9]? = some ce → ce.vm = .none → s.vm.findClass E = some ce.cls → vx_W p l e R s m args below meth c H1 locs1 (cells + mc) (slots + ms) Q (F0 m pc ls rest) q9)
    (kk : ∀ (u : S) (t : State) (H1 : Heap) (locs1 : List Loc), t.heap = H1 → s.vm.Alike t.vm → post u → B u t → H.size ≤ H1.size → (∀ q : Nat, q < H.size → ¬ A1 q → H1[q]? = H[q]?) → va_S A0 H0 H1 locs1 → W p l e R s m args below meth c H1 locs1 (cells + mc) (slots + ms) Q (F0 m (pc + 3) ls (rest))) : W p l e R s m args below meth c H locs cells slots Q (F0 m pc ls st0) := by
  intro T hT X
  rcases hr T hT X with ⟨v, st₀, t, T', L, h0, X', hL, e1, e2, ⟨⟨u, hv, hp, hb⟩, hF⟩, st⟩ | ⟨q, st₀, t, T', L, E, ce, h0, X', hL, e1, e2, ⟨u, hp, hb, hF⟩, hce, hcv, hcl, st⟩
  · cases hv
    obtain ⟨k1, k2, k3⟩ := vx_keep h0 e1 hS hA hf hL hF
    obtain ⟨t2, a1, b1⟩ := kk u t T'.heap (locs ++ L) e1.symm (by rw [← e2]; exact X'.warmed.alike) hp hb k1 k2 k3 T' rfl X'
    exact ⟨t2, st t2 a1, b1⟩
  · obtain ⟨k1, k2, k3⟩ := vx_keep h0 e1 hS hAX hf hL hF
    obtain ⟨t2, a1, b1⟩ := kx E ce q u t T'.heap (locs ++ L) e1.symm (by rw [← e2]; exact X'.warmed.alike) hp hb k1 k2 k3 (by rw [e1]; exact hce) hcv hcl T' rfl X'
    exact ⟨t2, st.trans a1, b1⟩
/-- caught by the row x of this method's table; the rows ahead don't take it -/
theorem vx_catch {own name : String} {E : String} {ce : Cell} {q : Addr} (hown : s.vm.findClass own = some m.cls) (pre : List ExceptionTableEntry) (x : ExceptionTableEntry) (suf : List ExceptionTableEntry) (hsplit : c.exceptionTable.toList = pre ++ x :: suf)
    (hpass : ∀ z ∈ pre, covers z pc = false ∨ (z.catchType ≠ 0 ∧ ∃ nm : String, (Cond.classLink own z.catchType nm).before args s = true ∧ va_Nc E nm s)) (hx : covers x pc = true) (h0 : x.catchType ≠ 0)
    (hlink : (Cond.classLink own x.catchType name).before args s = true) (hcast : (Cond.castable E name).before args s = true) (hcell : H[q]? = some ce) (hv : ce.vm = .none) (hcl : s.vm.findClass E = some ce.cls)
    (kk : W p l e R s m args below meth c H locs cells slots Q (F0 m x.handlerPc ls [.ref q])) : vx_W p l e R s m args below meth c H locs cells slots Q (F0 m pc ls rest) q := by
  intro T hT X
  have hpl : e.platform.magicAccessors = ({} : Platform).magicAccessors := by rw [X.admits.platform]
  obtain ⟨c3, c4, hc3, hc4, hasg⟩ := Cond.castable_spec hcast
  cases Option.some.inj (hc3.symm.trans hcl)
  obtain ⟨c5, hc5, hcl5⟩ := Cond.classLink_spec hown hlink e.platform hpl
  cases Option.some.inj (hc4.symm.trans hc5)
  obtain ⟨vm', X', st⟩ := X.thenCaughtThrough q (g := F0 m pc ls rest) rfl (Steps.refl _) (by rw [hT]; exact hcell) (by rw [hv]; rfl) (by obtain ⟨k9, h9, -⟩ := Vm.findClass_spec hcl; exact ⟨k9, h9⟩) pre x suf hsplit
    (fun z hz => by
      rcases hpass z hz with h | ⟨hz0, nm, hl1, hn1⟩
      · exact Or.inl h
      · obtain ⟨c6, hc6, hcl6⟩ := Cond.classLink_spec hown hl1 e.platform hpl
        obtain ⟨a8, b8, h1, h2, h3⟩ := hn1
        cases Option.some.inj (h1.symm.trans hcl)
        cases Option.some.inj (h2.symm.trans hc6)
        exact Or.inr ⟨hz0, _, hcl6, h3⟩) hx (Or.inr ⟨h0, c4, hcl5, hasg⟩)
  obtain ⟨t, a1, b1⟩ := kk (T.setVm vm') hT X'
  exact ⟨t, st.trans a1, b1⟩
end Rows
section Ends
variable {p : Program} {l : Launch} {e : Env} {R : Room} {s : State} {m : MethodId} {args : Array Value} {below : List Frame} {meth : Method} {c : Code} {H : Heap} {locs : List Loc} {cells slots : Nat} {Q : State → Prop}
variable {mc ms : Nat} {free : Addr → Prop} {A0 A1 : Nat → Prop} {H0 : Heap} {a : Array Value} {ls : Array Slot} {st0 rest : List Value}
variable {Qc : Array Value → State → Outcome → State → Prop} {XC : String → State → State → Prop}
/-- what a body that may throw owes at its end -/
def vx_MQ (below : List Frame) (Qc : Array Value → State → Outcome → State → Prop) (XC : String → State → State → Prop) (a : Array Value) (s : State) (mc ms : Nat) (free : Addr → Prop) : State → Prop := fun t =>
  ∃ o, t.status = .running ∧ Ended t below o ∧ vx_Q Qc XC mc ms free a s o t
theorem vx_ret {g : JFrame} {mc ms : Nat} (k : W p l e R s m args below meth c H locs cells slots (MQ below Qc args s mc ms free) g) : W p l e R s m args below meth c H locs cells slots (vx_MQ below Qc XC args s mc ms free) g := by
  intro T hT X
  obtain ⟨t, a1, o, b1, b2, b3, b4⟩ := k T hT X
  exact ⟨t, a1, o, b1, b2, Or.inl ⟨b3, b4⟩⟩
/-- not caught here: it goes on to the caller -/
theorem vx_widen {g : JFrame} {q : Addr} {k n : Nat} (h1 : cells ≤ k) (h2 : slots ≤ n) (kk : vx_W p l e R s m args below meth c H locs k n Q g q) : vx_W p l e R s m args below meth c H locs cells slots Q g q := fun T hT X => kk T hT (stand_widen X h1 h2)
theorem vx_out {pc : Nat} {E : String} {ce : Cell} {q : Addr} {mc ms : Nat} (hout : ∀ x ∈ c.exceptionTable.toList, covers x pc = false) (hlocks : meth.locks = false) (hcell : H[q]? = some ce) (hv : ce.vm = .none) (hcl : s.vm.findClass E = some ce.cls)
    (hx : ∀ t : State, t.heap = H → s.vm.Alike t.vm → XC E s t) (hf : ∀ z ∈ locs, free z.base) (hc : cells ≤ mc) (hs : slots ≤ ms) :
    vx_W p l e R s m args below meth c H locs cells slots (vx_MQ below Qc XC args s mc ms free) (F0 m pc ls rest) q := by
  intro T hT X
  obtain ⟨st1, hrun, hend, hW, hsm⟩ := X.leaveThrown q (g := F0 m pc ls rest) rfl rfl rfl hout hlocks
  have hcell9 : (T.setFrames (.throwing q :: below)).heap[q]? = some ce := by
    show T.heap[q]? = some ce
    rw [hT]; exact hcell
  exact ⟨_, st1, .threw q, hrun, hend, Or.inr ⟨q, rfl, E, ce, locs, hx _ hT hW.alike, hcell9, hv, hcl, hW, hsm.mono hc hs, hf⟩⟩
theorem vx_frame {U : State} {k n : Nat} (h : s.sameButNew ({ U with vm := s.vm } : State) locs k n) : s.heap.size ≤ U.heap.size ∧ ∀ q : Nat, q < s.heap.size → (∀ z ∈ locs, z.base ≠ q) → U.heap[q]? = s.heap[q]? := by
  obtain ⟨-, h2, -, -, -, h6⟩ := h
  refine ⟨h2, fun q hq hz => ?_⟩
  obtain ⟨c9, e1, e2, e3, e4⟩ := h6 q _ (Array.getElem?_eq_getElem hq)
  have hs : c9.slots = (s.heap[q]).slots := Array.ext_getElem? fun i => e4 i fun hm => hz _ hm rfl
  have h9 : c9 = s.heap[q] := by
    rw [hs] at e2
    exact e2
  have e5 : U.heap[q]? = some c9 := e1
  rw [e5, h9, Array.getElem?_eq_getElem hq]
/-- the words of a throw but the four that speak of the heap -/
def vx_no (w : Cond) : Bool := decide (w ≠ .isRef (.static Bundle.tN "UNASSIGNED_STACK" Bundle.steD)) && decide (w ≠ .isRef (.static Bundle.tN "SUPPRESSED_SENTINEL" Bundle.listD)) && decide (w ≠ .laysStatic Bundle.tN "UNASSIGNED_STACK" Bundle.steD) && decide (w ≠ .laysStatic Bundle.tN "SUPPRESSED_SENTINEL" Bundle.listD)
def vx_at0 (own : String) (ic : Nat) (X : String) (names : List String) : List Cond := (Bundle.ownAtoms0 own ic X names).filter vx_no
def vx_atS (own : String) (ic : Nat) (X : String) (names : List String) : List Cond := (Bundle.ownAtoms own ic X names).filter vx_no
/-- a word that the tables alone decide, or a good one -/
def vx_ot (w : Cond) : Bool := w.onTables || goodWord w
theorem vx_ot_at {args a' : Array Value} {s U : State} {w : Cond} (hW : s.WarmedH U.vm) (hvm : s.vm = U.vm) (hg : vx_ot w = true) (h : w.before args s = true) : w.before a' U = true := by
  simp only [vx_ot, Bool.or_eq_true] at hg
  rcases hg with hg | hg
  · exact va_tabs hg hvm h
  · exact word_at hW (good_of_word hg) h
/-- a list's words: the good ones out of the method's own list, the others by premises of their own -/
theorem vx_hat {args : Array Value} {s : State} {L B : List Cond} (h1 : ∀ w ∈ L.filter goodWord, w.before args s = true) (h2 : ∀ w ∈ L.filter (fun w => !goodWord w), w ∈ B) (h3 : ∀ w ∈ B, w.before args s = true) : ∀ w ∈ L, w.before args s = true := by
  intro w hw
  by_cases g : goodWord w = true
  · exact h1 w (List.mem_filter.mpr ⟨hw, g⟩)
  · refine h3 w (h2 w (List.mem_filter.mpr ⟨hw, ?_⟩))
    show (!goodWord w) = true
    cases hgw : goodWord w
    · rfl
    · exact absurd hgw g
theorem vx_c {args : Array Value} {s : State} {w : Cond} {B : List Cond} (h : w.before args s = true) (t : ∀ w ∈ B, w.before args s = true) : ∀ w' ∈ w :: B, w'.before args s = true := fun w' h' => (List.mem_cons.mp h').elim (fun e => by rw [e]; exact h) (t w')
theorem vx_n {args : Array Value} {s : State} : ∀ w ∈ ([] : List Cond), w.before args s = true := fun _ h => nomatch h
theorem vx_own {args : Array Value} {s : State} {L : List Cond} (h1 : ∀ w ∈ L.filter vx_no, w.before args s = true)
    (hU : (Cond.isRef (.static Bundle.tN "UNASSIGNED_STACK" Bundle.steD)).before args s = true) (hN : (Cond.isRef (.static Bundle.tN "SUPPRESSED_SENTINEL" Bundle.listD)).before args s = true)
    (lU : (Cond.laysStatic Bundle.tN "UNASSIGNED_STACK" Bundle.steD).before args s = true) (lN : (Cond.laysStatic Bundle.tN "SUPPRESSED_SENTINEL" Bundle.listD).before args s = true) : ∀ w ∈ L, w.before args s = true := by
  intro w hw
  by_cases e1 : w = .isRef (.static Bundle.tN "UNASSIGNED_STACK" Bundle.steD)
  · rw [e1]; exact hU
  · by_cases e2 : w = .isRef (.static Bundle.tN "SUPPRESSED_SENTINEL" Bundle.listD)
    · rw [e2]; exact hN
    · by_cases e3 : w = .laysStatic Bundle.tN "UNASSIGNED_STACK" Bundle.steD
      · rw [e3]; exact lU
      · by_cases e4 : w = .laysStatic Bundle.tN "SUPPRESSED_SENTINEL" Bundle.listD
        · rw [e4]; exact lN
        · exact h1 w (List.mem_filter.mpr ⟨hw, by unfold vx_no; rw [decide_eq_true e1, decide_eq_true e2, decide_eq_true e3, decide_eq_true e4]; rfl⟩)
/-- where a static field lies, its class's statics cell in H -/
def vx_L (C n d : String) (A : Nat → Prop) (U : State) (H : Heap) : Prop := ∃ (c : ClassId) (k : Class) (i : Nat) (f : Field) (a : Nat) (cell : Cell), U.vm.findClass C = some c ∧ U.fieldFound? C n d = some (c, k, i, f) ∧ f.isStatic = true ∧ k.statics = some a ∧ H[a]? = some cell ∧ cell.vm.isStatics = true ∧ cell.cls = c ∧ f.slot < cell.slots.size ∧ k.staticTypes[f.slot]? = some f.type ∧ ¬ A a
theorem vx_L.moved {C n d : String} {A : Nat → Prop} {u U : State} {H : Heap} (hvm : u.vm.Alike U.vm) (h : vx_L C n d A u H) : vx_L C n d A U H := by
  obtain ⟨c, k, i, f, a, cell, h1, h2, h3, h4, h5, h6, h7, h8, h9, h10⟩ := h
  obtain ⟨k', hi', he⟩ := State.fieldFound?_setVm hvm h2
  exact ⟨c, k', i, f, a, cell, by rw [hvm.findClass]; exact h1, hi', h3, by rw [he]; exact h4, h5, h6, h7, h8, by rw [he]; exact h9, h10⟩
theorem vx_L.kept {C n d : String} {A : Nat → Prop} {U : State} {H H1 : Heap} (h : vx_L C n d A U H) (hq : ∀ a : Nat, a < H.size → ¬ A a → H1[a]? = H[a]?) : vx_L C n d A U H1 := by
  obtain ⟨c, k, i, f, a, cell, h1, h2, h3, h4, h5, h6, h7, h8, h9, h10⟩ := h
  exact ⟨c, k, i, f, a, cell, h1, h2, h3, h4, by rw [hq a (Array.getElem?_eq_some_iff.mp h5).1 h10]; exact h5, h6, h7, h8, h9, h10⟩
theorem vx_L.narrow {C n d : String} {A B : Nat → Prop} {U : State} {H : Heap} (h : vx_L C n d A U H) (hAB : ∀ q, B q → A q) : vx_L C n d B U H := by
  obtain ⟨c, k, i, f, a, cell, h1, h2, h3, h4, h5, h6, h7, h8, h9, h10⟩ := h
  exact ⟨c, k, i, f, a, cell, h1, h2, h3, h4, h5, h6, h7, h8, h9, fun z => h10 (hAB _ z)⟩
theorem vx_L.word {C n d : String} {A : Nat → Prop} {s : State} {args : Array Value} (h : vx_L C n d A s s.heap) : (Cond.laysStatic C n d).before args s = true := by
  obtain ⟨c, k, i, f, a, cell, h1, h2, h3, h4, h5, h6, h7, h8, h9, -⟩ := h
  show (Cond.laysStatic C n d).holds args s none s [] = true
  exact Cond.laysStatic_of h1 h2 h3 h4 h5 h6 h7 h8 h9
/-- .. and what it holds: null or some reference -/
def vx_Zq (C n d : String) (A : Nat → Prop) (U : State) (H : Heap) : Prop := va_Zq C n d A U H ∧ vx_L C n d A U H
theorem vx_Zq.moved {C n d : String} {A : Nat → Prop} {u U : State} {H : Heap} (hvm : u.vm.Alike U.vm) (h : vx_Zq C n d A u H) : vx_Zq C n d A U H := ⟨va_Zq.moved hvm h.1, vx_L.moved hvm h.2⟩
theorem vx_Zq.kept {C n d : String} {A : Nat → Prop} {U : State} {H H1 : Heap} (h : vx_Zq C n d A U H) (hq : ∀ a : Nat, a < H.size → ¬ A a → H1[a]? = H[a]?) : vx_Zq C n d A U H1 := ⟨va_Zq.kept h.1 hq, vx_L.kept h.2 hq⟩
theorem vx_Zq.narrow {C n d : String} {A B : Nat → Prop} {U : State} {H : Heap} (h : vx_Zq C n d A U H) (hAB : ∀ q, B q → A q) : vx_Zq C n d B U H := ⟨va_Zq.narrow h.1 hAB, vx_L.narrow h.2 hAB⟩
theorem vx_Zqof {args : Array Value} {s : State} {C n d : String} {A : Nat → Prop} (hl : (Cond.laysStatic C n d).before args s = true) (hini : (Cond.initialized C).before args s = true) (h : (Cond.isRef (.static C n d)).before args s = true) (hA : ∀ a : Nat, a < s.heap.size → ¬ A a) : vx_Zq C n d A s s.heap := by
  refine ⟨va_Zqof hl hini h hA, ?_⟩
  obtain ⟨c, k, i, f, a, cell, h1, h2, h3, h4, h5, h6, h7, h8, h9⟩ := Cond.laysStatic_spec hl
  exact ⟨c, k, i, f, a, cell, h1, h2, h3, h4, h5, h6, h7, h8, h9, hA a (Array.getElem?_eq_some_iff.mp h5).1⟩
theorem vx_isRef {C n d : String} {v : Value} {A : Nat → Prop} {s : State} {args : Array Value} (h : va_Z C n d v A s s.heap) (hv : v.isRef = true) : (Cond.isRef (.static C n d)).before args s = true := by
  obtain ⟨cf, kf, fi, f, a, cell, h1, h2, h3, h4, h5, h6, h7, -⟩ := h
  have he : (Term.static C n d).eval args s none [] s = some v := by
    simp [Term.eval, State.fieldNamed?, h1, h2, h4, h5, h6, h7]
  simp only [Cond.before, Cond.holds, Cond.value, he]
  cases v <;> simp_all [Value.isRef]
theorem vx_isRefq {C n d : String} {A : Nat → Prop} {s : State} {args : Array Value} (h : va_Zq C n d A s s.heap) : (Cond.isRef (.static C n d)).before args s = true := by
  rcases h with h | ⟨t, h⟩
  · exact vx_isRef h rfl
  · exact vx_isRef h rfl
/-- the same frame, seen from here: as if the method were called anew in this heap -/
theorem vx_rebase {T : State} (X : Stand p l e R s m args below meth c T locs cells slots) {R' : Room} (hf : R'.frames ≤ R.frames) (hl : R'.locals ≤ R.locals) (hc : cells + R'.cells ≤ R.cells) (hs : slots + R'.slots ≤ R.slots) :
    Stand p l e R' ((T.setVm s.vm).setFrames (.invoking m args :: below)) m args below meth c T [] 0 0 := by
  have htop : (T.setVm s.vm).topJava?.isSome := X.here.top
  have hF : ((T.setVm s.vm).setFrames (.invoking m args :: below)).frames = .invoking m args :: below := State.frames_setFrames _ (State.cur_lt_of_top htop)
  obtain ⟨g₀, hg0⟩ := Option.isSome_iff_exists.mp htop
  obtain ⟨r, hr⟩ := State.topJava?_eq_some.mp hg0
  have hl9 : e.platform.stackLimits (T.setVm s.vm).me = e.platform.stackLimits s.me := X.limits
  have hb9 : (T.setVm s.vm).me.stackBytes = s.me.stackBytes := X.bytes
  refine ⟨X.admits, X.cas, X.clock, hF, ?_, X.hears, X.method, X.code, X.here, X.tail, X.warmed, ?_, ?_, ?_⟩
  · have h := X.room
    have hU : ((T.setVm s.vm).setFrames (.invoking m args :: below)).localsInUse = s.localsInUse := by
      rw [State.localsInUse_invoking hF (meth := meth) (c := c) X.method X.code, State.localsInUse_invoking X.frames X.method X.code]
    simp only [State.hasRoom, Bool.and_eq_true, decide_eq_true_eq] at h ⊢
    obtain ⟨⟨⟨⟨h1, h2, h3, h4, h5, h6⟩, h7⟩, h8⟩, h9⟩ := h
    rw [X.frames, List.length_cons] at h2 h3
    have q1 := X.heapSize
    have q2 := X.used
    simp only [hF, hU, List.length_cons, State.stackLimits_setFrames, State.stackBytes_setFrames, hl9, hb9]
    refine ⟨⟨⟨⟨by omega, by omega, by omega, by omega, by omega, h6⟩, ?_⟩, ?_⟩, X.book⟩
    · show T.heap.size + R'.cells ≤ e.platform.maxCells
      omega
    · show T.slotsUsed + R'.slots ≤ e.platform.maxSlots
      omega
  · rw [State.stackLimits_setFrames]; rfl
  · rw [State.stackBytes_setFrames]; rfl
  · refine ⟨?_, Nat.le_refl _, Nat.le_refl _, ?_, ?_, fun a c9 h9 => ⟨c9, h9, rfl, rfl, fun _ _ => rfl⟩⟩
    · obtain ⟨t, ht, -⟩ := State.frames_cons hr
      show T.setVm s.vm = { ((T.setVm s.vm).setFrames (.invoking m args :: below)).setFrames (T.setVm s.vm).frames with heap := T.heap, slotsUsed := T.slotsUsed }
      rw [State.setFrames_setFrames, State.setFrames_self ht]
      rfl
    · show T.slotsUsed = T.slotsUsed + ((T.heap.toList.drop T.heap.size).map (·.slots.size)).sum
      rw [List.drop_eq_nil_of_le (Nat.le_of_eq Array.length_toList)]
      rfl
    · show ((T.heap.toList.drop T.heap.size).map (·.slots.size)).sum ≤ 0
      rw [List.drop_eq_nil_of_le (Nat.le_of_eq Array.length_toList)]
      exact Nat.le_refl _
/-- 'throw new E()': new; dup; invokespecial; athrow -/
theorem vx_throw0 {cc : ByteArray} {pc : Nat} (hexec : p.tables.exec = Jvm.exec) (hb : c.code = cc) (hl : l.stackTraces = false) {own cls : String} {names : List String} {ik ic mc ms : Nat} {A : Nat → Prop}
    (hown : s.vm.findClass own = some m.cls) (hcls : Bundle.fit cls = true) (hnames : ∀ n ∈ names, Bundle.fit n = true)
    (hk : (Cond.classLink own ik cls).before args s = true) (hini : (Cond.initialized cls).before args s = true) (hat : ∀ w ∈ vx_at0 own ic cls names, w.before args s = true)
    (hgood : ∀ w ∈ Cond.classLink own ik cls :: Cond.initialized cls :: vx_at0 own ic cls names, vx_ot w = true)
    (hU : vx_Zq Bundle.tN "UNASSIGNED_STACK" Bundle.steD A s s.heap) (hN : vx_Zq Bundle.tN "SUPPRESSED_SENTINEL" Bundle.listD A s s.heap) (hS : va_S A s.heap H locs) (hsize : ls.size = c.maxLocals)
    (d0 : decode cc pc = .ok (.new ik, 3)) (d3 : decode cc (pc + 3) = .ok (.dup, 1)) (d4 : decode cc (pc + 4) = .ok (.invokespecial ic, 3)) (d7 : decode cc (pc + 7) = .ok (.athrow, 1))
    (hout : ∀ x ∈ c.exceptionTable.toList, covers x (pc + 7) = false)
    (hRframes : names.length + 3 < R.frames) (hRlocals : (rest.map fun v => v.category).sum + (13 * (names.length + 1) + 42) ≤ R.locals) (hRcells : cells + 1 ≤ R.cells) (hRslots : slots + 6 ≤ R.slots) (hlocks : meth.locks = false)
    (hx : ∀ t : State, s.vm.Alike t.vm → H.size ≤ t.heap.size → (∀ q : Nat, q < H.size → t.heap[q]? = H[q]?) → XC cls s t)
    (hf : ∀ z ∈ locs, free z.base) (hc : cells + 1 ≤ mc) (hs : slots + 6 ≤ ms) :
    W p l e R s m args below meth c H locs cells slots (vx_MQ below Qc XC args s mc ms free) (F0 m pc ls rest) := by
  intro T hT X
  have htr : e.platform.stackTraces = false := (show e.platform.stackTraces = l.stackTraces by rw [X.admits.platform]).trans hl
  have Y := vx_rebase X (R' := { frames := R.frames, locals := R.locals, cells := 1, slots := 6 }) (Nat.le_refl _) (Nat.le_refl _) hRcells hRslots
  obtain ⟨s', hA⟩ : ∃ z, z = (T.setVm s.vm).setFrames (.invoking m args :: below) := ⟨_, rfl⟩
  rw [← hA] at Y
  have hvm : s'.vm = s.vm := by rw [hA]; rfl
  have hhp : s'.heap = H := by rw [hA]; exact hT
  have hW0 : s.WarmedH s'.vm := by rw [hvm]; exact State.WarmedH.refl s
  have hat' : ∀ w ∈ vx_at0 own ic cls names, w.before args s' = true := fun w hw => vx_ot_at hW0 hvm.symm (hgood w (List.mem_cons_of_mem _ (List.mem_cons_of_mem _ hw))) (hat w hw)
  have hk' : (Cond.classLink own ik cls).before args s' = true := vx_ot_at hW0 hvm.symm (hgood _ List.mem_cons_self) hk
  have hini' : (Cond.initialized cls).before args s' = true := vx_ot_at hW0 hvm.symm (hgood _ (List.mem_cons_of_mem _ List.mem_cons_self)) hini
  have hU' : vx_Zq Bundle.tN "UNASSIGNED_STACK" Bundle.steD A s' s'.heap := by rw [hhp]; exact vx_Zq.moved hW0.alike (hU.kept hS.2.1)
  have hN' : vx_Zq Bundle.tN "SUPPRESSED_SENTINEL" Bundle.listD A s' s'.heap := by rw [hhp]; exact vx_Zq.moved hW0.alike (hN.kept hS.2.1)
  have h : ∀ w ∈ Bundle.ownAtoms0 own ic cls names, w.before args s' = true := vx_own hat' (vx_isRefq hU'.1) (vx_isRefq hN'.1) hU'.2.word hN'.2.word
  have hown' : s'.vm.findClass own = some m.cls := by rw [hvm]; exact hown
  have hins : (Cond.instantiable cls 6).before args s' = true := h _ (by simp [Bundle.ownAtoms0])
  obtain ⟨vm₁, cX, kX, hfX, hkX, -, -, X₁, st1⟩ := Y.newCold hexec (own := own) (C := cls) (index := ik) (n := 6) hown' hk' hins hini'
    (g := F0 m pc ls rest) rfl (by rw [hb]; exact d0) (Nat.le_refl _) (Nat.le_refl _)
  generalize hT1 : (T.setVm vm₁).pushCell { cls := cX, slots := kX.instanceTypes.map defaultValue, vm := .none } = T1 at X₁ st1
  have hcat : (Value.ref T.heap.size).category = 1 := rfl
  have hcellA : T1.heap[T.heap.size]? = some (freshCell cX kX) := by rw [← hT1]; exact State.heap_pushCell_size _ _
  have d3' : decode c.code (pc + 3) = .ok (.dup, 1) := by rw [hb]; exact d3
  obtain ⟨U, hsteps, hrun, hend, hW, hsame, ce, hce, hO⟩ := X₁.ctorThrow0 hexec htr (own := own) (cls := cls) (names := names) (ic := ic) hown' hcls hnames h (fun x hx => nomatch hx) hfX hkX hcellA (by rw [hhp, hT]; exact Nat.le_refl _)
    (g := { method := m, pc := pc + 4, locals := ls, stack := .ref T.heap.size :: .ref T.heap.size :: rest, locked := none }) rfl hsize rfl rfl (rest := rest) rfl
    (by rw [hb]; exact d4) (by rw [hb]; exact d7) hout hRframes (by simp only [List.map_cons, List.sum_cons, hcat]; omega) hlocks
  obtain ⟨f1, f2⟩ := vx_frame hsame
  rw [hhp] at f1 f2
  have hWs : s.WarmedH U.vm := State.WarmedH.trans hW0 hW
  have hcl : s.vm.findClass cls = some ce.cls := by
    have h9 := hO.cls
    rw [hvm] at h9
    exact h9
  have hall : s.sameButNew ({ U with vm := s.vm } : State) locs mc ms := by
    subst hA
    obtain ⟨e1, e2⟩ := hsame
    rw [State.setFrames_setFrames] at e1
    have h2 : (T.setVm s.vm).sameButNew ({ U with vm := s.vm } : State) [] (0 + 1) (0 + 6) := ⟨e1, e2⟩
    have h3 := X.same.trans h2
    rw [List.append_nil] at h3
    exact h3.mono hc hs
  refine ⟨U, ?_, .threw T.heap.size, hrun, hend, Or.inr ⟨T.heap.size, rfl, cls, ce, locs, hx U hWs.alike f1 (fun q hq => f2 q hq (fun z hz => nomatch hz)), hce, hO.vm, hcl, hWs, hall, hf⟩⟩
  refine st1 _ ?_
  show Steps p.tables e below (T1.setTop { method := m, pc := pc + 3, locals := ls, stack := .ref T.heap.size :: rest, locked := none }) _
  jvm_step X₁.here [X₁.here.top, hexec, d3', Value.category]
  exact hsteps
/-- 'throw new E("text")': new; dup; ldc; invokespecial; athrow -/
theorem vx_throwS {cc : ByteArray} {pc : Nat} (hexec : p.tables.exec = Jvm.exec) (hb : c.code = cc) (hl : l.stackTraces = false) {own cls text : String} {names : List String} {ik is ic mc ms sa : Nat} {A : Nat → Prop}
    (hown : s.vm.findClass own = some m.cls) (hcls : Bundle.fit cls = true) (hnames : ∀ n ∈ names, Bundle.fit n = true)
    (hk : (Cond.classLink own ik cls).before args s = true) (hini : (Cond.initialized cls).before args s = true) (hstr : vk_R own is text sa s) (hat : ∀ w ∈ vx_atS own ic cls names, w.before args s = true)
    (hgood : ∀ w ∈ Cond.classLink own ik cls :: Cond.initialized cls :: vx_atS own ic cls names, vx_ot w = true)
    (hU : vx_Zq Bundle.tN "UNASSIGNED_STACK" Bundle.steD A s s.heap) (hN : vx_Zq Bundle.tN "SUPPRESSED_SENTINEL" Bundle.listD A s s.heap) (hS : va_S A s.heap H locs) (hsize : ls.size = c.maxLocals)
    (d0 : decode cc pc = .ok (.new ik, 3)) (d3 : decode cc (pc + 3) = .ok (.dup, 1)) (d4 : decode cc (pc + 4) = .ok (.ldc is, 2)) (d6 : decode cc (pc + 6) = .ok (.invokespecial ic, 3)) (d9 : decode cc (pc + 9) = .ok (.athrow, 1))
    (hout : ∀ x ∈ c.exceptionTable.toList, covers x (pc + 9) = false)
    (hRframes : names.length + 3 < R.frames) (hRlocals : (rest.map fun v => v.category).sum + (13 * (names.length + 1) + 43) ≤ R.locals) (hRcells : cells + 1 ≤ R.cells) (hRslots : slots + 6 ≤ R.slots) (hlocks : meth.locks = false)
    (hx : ∀ t : State, s.vm.Alike t.vm → H.size ≤ t.heap.size → (∀ q : Nat, q < H.size → t.heap[q]? = H[q]?) → XC cls s t)
    (hf : ∀ z ∈ locs, free z.base) (hc : cells + 1 ≤ mc) (hs : slots + 6 ≤ ms) :
    W p l e R s m args below meth c H locs cells slots (vx_MQ below Qc XC args s mc ms free) (F0 m pc ls rest) := by
  intro T hT X
  have htr : e.platform.stackTraces = false := (show e.platform.stackTraces = l.stackTraces by rw [X.admits.platform]).trans hl
  have Y := vx_rebase X (R' := { frames := R.frames, locals := R.locals, cells := 1, slots := 6 }) (Nat.le_refl _) (Nat.le_refl _) hRcells hRslots
  obtain ⟨s', hA⟩ : ∃ z, z = (T.setVm s.vm).setFrames (.invoking m args :: below) := ⟨_, rfl⟩
  rw [← hA] at Y
  have hvm : s'.vm = s.vm := by rw [hA]; rfl
  have hhp : s'.heap = H := by rw [hA]; exact hT
  have hW0 : s.WarmedH s'.vm := by rw [hvm]; exact State.WarmedH.refl s
  have hat' : ∀ w ∈ vx_atS own ic cls names, w.before args s' = true := fun w hw => vx_ot_at hW0 hvm.symm (hgood w (List.mem_cons_of_mem _ (List.mem_cons_of_mem _ hw))) (hat w hw)
  have hk' : (Cond.classLink own ik cls).before args s' = true := vx_ot_at hW0 hvm.symm (hgood _ List.mem_cons_self) hk
  have hini' : (Cond.initialized cls).before args s' = true := vx_ot_at hW0 hvm.symm (hgood _ (List.mem_cons_of_mem _ List.mem_cons_self)) hini
  have hU' : vx_Zq Bundle.tN "UNASSIGNED_STACK" Bundle.steD A s' s'.heap := by rw [hhp]; exact vx_Zq.moved hW0.alike (hU.kept hS.2.1)
  have hN' : vx_Zq Bundle.tN "SUPPRESSED_SENTINEL" Bundle.listD A s' s'.heap := by rw [hhp]; exact vx_Zq.moved hW0.alike (hN.kept hS.2.1)
  have h : ∀ w ∈ Bundle.ownAtoms own ic cls names, w.before args s' = true := vx_own hat' (vx_isRefq hU'.1) (vx_isRefq hN'.1) hU'.2.word hN'.2.word
  have hown' : s'.vm.findClass own = some m.cls := by rw [hvm]; exact hown
  have hins : (Cond.instantiable cls 6).before args s' = true := h _ (by simp [Bundle.ownAtoms])
  obtain ⟨vm₁, cX, kX, hfX, hkX, -, -, X₁, st1⟩ := Y.newCold hexec (own := own) (C := cls) (index := ik) (n := 6) hown' hk' hins hini'
    (g := F0 m pc ls rest) rfl (by rw [hb]; exact d0) (Nat.le_refl _) (Nat.le_refl _)
  generalize hT1 : (T.setVm vm₁).pushCell { cls := cX, slots := kX.instanceTypes.map defaultValue, vm := .none } = T1 at X₁ st1
  have hcat : (Value.ref T.heap.size).category = 1 := rfl
  have hcellA : T1.heap[T.heap.size]? = some (freshCell cX kX) := by rw [← hT1]; exact State.heap_pushCell_size _ _
  have d3' : decode c.code (pc + 3) = .ok (.dup, 1) := by rw [hb]; exact d3
  have d4' : decode c.code (pc + 4) = .ok (.ldc is, 2) := by rw [hb]; exact d4
  have hstr' : vk_R own is text sa s' := vk_R.warm hW0 hstr
  obtain ⟨U, hsteps, hrun, hend, hW, hsame, ce, hce, hO⟩ := X₁.ctorThrowS hexec htr (own := own) (cls := cls) (names := names) (ic := ic) hown' hcls hnames h (fun x hx => nomatch hx) hfX hkX hcellA (by rw [hhp, hT]; exact Nat.le_refl _) (msg := .ref sa) rfl
    (g := { method := m, pc := pc + 6, locals := ls, stack := .ref sa :: .ref T.heap.size :: .ref T.heap.size :: rest, locked := none }) rfl hsize rfl rfl (rest := rest) rfl
    (by rw [hb]; exact d6) (by rw [hb]; exact d9) hout hRframes (by simp only [List.map_cons, List.sum_cons, hcat]; omega) hlocks
  obtain ⟨f1, f2⟩ := vx_frame hsame
  rw [hhp] at f1 f2
  have hWs : s.WarmedH U.vm := State.WarmedH.trans hW0 hW
  have hcl : s.vm.findClass cls = some ce.cls := by
    have h9 := hO.cls
    rw [hvm] at h9
    exact h9
  have hall : s.sameButNew ({ U with vm := s.vm } : State) locs mc ms := by
    subst hA
    obtain ⟨e1, e2⟩ := hsame
    rw [State.setFrames_setFrames] at e1
    have h2 : (T.setVm s.vm).sameButNew ({ U with vm := s.vm } : State) [] (0 + 1) (0 + 6) := ⟨e1, e2⟩
    have h3 := X.same.trans h2
    rw [List.append_nil] at h3
    exact h3.mono hc hs
  refine ⟨U, ?_, .threw T.heap.size, hrun, hend, Or.inr ⟨T.heap.size, rfl, cls, ce, locs, hx U hWs.alike f1 (fun q hq => f2 q hq (fun z hz => nomatch hz)), hce, hO.vm, hcl, hWs, hall, hf⟩⟩
  refine st1 _ ?_
  show Steps p.tables e below (T1.setTop { method := m, pc := pc + 3, locals := ls, stack := .ref T.heap.size :: rest, locked := none }) _
  jvm_step X₁.here [X₁.here.top, hexec, d3', Value.category]
  exact X₁.ldcString hexec (own := own) (text := text) (index := is) (a := sa) hown' hstr'.1 hstr'.2
    (g := { method := m, pc := pc + 4, locals := ls, stack := .ref T.heap.size :: .ref T.heap.size :: rest, locked := none }) rfl d4' _ hsteps
/-- 'throw new E("text")', the text by a wide index -/
theorem vx_throwSW {cc : ByteArray} {pc : Nat} (hexec : p.tables.exec = Jvm.exec) (hb : c.code = cc) (hl : l.stackTraces = false) {own cls text : String} {names : List String} {ik is ic mc ms sa : Nat} {A : Nat → Prop}
    (hown : s.vm.findClass own = some m.cls) (hcls : Bundle.fit cls = true) (hnames : ∀ n ∈ names, Bundle.fit n = true)
    (hk : (Cond.classLink own ik cls).before args s = true) (hini : (Cond.initialized cls).before args s = true) (hstr : vk_R own is text sa s) (hat : ∀ w ∈ vx_atS own ic cls names, w.before args s = true)
    (hgood : ∀ w ∈ Cond.classLink own ik cls :: Cond.initialized cls :: vx_atS own ic cls names, vx_ot w = true)
    (hU : vx_Zq Bundle.tN "UNASSIGNED_STACK" Bundle.steD A s s.heap) (hN : vx_Zq Bundle.tN "SUPPRESSED_SENTINEL" Bundle.listD A s s.heap) (hS : va_S A s.heap H locs) (hsize : ls.size = c.maxLocals)
    (d0 : decode cc pc = .ok (.new ik, 3)) (d3 : decode cc (pc + 3) = .ok (.dup, 1)) (d4 : decode cc (pc + 4) = .ok (.ldc_w is, 3)) (d7 : decode cc (pc + 7) = .ok (.invokespecial ic, 3)) (d10 : decode cc (pc + 10) = .ok (.athrow, 1))
    (hout : ∀ x ∈ c.exceptionTable.toList, covers x (pc + 10) = false)
    (hRframes : names.length + 3 < R.frames) (hRlocals : (rest.map fun v => v.category).sum + (13 * (names.length + 1) + 43) ≤ R.locals) (hRcells : cells + 1 ≤ R.cells) (hRslots : slots + 6 ≤ R.slots) (hlocks : meth.locks = false)
    (hx : ∀ t : State, s.vm.Alike t.vm → H.size ≤ t.heap.size → (∀ q : Nat, q < H.size → t.heap[q]? = H[q]?) → XC cls s t)
    (hf : ∀ z ∈ locs, free z.base) (hc : cells + 1 ≤ mc) (hs : slots + 6 ≤ ms) :
    W p l e R s m args below meth c H locs cells slots (vx_MQ below Qc XC args s mc ms free) (F0 m pc ls rest) := by
  intro T hT X
  have htr : e.platform.stackTraces = false := (show e.platform.stackTraces = l.stackTraces by rw [X.admits.platform]).trans hl
  have Y := vx_rebase X (R' := { frames := R.frames, locals := R.locals, cells := 1, slots := 6 }) (Nat.le_refl _) (Nat.le_refl _) hRcells hRslots
  obtain ⟨s', hA⟩ : ∃ z, z = (T.setVm s.vm).setFrames (.invoking m args :: below) := ⟨_, rfl⟩
  rw [← hA] at Y
  have hvm : s'.vm = s.vm := by rw [hA]; rfl
  have hhp : s'.heap = H := by rw [hA]; exact hT
  have hW0 : s.WarmedH s'.vm := by rw [hvm]; exact State.WarmedH.refl s
  have hat' : ∀ w ∈ vx_atS own ic cls names, w.before args s' = true := fun w hw => vx_ot_at hW0 hvm.symm (hgood w (List.mem_cons_of_mem _ (List.mem_cons_of_mem _ hw))) (hat w hw)
  have hk' : (Cond.classLink own ik cls).before args s' = true := vx_ot_at hW0 hvm.symm (hgood _ List.mem_cons_self) hk
  have hini' : (Cond.initialized cls).before args s' = true := vx_ot_at hW0 hvm.symm (hgood _ (List.mem_cons_of_mem _ List.mem_cons_self)) hini
  have hU' : vx_Zq Bundle.tN "UNASSIGNED_STACK" Bundle.steD A s' s'.heap := by rw [hhp]; exact vx_Zq.moved hW0.alike (hU.kept hS.2.1)
  have hN' : vx_Zq Bundle.tN "SUPPRESSED_SENTINEL" Bundle.listD A s' s'.heap := by rw [hhp]; exact vx_Zq.moved hW0.alike (hN.kept hS.2.1)
  have h : ∀ w ∈ Bundle.ownAtoms own ic cls names, w.before args s' = true := vx_own hat' (vx_isRefq hU'.1) (vx_isRefq hN'.1) hU'.2.word hN'.2.word
  have hown' : s'.vm.findClass own = some m.cls := by rw [hvm]; exact hown
  have hins : (Cond.instantiable cls 6).before args s' = true := h _ (by simp [Bundle.ownAtoms])
  obtain ⟨vm₁, cX, kX, hfX, hkX, -, -, X₁, st1⟩ := Y.newCold hexec (own := own) (C := cls) (index := ik) (n := 6) hown' hk' hins hini'
    (g := F0 m pc ls rest) rfl (by rw [hb]; exact d0) (Nat.le_refl _) (Nat.le_refl _)
  generalize hT1 : (T.setVm vm₁).pushCell { cls := cX, slots := kX.instanceTypes.map defaultValue, vm := .none } = T1 at X₁ st1
  have hcat : (Value.ref T.heap.size).category = 1 := rfl
  have hcellA : T1.heap[T.heap.size]? = some (freshCell cX kX) := by rw [← hT1]; exact State.heap_pushCell_size _ _
  have d3' : decode c.code (pc + 3) = .ok (.dup, 1) := by rw [hb]; exact d3
  have d4' : decode c.code (pc + 4) = .ok (.ldc_w is, 3) := by rw [hb]; exact d4
  have hstr' : vk_R own is text sa s' := vk_R.warm hW0 hstr
  obtain ⟨U, hsteps, hrun, hend, hW, hsame, ce, hce, hO⟩ := X₁.ctorThrowS hexec htr (own := own) (cls := cls) (names := names) (ic := ic) hown' hcls hnames h (fun x hx => nomatch hx) hfX hkX hcellA (by rw [hhp, hT]; exact Nat.le_refl _) (msg := .ref sa) rfl
    (g := { method := m, pc := pc + 7, locals := ls, stack := .ref sa :: .ref T.heap.size :: .ref T.heap.size :: rest, locked := none }) rfl hsize rfl rfl (rest := rest) rfl
    (by rw [hb]; exact d7) (by rw [hb]; exact d10) hout hRframes (by simp only [List.map_cons, List.sum_cons, hcat]; omega) hlocks
  obtain ⟨f1, f2⟩ := vx_frame hsame
  rw [hhp] at f1 f2
  have hWs : s.WarmedH U.vm := State.WarmedH.trans hW0 hW
  have hcl : s.vm.findClass cls = some ce.cls := by
    have h9 := hO.cls
    rw [hvm] at h9
    exact h9
  have hall : s.sameButNew ({ U with vm := s.vm } : State) locs mc ms := by
    subst hA
    obtain ⟨e1, e2⟩ := hsame
    rw [State.setFrames_setFrames] at e1
    have h2 : (T.setVm s.vm).sameButNew ({ U with vm := s.vm } : State) [] (0 + 1) (0 + 6) := ⟨e1, e2⟩
    have h3 := X.same.trans h2
    rw [List.append_nil] at h3
    exact h3.mono hc hs
  refine ⟨U, ?_, .threw T.heap.size, hrun, hend, Or.inr ⟨T.heap.size, rfl, cls, ce, locs, hx U hWs.alike f1 (fun q hq => f2 q hq (fun z hz => nomatch hz)), hce, hO.vm, hcl, hWs, hall, hf⟩⟩
  refine st1 _ ?_
  show Steps p.tables e below (T1.setTop { method := m, pc := pc + 3, locals := ls, stack := .ref T.heap.size :: rest, locked := none }) _
  jvm_step X₁.here [X₁.here.top, hexec, d3', Value.category]
  exact X₁.ldcStringW hexec (own := own) (text := text) (index := is) (a := sa) hown' hstr'.1 hstr'.2
    (g := { method := m, pc := pc + 4, locals := ls, stack := .ref T.heap.size :: .ref T.heap.size :: rest, locked := none }) rfl d4' _ hsteps
end Ends
section Bodies
variable {l : Launch}
theorem vx_ofW {y : MethodName} {ws ws' : List Cond} {rm : Room} {Pc : Array Value → State → Prop} {Qc : Array Value → State → Outcome → State → Prop} {XC : String → State → State → Prop} {mc ms : Nat} {free : Addr → Prop} {cc : ByteArray} {maxL : Nat} {ret : Option FieldType}
    (hy : plainName y.cls = true) (hw : ws = Cond.code y cc maxL ret :: ws')
    (body : ∀ p e s m args below meth c s₁, BodyLoose p l y (headSpec ws rm) cc maxL ret e s m args below meth c s₁ → c.maxLocals = maxL → (∀ x ∈ c.exceptionTable.toList, False) → Pc args s →
      W p l e (headSpec ws rm).room s m args below meth c s.heap [] 0 0 (vx_MQ below Qc XC args s mc ms free) (entryFrame m args maxL)) : vx_Met l y ws rm Pc Qc XC mc ms free := by
  refine MetFree.of_bodyS (code := cc) (maxLocals := maxL) (ret := ret) hy ?_ ?_
  · intro args s m h hn
    obtain ⟨meth, c, h1, h2, h3, h4, h5, h6, -, -⟩ := Cond.code_spec hn (atoms_spec (ws := ws) h _ (by rw [hw]; exact List.mem_cons_self))
    exact ⟨meth, c, h1, h2, h3, h4, h5, h6⟩
  · intro p e s m args below meth c s₁ B hml hP _
    have hh0 : s₁.heap = s.heap := by rw [B.state]; rfl
    have ht : ∀ x ∈ c.exceptionTable.toList, False := by
      obtain ⟨meth9, c9, h1, h2, -, -, -, -, h7, -⟩ := Cond.code_spec B.named (atoms_spec (ws := ws) B.pre _ (by rw [hw]; exact List.mem_cons_self))
      cases Option.some.inj (h1.symm.trans B.method)
      cases Option.some.inj (h2.symm.trans (Stand.of_body B).code)
      intro x hx
      rw [Array.isEmpty_iff.mp h7] at hx
      cases hx
    obtain ⟨t, a1, o, b1, b2, b3⟩ := body p e s m args below meth c s₁ B hml ht hP s₁ hh0 (Stand.of_body B)
    exact ⟨t, o, a1, b1, b2, b3⟩
/-- the table of a body with handlers -/
theorem vx_table {p : Program} {x y : MethodName} {S : Spec} {cc bytes : ByteArray} {maxL maxL' : Nat} {ret ret' : Option FieldType} {e : Env} {s s₁ : State} {m : MethodId} {args : Array Value} {below : List Frame} {meth : Method} {c : Code} {hh : List (Nat × Nat × Nat × Nat)}
    (B : BodyLoose p l y S cc maxL ret e s m args below meth c s₁) (h : (Cond.codeWith y bytes maxL' ret' hh).before args s = true) : c.exceptionTable.toList = tableOf hh := by
  obtain ⟨m9, meth9, c9, hn9, h1, h2, -, -, h6, -⟩ := Cond.codeWith_spec h
  cases Option.some.inj (hn9.symm.trans B.named)
  cases Option.some.inj (h1.symm.trans B.method)
  cases Option.some.inj (h2.symm.trans (Stand.of_body B).code)
  rw [← h6, table_eq]
end Bodies
end VXA
/-! ===== END ===== -/
/-! ===== BEGIN a static call of a method with an exception table ===== -/
section VXS
variable {p : Program} {l : Launch} {e : Env} {R : Room} {s : State} {m : MethodId} {args : Array Value} {below : List Frame} {meth : Method} {c : Code} {T : State} {H : Heap} {locs : List Loc} {cells slots : Nat}
abbrev vx_CSW (R : Room) (s : State) (args : Array Value) (own : String) (index : Nat) (y : MethodName) (bytes : ByteArray) (maxL : Nat) (ret : Option FieldType) (hh : List (Nat × Nat × Nat × Nat)) (ws : List Cond) (rm : Room) (mc ms n : Nat) : Prop :=
  (rm.cells = mc ∧ rm.slots = ms ∧ rm.frames + 1 ≤ R.frames ∧ 8 + (maxL + 11) + rm.locals ≤ R.locals ∧ (∀ w ∈ ws, ∀ (a' : Array Value) (U : State), s.WarmedH U.vm → w.before a' U = true) ∧ Cond.codeWith y bytes maxL ret hh ∈ ws) ∧
  (Cond.codeWith y bytes maxL ret hh).before args s = true ∧ (Cond.initialized y.cls).before args s = true ∧ (y.cls ≠ "java/lang/invoke/MethodHandle" ∧ y.cls ≠ "java/lang/invoke/VarHandle") ∧
  (∀ sig, parseMethodDescriptor y.desc = some sig → n = sig.parameters.length) ∧ (Cond.methodLink own index y).before args s = true ∧ (Cond.static y).before args s = true
theorem vx_cwSW {own : String} {index maxL mc ms : Nat} {y : MethodName} {bytes : ByteArray} {ret : Option FieldType} {hh : List (Nat × Nat × Nat × Nat)} {Ts ws ws' : List Cond} {rm : Room} (n : Nat) (ht : ∀ w ∈ Ts, w.before args s = true) (hT : GoodIn Ts (va_wsS own index y ws)) (hw : ws = Cond.codeWith y bytes maxL ret hh :: ws') (hrc : rm.cells = mc) (hrs : rm.slots = ms)
    (hd : y.cls ≠ "java/lang/invoke/MethodHandle" ∧ y.cls ≠ "java/lang/invoke/VarHandle" ∧ (parseMethodDescriptor y.desc).map (fun d => d.parameters.length) = some n) (hR : rm.frames + 1 ≤ R.frames ∧ 8 + (maxL + 11) + rm.locals ≤ R.locals) :
    vx_CSW R s args own index y bytes maxL ret hh ws rm mc ms n := by
  have ok : ∀ w ∈ va_wsS own index y ws, w.before args s = true := fun w h => ht w (hT w h).1
  have hG : GoodIn Ts ws := fun w h => hT w (by unfold va_wsS; exact List.mem_append_right _ h)
  have hc : Cond.codeWith y bytes maxL ret hh ∈ ws := by rw [hw]; exact List.mem_cons_self
  refine ⟨⟨hrc, hrs, hR.1, hR.2, pay_in ht hG, hc⟩, ht _ (hG _ hc).1, ok _ (by simp [va_wsS]), ⟨hd.1, hd.2.1⟩, fun sig h => ?_, ok _ (by simp [va_wsS]), ok _ (by simp [va_wsS])⟩
  have h2 := hd.2.2
  rw [h] at h2
  exact (Option.some.inj h2).symm
theorem vx_callSW (X : Stand p l e R s m args below meth c T locs cells slots) (hexec : p.tables.exec = Jvm.exec) {own : String} {index : Nat} {y : MethodName} {bytes : ByteArray} {maxL : Nat} {ret : Option FieldType} {hh : List (Nat × Nat × Nat × Nat)}
    (hown : s.vm.findClass own = some m.cls) (hlink : (Cond.methodLink own index y).before args s = true) (hstat : (Cond.static y).before args s = true) (hinit : (Cond.initialized y.cls).before args s = true)
    (hcode : (Cond.codeWith y bytes maxL ret hh).before args s = true) (hy : y.cls ≠ "java/lang/invoke/MethodHandle" ∧ y.cls ≠ "java/lang/invoke/VarHandle")
    {W9 : Nat} {Pre : Pt → Array Value → Prop} {Post : Pt → Array Value → Option Value → Pt → Prop} (hK : Back l R p e below s args y 3 W9 Pre Post)
    {g : JFrame} (hg : g.method = m) (hsize : g.locals.size = c.maxLocals) {argsL rest : List Value} (hlen : ∀ sig, parseMethodDescriptor y.desc = some sig → argsL.length = sig.parameters.length)
    (hstack : g.stack = argsL.reverse ++ rest) (hW : 2 * g.monitorRoom + (rest.map fun v => v.category).sum ≤ W9) (hdg : decode c.code g.pc = .ok (.invokestatic index, 3))
    (hpre : ∀ vm₁, s.WarmedH vm₁ → Pre ⟨T.setVm vm₁, locs, cells, slots⟩ argsL.toArray) :
    ∃ (v : Option Value) (vm₁ : Vm) (B : Pt), s.WarmedH vm₁ ∧ Stand p l e R s m args below meth c B.U B.locs B.cells B.slots ∧ Post ⟨T.setVm vm₁, locs, cells, slots⟩ argsL.toArray v B ∧
      ∀ target, Steps p.tables e below (B.U.setTop { g with pc := g.pc + 3, stack := v.toList ++ rest }) target → Steps p.tables e below (T.setTop g) target := by
  obtain ⟨mk, methM, cM, hnamed, hmethM, -, -, -, -, -, -, hsigM⟩ := Cond.codeWith_spec hcode
  have hstatic : methM.isStatic = true := Cond.static_spec hnamed hmethM hstat
  obtain ⟨kP, hkP, -⟩ := className_of_methodNamed hnamed
  have hinitP : kP.init = .initialized := Cond.initialized_spec (findClass_of_methodNamed hnamed) hkP hinit
  obtain ⟨vm₁, X₁, hstep₁⟩ := X.invokestatic hexec hown hlink hnamed hmethM hstatic hkP hinitP hy (g := g) hg (argsL := argsL) (rest := rest) (hlen _ hsigM) hstack hdg
  obtain ⟨v, B, X', hpost, hsteps⟩ := hK m meth c ⟨T.setVm vm₁, locs, cells, slots⟩ { g with stack := rest } (.invokestatic index) mk argsL.toArray X₁ hg hsize hdg hW (X₁.named hnamed) (hpre vm₁ X₁.warmed)
  exact ⟨v, vm₁, B, X₁.warmed, X', hpost, fun target h => hstep₁ _ fun acts => by rw [doInvoke_state]; exact hsteps.trans h⟩
theorem vx_runSW {y : MethodName} {bytes cc : ByteArray} {maxL nL mc ms n index : Nat} {ret : Option FieldType} {hh : List (Nat × Nat × Nat × Nat)} {ws : List Cond} {rm : Room} {Pc : Array Value → State → Prop} {Qc : Array Value → State → Outcome → State → Prop} {free : Addr → Prop} {Ts : List Cond} {own : String} {As rest : List Value} {g : JFrame}
    (S : CallFix p m c cc nL s args Ts own) (hM : Met l y ws rm Pc Qc mc ms free) (cw : vx_CSW R s args own index y bytes maxL ret hh ws rm mc ms n) (hp : PreS s H Pc As)
    (hg : g.method = m) (hn : As.length = n) (hsize : g.locals.size = nL) (hstack : g.stack = As.reverse ++ rest) (hW : 2 * g.monitorRoom + (rest.map fun v => v.category).sum ≤ 8) (hdg : decode cc g.pc = .ok (.invokestatic index, 3)) (hf : cells + mc ≤ R.cells ∧ slots + ms ≤ R.slots) :
    va_Run p l e R s m args below meth c H locs cells slots mc ms g rest (Qc As.toArray) (free) := by
  obtain ⟨⟨hrc, hrs, hfr, hlo, hws, hcw⟩, hcode, hini, hy, hlen, hl, hstt⟩ := cw
  have hK : Back l R p e below s args y 3 8 (PreOf R mc ms Pc) (PostOf Qc mc ms free) := va_backW (hh := hh) (bytes := bytes) (maxL := maxL) (ret := ret) hM hp.1 hrc hrs hfr hlo hws hcw (fun a' U hW => word_at hW (Or.inl (by first | rfl | simp [Cond.onTables, Cond.keeps, Cond.steady])) hini)
  obtain ⟨hx, hb, hml, ho, -⟩ := S
  intro T hT X
  obtain ⟨v, vm₁, ⟨U', l2, c2, s2⟩, hW₁, X', ⟨g', mk, t, L, e1, e2, hq, h1, hL, h2, h3⟩, st⟩ := vx_callSW X hx (hh := hh) (bytes := bytes) (maxL := maxL) (ret := ret) ho hl hstt hini hcode hy hK hg (hsize.trans hml.symm) (argsL := As) (rest := rest) (fun sig h => hn.trans (hlen sig h)) hstack hW (by rw [hb]; exact hdg)
    (fun vm₁ hW₁ => ⟨hf.1, hf.2, hp.2 (T.setVm vm₁) hT hW₁⟩)
  dsimp only [Pt.U, Pt.locs, Pt.cells, Pt.slots] at X' e1 e2 h1 h2 h3 st
  subst h1; subst h2; subst h3
  exact ⟨v, (T.setVm vm₁).calling g' mk As.toArray, t, U', L, hT, X', hL, e1, e2, hq, st⟩
/-- not caught here, past rows that name other classes: it goes on to the caller -/
theorem vx_outP {p : Program} {l : Launch} {e : Env} {R : Room} {s : State} {m : MethodId} {args : Array Value} {below : List Frame} {meth : Method} {c : Code} {H : Heap} {locs : List Loc} {cells slots : Nat} {free : Addr → Prop} {ls : Array Slot} {rest : List Value} {Qc : Array Value → State → Outcome → State → Prop} {XC : String → State → State → Prop}
    {pc : Nat} {own E : String} {ce : Cell} {q : Addr} {mc ms : Nat} (hown : s.vm.findClass own = some m.cls) (hlocks : meth.locks = false)
    (hpass : ∀ z ∈ c.exceptionTable.toList, covers z pc = false ∨ (z.catchType ≠ 0 ∧ ∃ nm : String, (Cond.classLink own z.catchType nm).before args s = true ∧ va_Nc E nm s)) (hcell : H[q]? = some ce) (hv : ce.vm = .none) (hcl : s.vm.findClass E = some ce.cls)
    (hx : ∀ t : State, t.heap = H → s.vm.Alike t.vm → XC E s t) (hf : ∀ z ∈ locs, free z.base) (hc : cells ≤ mc) (hs : slots ≤ ms) :
    vx_W p l e R s m args below meth c H locs cells slots (vx_MQ below Qc XC args s mc ms free) (F0 m pc ls rest) q := by
  intro T hT X
  have hpl : e.platform.magicAccessors = ({} : Platform).magicAccessors := by rw [X.admits.platform]
  obtain ⟨vm', hW', X', st⟩ := X.outThrough hlocks q (g := F0 m pc ls rest) rfl rfl rfl (cell := ce) (by rw [hT]; exact hcell) (by rw [hv]; rfl)
    (by obtain ⟨k9, h9, -⟩ := Vm.findClass_spec hcl; exact ⟨k9, h9⟩) (fun z hz => by
      rcases hpass z hz with h | ⟨hz0, nm, hl1, hn1⟩
      · exact Or.inl h
      · obtain ⟨c6, hc6, hcl6⟩ := Cond.classLink_spec hown hl1 e.platform hpl
        obtain ⟨a8, b8, h1, h2, h3⟩ := hn1
        cases Option.some.inj (h1.symm.trans hcl)
        cases Option.some.inj (h2.symm.trans hc6)
        exact Or.inr ⟨hz0, _, hcl6, h3⟩)
  obtain ⟨g₀, hfr⟩ := X'.frames_eq
  have hcell9 : ((T.setVm vm').setFrames (.throwing q :: below)).heap[q]? = some ce := by
    show T.heap[q]? = some ce
    rw [hT]; exact hcell
  have hend : Ended ((T.setVm vm').setFrames (.throwing q :: below)) below (.threw q) := State.frames_setFrames _ (State.cur_lt_of_frames hfr)
  refine ⟨(T.setVm vm').setFrames (.throwing q :: below), ?_, .threw q, X'.here.running, hend, Or.inr ⟨q, rfl, E, ce, locs, hx _ hT (X'.ends _).1.alike, hcell9, hv, hcl, (X'.ends _).1, (X'.ends _).2.mono hc hs, hf⟩⟩
  rw [X.pushThrowing_eq]
  exact st
/-- a thing of a world lies in the heap -/
theorem vx_lt {D : va_G} {cl : List vw_C} {ws : va_W} {H1 : Heap} (h : va_P D cl ws H1) {k : Nat} {q : Nat × va_E} (hk : ws[k]? = some q) : q.1 < H1.size := (h k q hk).lt
end VXS
/-! ===== END ===== -/
/-! ===== BEGIN methods with a table of their own: called by a name, returning or throwing ===== -/
section VXH
/-! vx_backW, vx_callVX, vx_callSX, vx_callVW, vx_runVW, vx_runVX, vx_runSX, vx_ofWH follow the same proofs as their sisters above (Free/Laws.lean, Shelf42/LK1.lean); vx_outP calls Shelf42/NT130.lean (outThrough). -/
section
variable {l : Launch} {R : Room} {p : Program} {e : Env} {below : List Frame} {s : State} {sargs : Array Value} {y : MethodName} {len W9 : Nat}
theorem vx_backW {ws : List Cond} {rm : Room} {Pc : Array Value → State → Prop} {Qc : Array Value → State → Outcome → State → Prop} {XC : String → State → State → Prop} {mc ms : Nat} {free : Addr → Prop} {bytes : ByteArray} {maxL : Nat} {ret : Option FieldType} {hh : List (Nat × Nat × Nat × Nat)}
    (hM : vx_Met l y ws rm Pc Qc XC mc ms free) (hblind : FrameBlind Pc) (hrc : rm.cells = mc) (hrs : rm.slots = ms)
    (hframes : rm.frames + 1 ≤ R.frames) (hlocals : W9 + (maxL + 11) + rm.locals ≤ R.locals)
    (hws : ∀ w ∈ ws, ∀ a' U, s.WarmedH U.vm → w.before a' U = true) (hcode : Cond.codeWith y bytes maxL ret hh ∈ ws) (hinit : ∀ a' U, s.WarmedH U.vm → (Cond.initialized y.cls).before a' U = true) :
    vx_Back l R p e below s sargs y len W9 (PreOf R mc ms Pc) (PostOf Qc mc ms free) (vx_Post XC mc ms free) := by
  intro m meth c A g ig mk a X hg hsize hdg hW hn hp
  have h1 : (headSpec ws rm).pre.before a A.U = true := atoms_intro fun w hw => hws w hw _ _ X.warmed
  have h2 : (Cond.codeWith y bytes maxL ret hh).before a A.U = true := hws _ hcode _ _ X.warmed
  have h3 : (Cond.initialized y.cls).before a A.U = true := hinit _ _ X.warmed
  have h4 : A.cells + (headSpec ws rm).room.cells ≤ R.cells := by rw [show (headSpec ws rm).room.cells = mc from hrc]; exact hp.1
  have h5 : A.slots + (headSpec ws rm).room.slots ≤ R.slots := by rw [show (headSpec ws rm).room.slots = ms from hrs]; exact hp.2.1
  have hPc : Pc a (A.U.calling g mk a) := hblind _ _ _ _ hp.2.2
  obtain ⟨U, Ls, c0, s0⟩ := A
  dsimp only [Pt.U, Pt.locs, Pt.cells, Pt.slots] at h1 h2 h3 h4 h5 X hn hPc ⊢
  obtain ⟨m9, methY, cY, hn9, hmY, hcY, -, hlY, -⟩ := Cond.codeWith_spec h2
  cases Option.some.inj (hn9.symm.trans hn)
  obtain ⟨kY, hkY, -⟩ := className_of_methodNamed hn
  have hinitY : kY.init = .initialized := Cond.initialized_spec (findClass_of_methodNamed hn) hkY h3
  have h : At U g.method c below := by rw [hg]; exact X.here
  have hlocals9 : W9 + (maxL + 11) + (headSpec ws rm).room.locals ≤ R.locals := hlocals
  have happ : (headSpec ws rm).appliesLoose y e.platform (U.calling g mk a) = true :=
    Spec.appliesLoose_calling (g := g) h hdg hn hkY hinitY
      (X.room_calling (g := g) (R' := (headSpec ws rm).room) hsize hmY hcY hframes (by rw [hlY]; omega) h4 h5) h1
  obtain ⟨mid, hmid⟩ := h.above
  have hfr : (U.setTop g).frames = (.java g :: mid) ++ below := by rw [State.frames_setTop' g h.top, hmid]; rfl
  obtain ⟨o, s₂, hsteps, -, hend, hq⟩ := Steps.callFree hM p X.admits X.cas X.clock (acts := []) hfr happ hPc trivial
  have hq' : vx_Q Qc XC mc ms free a (U.calling g mk a) o s₂ := hq
  rw [State.frames_setTop' g h.top] at hend
  obtain ⟨g₀, hg0⟩ := Option.isSome_iff_exists.mp h.top
  obtain ⟨r, hr⟩ := State.topJava?_eq_some.mp hg0
  have hr' : (({ U with heap := s₂.heap, slotsUsed := s₂.slotsUsed } : State).setVm s₂.vm).frames = .java g₀ :: r := hr
  rcases hq' with ⟨hqc, L, hfe, hL⟩ | ⟨q, rfl, E, ce, L, hx, hce, hcv, hcl, hW₂, hsm, hL⟩
  · obtain ⟨⟨v, rfl⟩, hW₂, e2, q2, q3, q4, q5, q6⟩ := id hfe
    have e3 : s₂ = ({ (U.calling g mk a).setFrames s₂.frames with heap := s₂.heap, slotsUsed := s₂.slotsUsed } : State).setVm s₂.vm := by
      have : s₂ = ({ s₂ with vm := (U.calling g mk a).vm } : State).setVm s₂.vm := rfl
      rw [e2] at this
      exact this
    obtain ⟨c₂, i₂, len₂, hc₂, hd₂, hf₂⟩ := hend
    have hW' : U.WarmedH s₂.vm := hW₂
    have hcc : c₂ = c := by
      have h1 : s₂.code? g.method = U.code? g.method := by
        rw [State.code?_eq, State.code?_eq, hW'.alike.method?]
      exact Option.some.inj (hc₂.symm.trans (h1.trans h.code))
    subst hcc
    have hlen : len₂ = len := by rw [hdg] at hd₂; cases hd₂; rfl
    subst hlen
    have hs₂ : s₂ = (({ U with heap := s₂.heap, slotsUsed := s₂.slotsUsed } : State).setVm s₂.vm).setTop { g with pc := g.pc + len₂, stack := v.toList ++ g.stack } := by
      refine e3.trans ?_
      rw [hf₂, State.calling_eq h.top, State.setFrames_setFrames, State.setTop_of_frames _ hr', hr]
      rfl
    have hsame : U.sameButNew ({ U with heap := s₂.heap, slotsUsed := s₂.slotsUsed } : State) L mc ms := by
      refine ⟨?_, q2, q3, q4, q5, q6⟩
      obtain ⟨t, ht, -⟩ := State.frames_cons hr
      show ({ U with heap := s₂.heap, slotsUsed := s₂.slotsUsed } : State) = { U.setFrames U.frames with heap := s₂.heap, slotsUsed := s₂.slotsUsed }
      rw [State.setFrames_self ht]
    subst hg
    refine Or.inl ⟨v, ⟨(({ U with heap := s₂.heap, slotsUsed := s₂.slotsUsed } : State).setVm s₂.vm), Ls ++ L, c0 + mc, s0 + ms⟩,
      ⟨X.admits, X.cas, X.clock, X.frames, X.room, X.hears, X.method, X.code, (X.here.setHeapUsed s₂.heap s₂.slotsUsed).setVm hW'.alike, X.tail, State.WarmedH.trans X.warmed hW', X.limits, X.bytes, X.same.trans (hsame.setVm s.vm)⟩,
      ⟨g, mk, s₂, L, rfl, rfl, hqc, rfl, hL, rfl, rfl⟩, ?_⟩
    show Steps p.tables e below _ ((({ U with heap := s₂.heap, slotsUsed := s₂.slotsUsed } : State).setVm s₂.vm).setTop { g with pc := g.pc + len₂, stack := v.toList ++ g.stack })
    rw [← hs₂]
    exact hsteps
  · obtain ⟨e2, q2, q3, q4, q5, q6⟩ := id hsm
    have e3 : s₂ = ({ (U.calling g mk a).setFrames s₂.frames with heap := s₂.heap, slotsUsed := s₂.slotsUsed } : State).setVm s₂.vm := by
      have : s₂ = ({ s₂ with vm := (U.calling g mk a).vm } : State).setVm s₂.vm := rfl
      rw [e2] at this
      exact this
    have hf₂ : s₂.frames = .throwing q :: .java g :: U.frames.tail := hend
    have hW' : U.WarmedH s₂.vm := hW₂
    have hs₂ : s₂ = ((({ U with heap := s₂.heap, slotsUsed := s₂.slotsUsed } : State).setVm s₂.vm).setTop g).pushFrame (.throwing q) := by
      refine e3.trans ?_
      rw [hf₂, State.calling_eq h.top, State.setFrames_setFrames, State.pushFrame, State.frames_setTop _ hr', State.setTop_of_frames _ hr', State.setFrames_setFrames, hr]
      rfl
    have hsame : U.sameButNew ({ U with heap := s₂.heap, slotsUsed := s₂.slotsUsed } : State) L mc ms := by
      refine ⟨?_, q2, q3, q4, q5, q6⟩
      obtain ⟨t, ht, -⟩ := State.frames_cons hr
      show ({ U with heap := s₂.heap, slotsUsed := s₂.slotsUsed } : State) = { U.setFrames U.frames with heap := s₂.heap, slotsUsed := s₂.slotsUsed }
      rw [State.setFrames_self ht]
    subst hg
    refine Or.inr ⟨q, ⟨(({ U with heap := s₂.heap, slotsUsed := s₂.slotsUsed } : State).setVm s₂.vm), Ls ++ L, c0 + mc, s0 + ms⟩,
      ⟨X.admits, X.cas, X.clock, X.frames, X.room, X.hears, X.method, X.code, (X.here.setHeapUsed s₂.heap s₂.slotsUsed).setVm hW'.alike, X.tail, State.WarmedH.trans X.warmed hW', X.limits, X.bytes, X.same.trans (hsame.setVm s.vm)⟩,
      ⟨g, mk, s₂, L, E, ce, rfl, rfl, hx, hce, hcv, hcl, rfl, hL, rfl, rfl⟩, ?_⟩
    show Steps p.tables e below _ (((({ U with heap := s₂.heap, slotsUsed := s₂.slotsUsed } : State).setVm s₂.vm).setTop g).pushFrame (.throwing q))
    rw [← hs₂]
    exact hsteps
end
variable {p : Program} {l : Launch} {e : Env} {R : Room} {s : State} {m : MethodId} {args : Array Value} {below : List Frame} {meth : Method} {c : Code} {T : State} {H : Heap} {locs : List Loc} {cells slots : Nat}
theorem vx_callVX (X : Stand p l e R s m args below meth c T locs cells slots) (hexec : p.tables.exec = Jvm.exec) {own C : String} {index : Nat} {y : MethodName} {bytes : ByteArray} {maxL : Nat} {ret : Option FieldType} {hh : List (Nat × Nat × Nat × Nat)}
    (hown : s.vm.findClass own = some m.cls) (hlink : (Cond.methodLink own index y).before args s = true) (hinst : (Cond.instanceMethod y).before args s = true) (hsel : (Cond.selects C y y).before args s = true)
    (hcode : (Cond.codeWith y bytes maxL ret hh).before args s = true) (hy : y.cls ≠ "java/lang/invoke/MethodHandle" ∧ y.cls ≠ "java/lang/invoke/VarHandle")
    {W9 : Nat} {Pre : Pt → Array Value → Prop} {Post : Pt → Array Value → Option Value → Pt → Prop} {PostX : Pt → Array Value → Addr → Pt → Prop} (hK : vx_Back l R p e below s args y 3 W9 Pre Post PostX)
    {b : Addr} {cellB : Cell} (hcell : T.heap[b]? = some cellB) (hobj : cellB.vm.isStatics = false) (hcls : s.vm.findClass C = some cellB.cls)
    {g : JFrame} (hg : g.method = m) (hsize : g.locals.size = c.maxLocals) {argsL rest : List Value} (hlen : ∀ sig, parseMethodDescriptor y.desc = some sig → argsL.length = sig.parameters.length)
    (hstack : g.stack = argsL.reverse ++ .ref b :: rest) (hW : 2 * g.monitorRoom + (rest.map fun v => v.category).sum ≤ W9) (hdg : decode c.code g.pc = .ok (.invokevirtual index, 3))
    (hpre : ∀ vm₁, s.WarmedH vm₁ → Pre ⟨T.setVm vm₁, locs, cells, slots⟩ (Value.ref b :: argsL).toArray) :
    (∃ (v : Option Value) (vm₁ : Vm) (B : Pt), s.WarmedH vm₁ ∧ Stand p l e R s m args below meth c B.U B.locs B.cells B.slots ∧ Post ⟨T.setVm vm₁, locs, cells, slots⟩ (Value.ref b :: argsL).toArray v B ∧
      ∀ target, Steps p.tables e below (B.U.setTop { g with pc := g.pc + 3, stack := v.toList ++ rest }) target → Steps p.tables e below (T.setTop g) target) ∨
    (∃ (q : Addr) (vm₁ : Vm) (B : Pt), s.WarmedH vm₁ ∧ Stand p l e R s m args below meth c B.U B.locs B.cells B.slots ∧ PostX ⟨T.setVm vm₁, locs, cells, slots⟩ (Value.ref b :: argsL).toArray q B ∧
      Steps p.tables e below (T.setTop g) ((B.U.setTop { g with stack := rest }).pushFrame (.throwing q))) := by
  obtain ⟨mk, methM, hnamed, hmethM, hstM, habM⟩ := Cond.instanceMethod_spec hinst
  obtain ⟨m8, methM', cM, hn8, hmethM', -, -, -, -, -, -, hsigM⟩ := Cond.codeWith_spec hcode
  cases Option.some.inj (hn8.symm.trans hnamed)
  cases hmethM.symm.trans hmethM'
  obtain ⟨c2, r2, m2, q1, q2, q3, q4, kP, hkP, hkPi⟩ := Cond.selects_spec hsel
  cases hcls.symm.trans q1
  cases (State.methodFound?_of_named hnamed hy).symm.trans q2
  cases hnamed.symm.trans q3
  have hselP : selectMethod e.platform s.vm cellB.cls mk = .method mk := by rw [Launch.admits_selectMethod X.admits]; exact q4
  obtain ⟨vm₁, X₁, hstep₁⟩ := X.invokevirtual hexec hown hlink hnamed hmethM hstM hkP hkPi hy (a := b) (cell := cellB) hcell
    (fun z h => by rw [h] at hobj; cases hobj) hselP hmethM habM hkP hkPi (g := g) hg (argsL := argsL) (rest := rest) (hlen _ hsigM) hstack hdg
  rcases hK m meth c ⟨T.setVm vm₁, locs, cells, slots⟩ { g with stack := rest } (.invokevirtual index) mk (Value.ref b :: argsL).toArray X₁ hg hsize hdg hW (X₁.named hnamed) (hpre vm₁ X₁.warmed) with ⟨v, B, X', hpost, hsteps⟩ | ⟨q, B, X', hpost, hsteps⟩
  · exact Or.inl ⟨v, vm₁, B, X₁.warmed, X', hpost, fun target h => hstep₁ _ fun acts => by rw [doInvoke_state]; exact hsteps.trans h⟩
  · exact Or.inr ⟨q, vm₁, B, X₁.warmed, X', hpost, hstep₁ _ fun acts => by rw [doInvoke_state]; exact hsteps⟩
theorem vx_callSX (X : Stand p l e R s m args below meth c T locs cells slots) (hexec : p.tables.exec = Jvm.exec) {own : String} {index : Nat} {y : MethodName} {bytes : ByteArray} {maxL : Nat} {ret : Option FieldType} {hh : List (Nat × Nat × Nat × Nat)}
    (hown : s.vm.findClass own = some m.cls) (hlink : (Cond.methodLink own index y).before args s = true) (hstat : (Cond.static y).before args s = true) (hinit : (Cond.initialized y.cls).before args s = true)
    (hcode : (Cond.codeWith y bytes maxL ret hh).before args s = true) (hy : y.cls ≠ "java/lang/invoke/MethodHandle" ∧ y.cls ≠ "java/lang/invoke/VarHandle")
    {W9 : Nat} {Pre : Pt → Array Value → Prop} {Post : Pt → Array Value → Option Value → Pt → Prop} {PostX : Pt → Array Value → Addr → Pt → Prop} (hK : vx_Back l R p e below s args y 3 W9 Pre Post PostX)
    {g : JFrame} (hg : g.method = m) (hsize : g.locals.size = c.maxLocals) {argsL rest : List Value} (hlen : ∀ sig, parseMethodDescriptor y.desc = some sig → argsL.length = sig.parameters.length)
    (hstack : g.stack = argsL.reverse ++ rest) (hW : 2 * g.monitorRoom + (rest.map fun v => v.category).sum ≤ W9) (hdg : decode c.code g.pc = .ok (.invokestatic index, 3))
    (hpre : ∀ vm₁, s.WarmedH vm₁ → Pre ⟨T.setVm vm₁, locs, cells, slots⟩ argsL.toArray) :
    (∃ (v : Option Value) (vm₁ : Vm) (B : Pt), s.WarmedH vm₁ ∧ Stand p l e R s m args below meth c B.U B.locs B.cells B.slots ∧ Post ⟨T.setVm vm₁, locs, cells, slots⟩ argsL.toArray v B ∧
      ∀ target, Steps p.tables e below (B.U.setTop { g with pc := g.pc + 3, stack := v.toList ++ rest }) target → Steps p.tables e below (T.setTop g) target) ∨
    (∃ (q : Addr) (vm₁ : Vm) (B : Pt), s.WarmedH vm₁ ∧ Stand p l e R s m args below meth c B.U B.locs B.cells B.slots ∧ PostX ⟨T.setVm vm₁, locs, cells, slots⟩ argsL.toArray q B ∧
      Steps p.tables e below (T.setTop g) ((B.U.setTop { g with stack := rest }).pushFrame (.throwing q))) := by
  obtain ⟨mk, methM, cM, hnamed, hmethM, -, -, -, -, -, -, hsigM⟩ := Cond.codeWith_spec hcode
  have hstatic : methM.isStatic = true := Cond.static_spec hnamed hmethM hstat
  obtain ⟨kP, hkP, -⟩ := className_of_methodNamed hnamed
  have hinitP : kP.init = .initialized := Cond.initialized_spec (findClass_of_methodNamed hnamed) hkP hinit
  obtain ⟨vm₁, X₁, hstep₁⟩ := X.invokestatic hexec hown hlink hnamed hmethM hstatic hkP hinitP hy (g := g) hg (argsL := argsL) (rest := rest) (hlen _ hsigM) hstack hdg
  rcases hK m meth c ⟨T.setVm vm₁, locs, cells, slots⟩ { g with stack := rest } (.invokestatic index) mk argsL.toArray X₁ hg hsize hdg hW (X₁.named hnamed) (hpre vm₁ X₁.warmed) with ⟨v, B, X', hpost, hsteps⟩ | ⟨q, B, X', hpost, hsteps⟩
  · exact Or.inl ⟨v, vm₁, B, X₁.warmed, X', hpost, fun target h => hstep₁ _ fun acts => by rw [doInvoke_state]; exact hsteps.trans h⟩
  · exact Or.inr ⟨q, vm₁, B, X₁.warmed, X', hpost, hstep₁ _ fun acts => by rw [doInvoke_state]; exact hsteps⟩
theorem vx_callVW (X : Stand p l e R s m args below meth c T locs cells slots) (hexec : p.tables.exec = Jvm.exec) {own C : String} {index : Nat} {y : MethodName} {bytes : ByteArray} {maxL : Nat} {ret : Option FieldType} {hh : List (Nat × Nat × Nat × Nat)}
    (hown : s.vm.findClass own = some m.cls) (hlink : (Cond.methodLink own index y).before args s = true) (hinst : (Cond.instanceMethod y).before args s = true) (hsel : (Cond.selects C y y).before args s = true)
    (hcode : (Cond.codeWith y bytes maxL ret hh).before args s = true) (hy : y.cls ≠ "java/lang/invoke/MethodHandle" ∧ y.cls ≠ "java/lang/invoke/VarHandle")
    {W9 : Nat} {Pre : Pt → Array Value → Prop} {Post : Pt → Array Value → Option Value → Pt → Prop} (hK : Back l R p e below s args y 3 W9 Pre Post)
    {b : Addr} {cellB : Cell} (hcell : T.heap[b]? = some cellB) (hobj : cellB.vm.isStatics = false) (hcls : s.vm.findClass C = some cellB.cls)
    {g : JFrame} (hg : g.method = m) (hsize : g.locals.size = c.maxLocals) {argsL rest : List Value} (hlen : ∀ sig, parseMethodDescriptor y.desc = some sig → argsL.length = sig.parameters.length)
    (hstack : g.stack = argsL.reverse ++ .ref b :: rest) (hW : 2 * g.monitorRoom + (rest.map fun v => v.category).sum ≤ W9) (hdg : decode c.code g.pc = .ok (.invokevirtual index, 3))
    (hpre : ∀ vm₁, s.WarmedH vm₁ → Pre ⟨T.setVm vm₁, locs, cells, slots⟩ (Value.ref b :: argsL).toArray) :
    ∃ (v : Option Value) (vm₁ : Vm) (B : Pt), s.WarmedH vm₁ ∧ Stand p l e R s m args below meth c B.U B.locs B.cells B.slots ∧ Post ⟨T.setVm vm₁, locs, cells, slots⟩ (Value.ref b :: argsL).toArray v B ∧
      ∀ target, Steps p.tables e below (B.U.setTop { g with pc := g.pc + 3, stack := v.toList ++ rest }) target → Steps p.tables e below (T.setTop g) target := by
  obtain ⟨mk, methM, hnamed, hmethM, hstM, habM⟩ := Cond.instanceMethod_spec hinst
  obtain ⟨m8, methM', cM, hn8, hmethM', -, -, -, -, -, -, hsigM⟩ := Cond.codeWith_spec hcode
  cases Option.some.inj (hn8.symm.trans hnamed)
  cases hmethM.symm.trans hmethM'
  obtain ⟨c2, r2, m2, q1, q2, q3, q4, kP, hkP, hkPi⟩ := Cond.selects_spec hsel
  cases hcls.symm.trans q1
  cases (State.methodFound?_of_named hnamed hy).symm.trans q2
  cases hnamed.symm.trans q3
  have hselP : selectMethod e.platform s.vm cellB.cls mk = .method mk := by rw [Launch.admits_selectMethod X.admits]; exact q4
  obtain ⟨vm₁, X₁, hstep₁⟩ := X.invokevirtual hexec hown hlink hnamed hmethM hstM hkP hkPi hy (a := b) (cell := cellB) hcell
    (fun z h => by rw [h] at hobj; cases hobj) hselP hmethM habM hkP hkPi (g := g) hg (argsL := argsL) (rest := rest) (hlen _ hsigM) hstack hdg
  obtain ⟨v, B, X', hpost, hsteps⟩ := hK m meth c ⟨T.setVm vm₁, locs, cells, slots⟩ { g with stack := rest } (.invokevirtual index) mk (Value.ref b :: argsL).toArray X₁ hg hsize hdg hW (X₁.named hnamed) (hpre vm₁ X₁.warmed)
  exact ⟨v, vm₁, B, X₁.warmed, X', hpost, fun target h => hstep₁ _ fun acts => by rw [doInvoke_state]; exact hsteps.trans h⟩
abbrev vx_CVW (R : Room) (s : State) (args : Array Value) (own C : String) (index : Nat) (y : MethodName) (bytes : ByteArray) (maxL : Nat) (ret : Option FieldType) (hh : List (Nat × Nat × Nat × Nat)) (ws : List Cond) (rm : Room) (mc ms n : Nat) : Prop :=
  (rm.cells = mc ∧ rm.slots = ms ∧ rm.frames + 1 ≤ R.frames ∧ 8 + (maxL + 11) + rm.locals ≤ R.locals ∧ (∀ w ∈ ws, ∀ (a' : Array Value) (U : State), s.WarmedH U.vm → w.before a' U = true) ∧ Cond.codeWith y bytes maxL ret hh ∈ ws) ∧
  (Cond.codeWith y bytes maxL ret hh).before args s = true ∧ (Cond.initialized y.cls).before args s = true ∧ (y.cls ≠ "java/lang/invoke/MethodHandle" ∧ y.cls ≠ "java/lang/invoke/VarHandle") ∧
  (∀ sig, parseMethodDescriptor y.desc = some sig → n = sig.parameters.length) ∧ (Cond.methodLink own index y).before args s = true ∧ (Cond.instanceMethod y).before args s = true ∧ (Cond.selects C y y).before args s = true
theorem vx_cwVW {own C : String} {index maxL mc ms : Nat} {y : MethodName} {bytes : ByteArray} {ret : Option FieldType} {hh : List (Nat × Nat × Nat × Nat)} {Ts ws ws' : List Cond} {rm : Room} (n : Nat) (ht : ∀ w ∈ Ts, w.before args s = true) (hT : GoodIn Ts (wsV own index C y ws)) (hw : ws = Cond.codeWith y bytes maxL ret hh :: ws') (hrc : rm.cells = mc) (hrs : rm.slots = ms)
    (hd : y.cls = C ∧ y.cls ≠ "java/lang/invoke/MethodHandle" ∧ y.cls ≠ "java/lang/invoke/VarHandle" ∧ (parseMethodDescriptor y.desc).map (fun d => d.parameters.length) = some n) (hR : rm.frames + 1 ≤ R.frames ∧ 8 + (maxL + 11) + rm.locals ≤ R.locals) :
    vx_CVW R s args own C index y bytes maxL ret hh ws rm mc ms n := by
  obtain ⟨hC, hd⟩ := hd
  subst hC
  have ok : ∀ w ∈ wsV own index y.cls y ws, w.before args s = true := fun w h => ht w (hT w h).1
  have hG : GoodIn Ts ws := fun w h => hT w (by unfold wsV; exact List.mem_append_right _ h)
  have hc : Cond.codeWith y bytes maxL ret hh ∈ ws := by rw [hw]; exact List.mem_cons_self
  refine ⟨⟨hrc, hrs, hR.1, hR.2, pay_in ht hG, hc⟩, ht _ (hG _ hc).1, ok _ (by simp [wsV]), ⟨hd.1, hd.2.1⟩, fun sig h => ?_, ok _ (by simp [wsV]), ok _ (by simp [wsV]), ok _ (by simp [wsV])⟩
  have h2 := hd.2.2
  rw [h] at h2
  exact (Option.some.inj h2).symm
theorem vx_runVW {y : MethodName} {bytes cc : ByteArray} {maxL nL mc ms n index : Nat} {ret : Option FieldType} {hh : List (Nat × Nat × Nat × Nat)} {ws : List Cond} {rm : Room} {Pc : Array Value → State → Prop} {Qc : Array Value → State → Outcome → State → Prop} {free : Addr → Prop} {Ts : List Cond} {own C : String} {b : Addr} {As rest : List Value} {g : JFrame}
    (S : CallFix p m c cc nL s args Ts own) (hM : Met l y ws rm Pc Qc mc ms free) (cw : vx_CVW R s args own C index y bytes maxL ret hh ws rm mc ms n) (hp : PreV s H C b Pc As)
    (hg : g.method = m) (hn : As.length = n) (hsize : g.locals.size = nL) (hstack : g.stack = As.reverse ++ .ref b :: rest) (hW : 2 * g.monitorRoom + (rest.map fun v => v.category).sum ≤ 8) (hdg : decode cc g.pc = .ok (.invokevirtual index, 3)) (hf : cells + mc ≤ R.cells ∧ slots + ms ≤ R.slots) :
    va_Run p l e R s m args below meth c H locs cells slots mc ms g rest (Qc (Value.ref b :: As).toArray) free := by
  obtain ⟨⟨hrc, hrs, hfr, hlo, hws, hcw⟩, hcode, hini, hy, hlen, hl, hin, hse⟩ := cw
  have hK : Back l R p e below s args y 3 8 (PreOf R mc ms Pc) (PostOf Qc mc ms free) := va_backW (hh := hh) (bytes := bytes) (maxL := maxL) (ret := ret) hM hp.1 hrc hrs hfr hlo hws hcw (fun a' U hW => word_at hW (Or.inl (by first | rfl | simp [Cond.onTables, Cond.keeps, Cond.steady])) hini)
  obtain ⟨hx, hb, hml, ho, -⟩ := S
  obtain ⟨-, ⟨cellB, hcB, hoB, hclB⟩, hPc⟩ := hp
  intro T hT X
  obtain ⟨v, vm₁, ⟨U', l2, c2, s2⟩, hW₁, X', ⟨g', mk, t, L, e1, e2, hq, h1, hL, h2, h3⟩, st⟩ := vx_callVW X hx (C := C) (hh := hh) (bytes := bytes) (maxL := maxL) (ret := ret) ho hl hin hse hcode hy hK (by rw [hT]; exact hcB) hoB hclB hg (hsize.trans hml.symm) (argsL := As) (rest := rest) (fun sig h => hn.trans (hlen sig h)) hstack hW (by rw [hb]; exact hdg)
    (fun vm₁ hW₁ => ⟨hf.1, hf.2, hPc (T.setVm vm₁) hT hW₁⟩)
  dsimp only [Pt.U, Pt.locs, Pt.cells, Pt.slots] at X' e1 e2 h1 h2 h3 st
  subst h1; subst h2; subst h3
  exact ⟨v, (T.setVm vm₁).calling g' mk (Value.ref b :: As).toArray, t, U', L, hT, X', hL, e1, e2, hq, st⟩
section
variable {y : MethodName} {bytes cc : ByteArray} {maxL nL mc ms n index : Nat} {ret : Option FieldType} {ws : List Cond} {rm : Room} {Pc : Array Value → State → Prop} {Qc : Array Value → State → Outcome → State → Prop} {XC : String → State → State → Prop} {free : Addr → Prop} {Ts : List Cond} {own C : String} {b : Addr} {As rest : List Value} {g : JFrame}
theorem vx_runVX {hh : List (Nat × Nat × Nat × Nat)} (S : CallFix p m c cc nL s args Ts own) (hM : vx_Met l y ws rm Pc Qc XC mc ms free) (cw : vx_CVW R s args own C index y bytes maxL ret hh ws rm mc ms n) (hp : PreV s H C b Pc As)
    (hg : g.method = m) (hn : As.length = n) (hsize : g.locals.size = nL) (hstack : g.stack = As.reverse ++ .ref b :: rest) (hW : 2 * g.monitorRoom + (rest.map fun v => v.category).sum ≤ 8) (hdg : decode cc g.pc = .ok (.invokevirtual index, 3)) (hf : cells + mc ≤ R.cells ∧ slots + ms ≤ R.slots) :
    vx_Run p l e R s m args below meth c H locs cells slots mc ms g rest (Qc (Value.ref b :: As).toArray) XC free := by
  obtain ⟨⟨hrc, hrs, hfr, hlo, hws, hcw⟩, hcode, hini, hy, hlen, hl, hin, hse⟩ := cw
  have hK : vx_Back l R p e below s args y 3 8 (PreOf R mc ms Pc) (PostOf Qc mc ms free) (vx_Post XC mc ms free) := vx_backW (hh := hh) (bytes := bytes) (maxL := maxL) (ret := ret) hM hp.1 hrc hrs hfr hlo hws hcw (fun a' U hW => word_at hW (Or.inl (by first | rfl | simp [Cond.onTables, Cond.keeps, Cond.steady])) hini)
  obtain ⟨hx, hb, hml, ho, -⟩ := S
  obtain ⟨-, ⟨cellB, hcB, hoB, hclB⟩, hPc⟩ := hp
  intro T hT X
  rcases vx_callVX X hx (C := C) (hh := hh) (bytes := bytes) (maxL := maxL) (ret := ret) ho hl hin hse hcode hy hK (by rw [hT]; exact hcB) hoB hclB hg (hsize.trans hml.symm) (argsL := As) (rest := rest) (fun sig h => hn.trans (hlen sig h)) hstack hW (by rw [hb]; exact hdg)
    (fun vm₁ hW₁ => ⟨hf.1, hf.2, hPc (T.setVm vm₁) hT hW₁⟩) with ⟨v, vm₁, ⟨U', l2, c2, s2⟩, hW₁, X', ⟨g', mk, t, L, e1, e2, hq, h1, hL, h2, h3⟩, st⟩ | ⟨q, vm₁, ⟨U', l2, c2, s2⟩, hW₁, X', ⟨g', mk, t, L, E, ce, e1, e2, hq, hce, hcv, hcl, h1, hL, h2, h3⟩, st⟩
  · dsimp only [Pt.U, Pt.locs, Pt.cells, Pt.slots] at X' e1 e2 h1 h2 h3 st
    subst h1; subst h2; subst h3
    exact Or.inl ⟨v, (T.setVm vm₁).calling g' mk (Value.ref b :: As).toArray, t, U', L, hT, X', hL, e1, e2, hq, st⟩
  · dsimp only [Pt.U, Pt.locs, Pt.cells, Pt.slots] at X' e1 e2 h1 h2 h3 st hcl
    subst h1; subst h2; subst h3
    exact Or.inr ⟨q, (T.setVm vm₁).calling g' mk (Value.ref b :: As).toArray, t, U', L, E, ce, hT, X', hL, e1, e2, hq, hce, hcv, vx_cls hW₁ hcl, st⟩
theorem vx_runSX {hh : List (Nat × Nat × Nat × Nat)} (S : CallFix p m c cc nL s args Ts own) (hM : vx_Met l y ws rm Pc Qc XC mc ms free) (cw : vx_CSW R s args own index y bytes maxL ret hh ws rm mc ms n) (hp : PreS s H Pc As)
    (hg : g.method = m) (hn : As.length = n) (hsize : g.locals.size = nL) (hstack : g.stack = As.reverse ++ rest) (hW : 2 * g.monitorRoom + (rest.map fun v => v.category).sum ≤ 8) (hdg : decode cc g.pc = .ok (.invokestatic index, 3)) (hf : cells + mc ≤ R.cells ∧ slots + ms ≤ R.slots) :
    vx_Run p l e R s m args below meth c H locs cells slots mc ms g rest (Qc As.toArray) XC free := by
  obtain ⟨⟨hrc, hrs, hfr, hlo, hws, hcw⟩, hcode, hini, hy, hlen, hl, hstt⟩ := cw
  have hK : vx_Back l R p e below s args y 3 8 (PreOf R mc ms Pc) (PostOf Qc mc ms free) (vx_Post XC mc ms free) := vx_backW (hh := hh) (bytes := bytes) (maxL := maxL) (ret := ret) hM hp.1 hrc hrs hfr hlo hws hcw (fun a' U hW => word_at hW (Or.inl (by first | rfl | simp [Cond.onTables, Cond.keeps, Cond.steady])) hini)
  obtain ⟨hx, hb, hml, ho, -⟩ := S
  intro T hT X
  rcases vx_callSX X hx (hh := hh) (bytes := bytes) (maxL := maxL) (ret := ret) ho hl hstt hini hcode hy hK hg (hsize.trans hml.symm) (argsL := As) (rest := rest) (fun sig h => hn.trans (hlen sig h)) hstack hW (by rw [hb]; exact hdg)
    (fun vm₁ hW₁ => ⟨hf.1, hf.2, hp.2 (T.setVm vm₁) hT hW₁⟩) with ⟨v, vm₁, ⟨U', l2, c2, s2⟩, hW₁, X', ⟨g', mk, t, L, e1, e2, hq, h1, hL, h2, h3⟩, st⟩ | ⟨q, vm₁, ⟨U', l2, c2, s2⟩, hW₁, X', ⟨g', mk, t, L, E, ce, e1, e2, hq, hce, hcv, hcl, h1, hL, h2, h3⟩, st⟩
  · dsimp only [Pt.U, Pt.locs, Pt.cells, Pt.slots] at X' e1 e2 h1 h2 h3 st
    subst h1; subst h2; subst h3
    exact Or.inl ⟨v, (T.setVm vm₁).calling g' mk As.toArray, t, U', L, hT, X', hL, e1, e2, hq, st⟩
  · dsimp only [Pt.U, Pt.locs, Pt.cells, Pt.slots] at X' e1 e2 h1 h2 h3 st hcl
    subst h1; subst h2; subst h3
    exact Or.inr ⟨q, (T.setVm vm₁).calling g' mk As.toArray, t, U', L, E, ce, hT, X', hL, e1, e2, hq, hce, hcv, vx_cls hW₁ hcl, st⟩
end
end VXH
theorem vx_ofWH {l : Launch} {y : MethodName} {ws ws' : List Cond} {rm : Room} {Pc : Array Value → State → Prop} {Qc : Array Value → State → Outcome → State → Prop} {XC : String → State → State → Prop} {mc ms : Nat} {free : Addr → Prop} {cc : ByteArray} {maxL : Nat} {ret : Option FieldType} {hh : List (Nat × Nat × Nat × Nat)}
    (hy : plainName y.cls = true) (hw : ws = Cond.codeWith y cc maxL ret hh :: ws')
    (body : ∀ p e s m args below meth c s₁, BodyLoose p l y (headSpec ws rm) cc maxL ret e s m args below meth c s₁ → c.maxLocals = maxL → Pc args s →
      W p l e (headSpec ws rm).room s m args below meth c s.heap [] 0 0 (vx_MQ below Qc XC args s mc ms free) (entryFrame m args maxL)) : vx_Met l y ws rm Pc Qc XC mc ms free := by
  refine MetFree.of_bodyS (code := cc) (maxLocals := maxL) (ret := ret) hy ?_ ?_
  · intro args s m h hn
    obtain ⟨m9, meth, c, hn9, h1, h2, h3, h4, -, h5, h6, -⟩ := Cond.codeWith_spec (atoms_spec (ws := ws) h _ (by rw [hw]; exact List.mem_cons_self))
    cases hn.symm.trans hn9
    exact ⟨meth, c, h1, h2, h3, h4, h5, h6⟩
  · intro p e s m args below meth c s₁ B hml hP _
    have hh0 : s₁.heap = s.heap := by rw [B.state]; rfl
    obtain ⟨t, a1, o, b1, b2, b3⟩ := body p e s m args below meth c s₁ B hml hP s₁ hh0 (Stand.of_body B)
    exact ⟨t, o, a1, b1, b2, b3⟩
/-! ===== END ===== -/
end
section
/-! ===== BEGIN printed: names, fields, word lists, decode rows ===== -/
def RX0 : String := "LeftThings$Tag"
def TX0 : u_T := fun k => match k with
  | 0 => ("LeftThings$Tag", "place", "I", true)
  | 1 => ("LeftThings$Tag", "fromDay", "I", true)
  | _ => ("LeftThings$Tag", "before", "LLeftThings$Tag;", true)
def tyX0 : Nat → FieldType := fun k => match k with
  | 0 => .int
  | 1 => .int
  | _ => .object "LeftThings$Tag"
abbrev wsX00 : List Cond := u_ws RX0 TX0 3
theorem nmX0 : ∀ a, a < 3 → ∀ b, b < 3 → a ≠ b → (TX0 a).2.1 ≠ (TX0 b).2.1 := by decide +kernel
theorem tyX0_ok : ∀ k, k < 3 → parseFieldDescriptor (TX0 k).2.2.1 = some (tyX0 k) := by decide +kernel
abbrev cX0_init : ByteArray := prog_2_method_1_code
def yX0_init : MethodName := ⟨RX0, "<init>", "(IILLeftThings$Tag;)V"⟩
def RX1 : String := "LeftThings$Thing"
def TX1 : u_T := fun k => match k with
  | 0 => ("LeftThings$Thing", "number", "I", true)
  | 1 => ("LeftThings$Thing", "owner", "I", true)
  | 2 => ("LeftThings$Thing", "size", "I", true)
  | 3 => ("LeftThings$Thing", "leftOn", "I", true)
  | 4 => ("LeftThings$Thing", "worth", "I", false)
  | 5 => ("LeftThings$Thing", "place", "I", false)
  | 6 => ("LeftThings$Thing", "newestTag", "LLeftThings$Tag;", false)
  | 7 => ("LeftThings$Thing", "wantedAt", "I", false)
  | 8 => ("LeftThings$Thing", "feeSum", "I", false)
  | 9 => ("LeftThings$Thing", "loanSum", "I", false)
  | 10 => ("LeftThings$Thing", "lender", "I", false)
  | _ => ("LeftThings$Thing", "repayBy", "I", false)
def tyX1 : Nat → FieldType := fun k => match k with
  | 0 => .int
  | 1 => .int
  | 2 => .int
  | 3 => .int
  | 4 => .int
  | 5 => .int
  | 6 => .object "LeftThings$Tag"
  | 7 => .int
  | 8 => .int
  | 9 => .int
  | 10 => .int
  | _ => .int
abbrev wsX10 : List Cond := u_ws RX1 TX1 12
theorem nmX1 : ∀ a, a < 12 → ∀ b, b < 12 → a ≠ b → (TX1 a).2.1 ≠ (TX1 b).2.1 := by decide +kernel
theorem tyX1_ok : ∀ k, k < 12 → parseFieldDescriptor (TX1 k).2.2.1 = some (tyX1 k) := by decide +kernel
abbrev cX1_init : ByteArray := prog_3_method_1_code
def yX1_init : MethodName := ⟨RX1, "<init>", "(IIIII)V"⟩
abbrev cX1_isAtCounter : ByteArray := prog_3_method_2_code
def yX1_isAtCounter : MethodName := ⟨RX1, "isAtCounter", "()Z"⟩
abbrev cX1_hasLoan : ByteArray := prog_3_method_3_code
def yX1_hasLoan : MethodName := ⟨RX1, "hasLoan", "()Z"⟩
abbrev cX1_isCalled : ByteArray := prog_3_method_4_code
def yX1_isCalled : MethodName := ⟨RX1, "isCalled", "()Z"⟩
abbrev cX1_beginLoan : ByteArray := prog_3_method_5_code
def yX1_beginLoan : MethodName := ⟨RX1, "beginLoan", "(II)V"⟩
abbrev cX1_endLoan : ByteArray := prog_3_method_6_code
def yX1_endLoan : MethodName := ⟨RX1, "endLoan", "()V"⟩
abbrev cX1_moveTo : ByteArray := prog_3_method_7_code
def yX1_moveTo : MethodName := ⟨RX1, "moveTo", "(II)V"⟩
abbrev cX1_placeAtBeginningOf : ByteArray := prog_3_method_8_code
def yX1_placeAtBeginningOf : MethodName := ⟨RX1, "placeAtBeginningOf", "(I)I"⟩
def RX2 : String := "LeftThings"
def TX2 : u_T := fun k => match k with
  | 0 => ("LeftThings", "rooms", "[I", true)
  | 1 => ("LeftThings", "purses", "[I", true)
  | 2 => ("LeftThings", "leftThings", "Ljava/util/ArrayList;", true)
  | 3 => ("LeftThings", "wishes", "Ljava/util/ArrayList;", true)
  | 4 => ("LeftThings", "vanRoom", "I", false)
  | 5 => ("LeftThings", "today", "I", false)
  | _ => ("LeftThings", "takenFees", "I", false)
def tyX2 : Nat → FieldType := fun k => match k with
  | 0 => .array .int
  | 1 => .array .int
  | 2 => .object "java/util/ArrayList"
  | 3 => .object "java/util/ArrayList"
  | 4 => .int
  | 5 => .int
  | _ => .int
abbrev wsX20 : List Cond := u_ws RX2 TX2 7
theorem nmX2 : ∀ a, a < 7 → ∀ b, b < 7 → a ≠ b → (TX2 a).2.1 ≠ (TX2 b).2.1 := by decide +kernel
theorem tyX2_ok : ∀ k, k < 7 → parseFieldDescriptor (TX2 k).2.2.1 = some (tyX2 k) := by decide +kernel
abbrev cX2_init : ByteArray := prog_1_method_1_code
def yX2_init : MethodName := ⟨RX2, "<init>", "()V"⟩
abbrev cX2_setRoom : ByteArray := prog_1_method_2_code
def yX2_setRoom : MethodName := ⟨RX2, "setRoom", "(II)I"⟩
abbrev cX2_setVan : ByteArray := prog_1_method_3_code
def yX2_setVan : MethodName := ⟨RX2, "setVan", "(I)I"⟩
abbrev cX2_leave : ByteArray := prog_1_method_4_code
def yX2_leave : MethodName := ⟨RX2, "leave", "(III)I"⟩
abbrev cX2_fetch : ByteArray := prog_1_method_5_code
def yX2_fetch : MethodName := ⟨RX2, "fetch", "(I)I"⟩
abbrev cX2_want : ByteArray := prog_1_method_6_code
def yX2_want : MethodName := ⟨RX2, "want", "(II)I"⟩
abbrev cX2_value : ByteArray := prog_1_method_7_code
def yX2_value : MethodName := ⟨RX2, "value", "(II)I"⟩
abbrev cX2_lend : ByteArray := prog_1_method_8_code
def yX2_lend : MethodName := ⟨RX2, "lend", "(III)V"⟩
abbrev cX2_repay : ByteArray := prog_1_method_9_code
def yX2_repay : MethodName := ⟨RX2, "repay", "(I)I"⟩
abbrev cX2_doubt : ByteArray := prog_1_method_10_code
def yX2_doubt : MethodName := ⟨RX2, "doubt", "(I)I"⟩
abbrev cX2_pass : ByteArray := prog_1_method_11_code
def yX2_pass : MethodName := ⟨RX2, "pass", "(I)I"⟩
abbrev cX2_day : ByteArray := prog_1_method_12_code
def yX2_day : MethodName := ⟨RX2, "day", "()I"⟩
abbrev cX2_things : ByteArray := prog_1_method_13_code
def yX2_things : MethodName := ⟨RX2, "things", "()I"⟩
abbrev cX2_where : ByteArray := prog_1_method_14_code
def yX2_where : MethodName := ⟨RX2, "where", "(I)I"⟩
abbrev cX2_whereOn : ByteArray := prog_1_method_15_code
def yX2_whereOn : MethodName := ⟨RX2, "whereOn", "(II)I"⟩
abbrev cX2_load : ByteArray := prog_1_method_16_code
def yX2_load : MethodName := ⟨RX2, "load", "(I)I"⟩
abbrev cX2_fees : ByteArray := prog_1_method_17_code
def yX2_fees : MethodName := ⟨RX2, "fees", "(I)I"⟩
abbrev cX2_loan : ByteArray := prog_1_method_18_code
def yX2_loan : MethodName := ⟨RX2, "loan", "(I)I"⟩
abbrev cX2_purse : ByteArray := prog_1_method_19_code
def yX2_purse : MethodName := ⟨RX2, "purse", "(I)I"⟩
abbrev cX2_taken : ByteArray := prog_1_method_20_code
def yX2_taken : MethodName := ⟨RX2, "taken", "()I"⟩
abbrev cX2_wish : ByteArray := prog_1_method_21_code
def yX2_wish : MethodName := ⟨RX2, "wish", "(I)I"⟩
abbrev cX2_isCounter : ByteArray := prog_1_method_22_code
def yX2_isCounter : MethodName := ⟨RX2, "isCounter", "(I)Z"⟩
abbrev cX2_isPerson : ByteArray := prog_1_method_23_code
def yX2_isPerson : MethodName := ⟨RX2, "isPerson", "(I)Z"⟩
abbrev cX2_isRoom : ByteArray := prog_1_method_24_code
def yX2_isRoom : MethodName := ⟨RX2, "isRoom", "(I)Z"⟩
abbrev cX2_thingNumbered : ByteArray := prog_1_method_25_code
def yX2_thingNumbered : MethodName := ⟨RX2, "thingNumbered", "(I)LLeftThings$Thing;"⟩
abbrev cX2_sizesAt : ByteArray := prog_1_method_26_code
def yX2_sizesAt : MethodName := ⟨RX2, "sizesAt", "(I)I"⟩
abbrev cX2_hasRoomFor : ByteArray := prog_1_method_27_code
def yX2_hasRoomFor : MethodName := ⟨RX2, "hasRoomFor", "(II)Z"⟩
abbrev cX2_putIntoPurse : ByteArray := prog_1_method_28_code
def yX2_putIntoPurse : MethodName := ⟨RX2, "putIntoPurse", "(II)V"⟩
abbrev cX2_dropEndedWishes : ByteArray := prog_1_method_29_code
def yX2_dropEndedWishes : MethodName := ⟨RX2, "dropEndedWishes", "()V"⟩
abbrev cX2_giveAway : ByteArray := prog_1_method_30_code
def yX2_giveAway : MethodName := ⟨RX2, "giveAway", "(LLeftThings$Thing;II)V"⟩
abbrev cX2_sell : ByteArray := prog_1_method_31_code
def yX2_sell : MethodName := ⟨RX2, "sell", "(LLeftThings$Thing;)V"⟩
abbrev cX2_endDay : ByteArray := prog_1_method_32_code
def yX2_endDay : MethodName := ⟨RX2, "endDay", "()I"⟩
abbrev cX2_oweFees : ByteArray := prog_1_method_33_code
def yX2_oweFees : MethodName := ⟨RX2, "oweFees", "()V"⟩
abbrev cX2_sellCalled : ByteArray := prog_1_method_34_code
def yX2_sellCalled : MethodName := ⟨RX2, "sellCalled", "()I"⟩
abbrev cX2_sellUnfetched : ByteArray := prog_1_method_35_code
def yX2_sellUnfetched : MethodName := ⟨RX2, "sellUnfetched", "()I"⟩
abbrev cX2_driveVan : ByteArray := prog_1_method_36_code
def yX2_driveVan : MethodName := ⟨RX2, "driveVan", "()V"⟩
def RX3 : String := "LeftThingsModel"
def TX3 : u_T := fun k => match k with
  | 0 => ("LeftThingsModel", "room", "[I", true)
  | 1 => ("LeftThingsModel", "van", "I", false)
  | 2 => ("LeftThingsModel", "purse", "[I", true)
  | 3 => ("LeftThingsModel", "taken", "I", false)
  | 4 => ("LeftThingsModel", "day", "I", false)
  | 5 => ("LeftThingsModel", "things", "I", false)
  | 6 => ("LeftThingsModel", "owner", "[I", true)
  | 7 => ("LeftThingsModel", "size", "[I", true)
  | 8 => ("LeftThingsModel", "worth", "[I", true)
  | 9 => ("LeftThingsModel", "where", "[I", true)
  | 10 => ("LeftThingsModel", "leftOn", "[I", true)
  | 11 => ("LeftThingsModel", "fees", "[I", true)
  | 12 => ("LeftThingsModel", "loan", "[I", true)
  | 13 => ("LeftThingsModel", "lender", "[I", true)
  | 14 => ("LeftThingsModel", "called", "[I", true)
  | 15 => ("LeftThingsModel", "goal", "[I", true)
  | 16 => ("LeftThingsModel", "wishes", "[I", true)
  | 17 => ("LeftThingsModel", "wanted", "I", false)
  | 18 => ("LeftThingsModel", "began", "[I", true)
  | _ => ("LeftThingsModel", "thrown", "I", false)
def tyX3 : Nat → FieldType := fun k => match k with
  | 0 => .array .int
  | 1 => .int
  | 2 => .array .int
  | 3 => .int
  | 4 => .int
  | 5 => .int
  | 6 => .array .int
  | 7 => .array .int
  | 8 => .array .int
  | 9 => .array .int
  | 10 => .array .int
  | 11 => .array .int
  | 12 => .array .int
  | 13 => .array .int
  | 14 => .array .int
  | 15 => .array .int
  | 16 => .array .int
  | 17 => .int
  | 18 => .array .int
  | _ => .int
abbrev wsX30 : List Cond := u_ws RX3 TX3 20
theorem nmX3 : ∀ a, a < 20 → ∀ b, b < 20 → a ≠ b → (TX3 a).2.1 ≠ (TX3 b).2.1 := by decide +kernel
theorem tyX3_ok : ∀ k, k < 20 → parseFieldDescriptor (TX3 k).2.2.1 = some (tyX3 k) := by decide +kernel
abbrev cX3_init : ByteArray := prog_5_method_1_code
def yX3_init : MethodName := ⟨RX3, "<init>", "()V"⟩
abbrev cX3_thrown : ByteArray := prog_5_method_2_code
def yX3_thrown : MethodName := ⟨RX3, "thrown", "()I"⟩
abbrev cX3_in : ByteArray := prog_5_method_3_code
def yX3_in : MethodName := ⟨RX3, "in", "(III)Z"⟩
abbrev cX3_isFine : ByteArray := prog_5_method_4_code
def yX3_isFine : MethodName := ⟨RX3, "isFine", "(I)Z"⟩
abbrev cX3_isCounter : ByteArray := prog_5_method_5_code
def yX3_isCounter : MethodName := ⟨RX3, "isCounter", "(I)Z"⟩
abbrev cX3_isThing : ByteArray := prog_5_method_6_code
def yX3_isThing : MethodName := ⟨RX3, "isThing", "(I)Z"⟩
abbrev cX3_isAt : ByteArray := prog_5_method_7_code
def yX3_isAt : MethodName := ⟨RX3, "isAt", "(I)Z"⟩
abbrev cX3_setRoom : ByteArray := prog_5_method_8_code
def yX3_setRoom : MethodName := ⟨RX3, "setRoom", "(II)I"⟩
abbrev cX3_setVan : ByteArray := prog_5_method_9_code
def yX3_setVan : MethodName := ⟨RX3, "setVan", "(I)I"⟩
abbrev cX3_loadOf : ByteArray := prog_5_method_10_code
def yX3_loadOf : MethodName := ⟨RX3, "loadOf", "(I)I"⟩
abbrev cX3_leave : ByteArray := prog_5_method_11_code
def yX3_leave : MethodName := ⟨RX3, "leave", "(III)I"⟩
abbrev cX3_forgets : ByteArray := prog_5_method_12_code
def yX3_forgets : MethodName := ⟨RX3, "forgets", "(I)V"⟩
abbrev cX3_fetch : ByteArray := prog_5_method_13_code
def yX3_fetch : MethodName := ⟨RX3, "fetch", "(I)I"⟩
abbrev cX3_want : ByteArray := prog_5_method_14_code
def yX3_want : MethodName := ⟨RX3, "want", "(II)I"⟩
abbrev cX3_value : ByteArray := prog_5_method_15_code
def yX3_value : MethodName := ⟨RX3, "value", "(II)I"⟩
abbrev cX3_lend : ByteArray := prog_5_method_16_code
def yX3_lend : MethodName := ⟨RX3, "lend", "(III)V"⟩
abbrev cX3_repay : ByteArray := prog_5_method_17_code
def yX3_repay : MethodName := ⟨RX3, "repay", "(I)I"⟩
abbrev cX3_doubt : ByteArray := prog_5_method_18_code
def yX3_doubt : MethodName := ⟨RX3, "doubt", "(I)I"⟩
abbrev cX3_sells : ByteArray := prog_5_method_19_code
def yX3_sells : MethodName := ⟨RX3, "sells", "(I)V"⟩
abbrev cX3_drives : ByteArray := prog_5_method_20_code
def yX3_drives : MethodName := ⟨RX3, "drives", "()V"⟩
abbrev cX3_endsDay : ByteArray := prog_5_method_21_code
def yX3_endsDay : MethodName := ⟨RX3, "endsDay", "()I"⟩
abbrev cX3_pass : ByteArray := prog_5_method_22_code
def yX3_pass : MethodName := ⟨RX3, "pass", "(I)I"⟩
abbrev cX3_day : ByteArray := prog_5_method_23_code
def yX3_day : MethodName := ⟨RX3, "day", "()I"⟩
abbrev cX3_things : ByteArray := prog_5_method_24_code
def yX3_things : MethodName := ⟨RX3, "things", "()I"⟩
abbrev cX3_where : ByteArray := prog_5_method_25_code
def yX3_where : MethodName := ⟨RX3, "where", "(I)I"⟩
abbrev cX3_whereOn : ByteArray := prog_5_method_26_code
def yX3_whereOn : MethodName := ⟨RX3, "whereOn", "(II)I"⟩
abbrev cX3_load : ByteArray := prog_5_method_27_code
def yX3_load : MethodName := ⟨RX3, "load", "(I)I"⟩
abbrev cX3_fees : ByteArray := prog_5_method_28_code
def yX3_fees : MethodName := ⟨RX3, "fees", "(I)I"⟩
abbrev cX3_loan : ByteArray := prog_5_method_29_code
def yX3_loan : MethodName := ⟨RX3, "loan", "(I)I"⟩
abbrev cX3_purse : ByteArray := prog_5_method_30_code
def yX3_purse : MethodName := ⟨RX3, "purse", "(I)I"⟩
abbrev cX3_taken : ByteArray := prog_5_method_31_code
def yX3_taken : MethodName := ⟨RX3, "taken", "()I"⟩
abbrev cX3_wish : ByteArray := prog_5_method_32_code
def yX3_wish : MethodName := ⟨RX3, "wish", "(I)I"⟩
def RJx145de : String := "java/io/Serializable"
def TJx145de : u_T := fun k => match k with
  | _ => ("", "", "", false)
def tyJx145de : Nat → FieldType := fun k => match k with
  | _ => .int
abbrev wsJx145de0 : List Cond := u_ws RJx145de TJx145de 0
theorem nmJx145de : ∀ a, a < 0 → ∀ b, b < 0 → a ≠ b → (TJx145de a).2.1 ≠ (TJx145de b).2.1 := by decide +kernel
theorem tyJx145de_ok : ∀ k, k < 0 → parseFieldDescriptor (TJx145de k).2.2.1 = some (tyJx145de k) := by decide +kernel
def RJx8e188 : String := "java/lang/Cloneable"
def TJx8e188 : u_T := fun k => match k with
  | _ => ("", "", "", false)
def tyJx8e188 : Nat → FieldType := fun k => match k with
  | _ => .int
abbrev wsJx8e1880 : List Cond := u_ws RJx8e188 TJx8e188 0
theorem nmJx8e188 : ∀ a, a < 0 → ∀ b, b < 0 → a ≠ b → (TJx8e188 a).2.1 ≠ (TJx8e188 b).2.1 := by decide +kernel
theorem tyJx8e188_ok : ∀ k, k < 0 → parseFieldDescriptor (TJx8e188 k).2.2.1 = some (tyJx8e188 k) := by decide +kernel
def RJxab1ab : String := "java/lang/Iterable"
def TJxab1ab : u_T := fun k => match k with
  | _ => ("", "", "", false)
def tyJxab1ab : Nat → FieldType := fun k => match k with
  | _ => .int
abbrev wsJxab1ab0 : List Cond := u_ws RJxab1ab TJxab1ab 0
theorem nmJxab1ab : ∀ a, a < 0 → ∀ b, b < 0 → a ≠ b → (TJxab1ab a).2.1 ≠ (TJxab1ab b).2.1 := by decide +kernel
theorem tyJxab1ab_ok : ∀ k, k < 0 → parseFieldDescriptor (TJxab1ab k).2.2.1 = some (tyJxab1ab k) := by decide +kernel
def RJ9 : String := "java/lang/Math"
def TJ9 : u_T := fun k => match k with
  | _ => ("", "", "", false)
def tyJ9 : Nat → FieldType := fun k => match k with
  | _ => .int
abbrev wsJ90 : List Cond := u_ws RJ9 TJ9 0
theorem nmJ9 : ∀ a, a < 0 → ∀ b, b < 0 → a ≠ b → (TJ9 a).2.1 ≠ (TJ9 b).2.1 := by decide +kernel
theorem tyJ9_ok : ∀ k, k < 0 → parseFieldDescriptor (TJ9 k).2.2.1 = some (tyJ9 k) := by decide +kernel
abbrev cJ9_max_7cf53 : ByteArray := prog_13_method_65_code
def yJ9_max_7cf53 : MethodName := ⟨RJ9, "max", "(II)I"⟩
abbrev cJ9_min_7cf53 : ByteArray := prog_13_method_69_code
def yJ9_min_7cf53 : MethodName := ⟨RJ9, "min", "(II)I"⟩
def RJ0 : String := "java/lang/String"
def TJ0 : u_T := fun k => match k with
  | _ => ("", "", "", false)
def tyJ0 : Nat → FieldType := fun k => match k with
  | _ => .int
abbrev wsJ00 : List Cond := u_ws RJ0 TJ0 0
theorem nmJ0 : ∀ a, a < 0 → ∀ b, b < 0 → a ≠ b → (TJ0 a).2.1 ≠ (TJ0 b).2.1 := by decide +kernel
theorem tyJ0_ok : ∀ k, k < 0 → parseFieldDescriptor (TJ0 k).2.2.1 = some (tyJ0 k) := by decide +kernel
def RJ10 : String := "java/lang/System"
def TJ10 : u_T := fun k => match k with
  | _ => ("", "", "", false)
def tyJ10 : Nat → FieldType := fun k => match k with
  | _ => .int
abbrev wsJ100 : List Cond := u_ws RJ10 TJ10 0
theorem nmJ10 : ∀ a, a < 0 → ∀ b, b < 0 → a ≠ b → (TJ10 a).2.1 ≠ (TJ10 b).2.1 := by decide +kernel
theorem tyJ10_ok : ∀ k, k < 0 → parseFieldDescriptor (TJ10 k).2.2.1 = some (tyJ10 k) := by decide +kernel
def RJxa1e45 : String := "java/util/AbstractCollection"
def TJxa1e45 : u_T := fun k => match k with
  | _ => ("", "", "", false)
def tyJxa1e45 : Nat → FieldType := fun k => match k with
  | _ => .int
abbrev wsJxa1e450 : List Cond := u_ws RJxa1e45 TJxa1e45 0
theorem nmJxa1e45 : ∀ a, a < 0 → ∀ b, b < 0 → a ≠ b → (TJxa1e45 a).2.1 ≠ (TJxa1e45 b).2.1 := by decide +kernel
theorem tyJxa1e45_ok : ∀ k, k < 0 → parseFieldDescriptor (TJxa1e45 k).2.2.1 = some (tyJxa1e45 k) := by decide +kernel
abbrev cJxa1e45_init_da8c8 : ByteArray := prog_18_method_1_code
def yJxa1e45_init_da8c8 : MethodName := ⟨RJxa1e45, "<init>", "()V"⟩
def RJxc12de : String := "java/util/AbstractList"
def TJxc12de : u_T := fun k => match k with
  | _ => ("", "", "", false)
def tyJxc12de : Nat → FieldType := fun k => match k with
  | _ => .int
abbrev wsJxc12de0 : List Cond := u_ws RJxc12de TJxc12de 0
theorem nmJxc12de : ∀ a, a < 0 → ∀ b, b < 0 → a ≠ b → (TJxc12de a).2.1 ≠ (TJxc12de b).2.1 := by decide +kernel
theorem tyJxc12de_ok : ∀ k, k < 0 → parseFieldDescriptor (TJxc12de k).2.2.1 = some (tyJxc12de k) := by decide +kernel
abbrev cJxc12de_init_da8c8 : ByteArray := prog_19_method_1_code
def yJxc12de_init_da8c8 : MethodName := ⟨RJxc12de, "<init>", "()V"⟩
def RJx4a65c : String := "java/util/ArrayList"
def TJx4a65c : u_T := fun k => match k with
  | 0 => ("java/util/AbstractList", "modCount", "I", false)
  | 1 => ("java/util/ArrayList", "elementData", "[Ljava/lang/Object;", false)
  | _ => ("java/util/ArrayList", "size", "I", false)
def tyJx4a65c : Nat → FieldType := fun k => match k with
  | 0 => .int
  | 1 => .array (.object "java/lang/Object")
  | _ => .int
abbrev wsJx4a65c0 : List Cond := u_ws RJx4a65c TJx4a65c 3
theorem nmJx4a65c : ∀ a, a < 3 → ∀ b, b < 3 → a ≠ b → (TJx4a65c a).2.1 ≠ (TJx4a65c b).2.1 := by decide +kernel
theorem tyJx4a65c_ok : ∀ k, k < 3 → parseFieldDescriptor (TJx4a65c k).2.2.1 = some (tyJx4a65c k) := by decide +kernel
abbrev cJx4a65c_init_da8c8 : ByteArray := prog_20_method_2_code
def yJx4a65c_init_da8c8 : MethodName := ⟨RJx4a65c, "<init>", "()V"⟩
abbrev cJx4a65c_grow_92f84 : ByteArray := prog_20_method_6_code
def yJx4a65c_grow_92f84 : MethodName := ⟨RJx4a65c, "grow", "(I)[Ljava/lang/Object;"⟩
abbrev cJx4a65c_grow_d5877 : ByteArray := prog_20_method_7_code
def yJx4a65c_grow_d5877 : MethodName := ⟨RJx4a65c, "grow", "()[Ljava/lang/Object;"⟩
abbrev cJx4a65c_size_8abf5 : ByteArray := prog_20_method_8_code
def yJx4a65c_size_8abf5 : MethodName := ⟨RJx4a65c, "size", "()I"⟩
abbrev cJx4a65c_elementData_915e3 : ByteArray := prog_20_method_18_code
def yJx4a65c_elementData_915e3 : MethodName := ⟨RJx4a65c, "elementData", "(I)Ljava/lang/Object;"⟩
abbrev cJx4a65c_get_915e3 : ByteArray := prog_20_method_20_code
def yJx4a65c_get_915e3 : MethodName := ⟨RJx4a65c, "get", "(I)Ljava/lang/Object;"⟩
abbrev cJx4a65c_add_72be8 : ByteArray := prog_20_method_24_code
def yJx4a65c_add_72be8 : MethodName := ⟨RJx4a65c, "add", "(Ljava/lang/Object;[Ljava/lang/Object;I)V"⟩
abbrev cJx4a65c_add_9ea2d : ByteArray := prog_20_method_25_code
def yJx4a65c_add_9ea2d : MethodName := ⟨RJx4a65c, "add", "(Ljava/lang/Object;)Z"⟩
abbrev cJx4a65c_remove_915e3 : ByteArray := prog_20_method_29_code
def yJx4a65c_remove_915e3 : MethodName := ⟨RJx4a65c, "remove", "(I)Ljava/lang/Object;"⟩
abbrev cJx4a65c_fastRemove_b59b0 : ByteArray := prog_20_method_39_code
def yJx4a65c_fastRemove_b59b0 : MethodName := ⟨RJx4a65c, "fastRemove", "([Ljava/lang/Object;I)V"⟩
def RJ7 : String := "java/util/Arrays"
def TJ7 : u_T := fun k => match k with
  | _ => ("", "", "", false)
def tyJ7 : Nat → FieldType := fun k => match k with
  | _ => .int
abbrev wsJ70 : List Cond := u_ws RJ7 TJ7 0
theorem nmJ7 : ∀ a, a < 0 → ∀ b, b < 0 → a ≠ b → (TJ7 a).2.1 ≠ (TJ7 b).2.1 := by decide +kernel
theorem tyJ7_ok : ∀ k, k < 0 → parseFieldDescriptor (TJ7 k).2.2.1 = some (tyJ7 k) := by decide +kernel
abbrev cJ7_fill_53178 : ByteArray := prog_21_method_103_code
def yJ7_fill_53178 : MethodName := ⟨RJ7, "fill", "([II)V"⟩
abbrev cJ7_copyOf_1904c : ByteArray := prog_21_method_119_code
def yJ7_copyOf_1904c : MethodName := ⟨RJ7, "copyOf", "([Ljava/lang/Object;I)[Ljava/lang/Object;"⟩
abbrev cJ7_copyOf_6403c : ByteArray := prog_21_method_120_code
def yJ7_copyOf_6403c : MethodName := ⟨RJ7, "copyOf", "([Ljava/lang/Object;ILjava/lang/Class;)[Ljava/lang/Object;"⟩
def RJx5ef63 : String := "java/util/Collection"
def TJx5ef63 : u_T := fun k => match k with
  | _ => ("", "", "", false)
def tyJx5ef63 : Nat → FieldType := fun k => match k with
  | _ => .int
abbrev wsJx5ef630 : List Cond := u_ws RJx5ef63 TJx5ef63 0
theorem nmJx5ef63 : ∀ a, a < 0 → ∀ b, b < 0 → a ≠ b → (TJx5ef63 a).2.1 ≠ (TJx5ef63 b).2.1 := by decide +kernel
theorem tyJx5ef63_ok : ∀ k, k < 0 → parseFieldDescriptor (TJx5ef63 k).2.2.1 = some (tyJx5ef63 k) := by decide +kernel
def RJxbd725 : String := "java/util/List"
def TJxbd725 : u_T := fun k => match k with
  | _ => ("", "", "", false)
def tyJxbd725 : Nat → FieldType := fun k => match k with
  | _ => .int
abbrev wsJxbd7250 : List Cond := u_ws RJxbd725 TJxbd725 0
theorem nmJxbd725 : ∀ a, a < 0 → ∀ b, b < 0 → a ≠ b → (TJxbd725 a).2.1 ≠ (TJxbd725 b).2.1 := by decide +kernel
theorem tyJxbd725_ok : ∀ k, k < 0 → parseFieldDescriptor (TJxbd725 k).2.2.1 = some (tyJxbd725 k) := by decide +kernel
def RJ15 : String := "java/util/Objects"
def TJ15 : u_T := fun k => match k with
  | _ => ("", "", "", false)
def tyJ15 : Nat → FieldType := fun k => match k with
  | _ => .int
abbrev wsJ150 : List Cond := u_ws RJ15 TJ15 0
theorem nmJ15 : ∀ a, a < 0 → ∀ b, b < 0 → a ≠ b → (TJ15 a).2.1 ≠ (TJ15 b).2.1 := by decide +kernel
theorem tyJ15_ok : ∀ k, k < 0 → parseFieldDescriptor (TJ15 k).2.2.1 = some (tyJ15 k) := by decide +kernel
abbrev cJ15_checkIndex_7cf53 : ByteArray := prog_24_method_17_code
def yJ15_checkIndex_7cf53 : MethodName := ⟨RJ15, "checkIndex", "(II)I"⟩
def RJxf0a74 : String := "java/util/RandomAccess"
def TJxf0a74 : u_T := fun k => match k with
  | _ => ("", "", "", false)
def tyJxf0a74 : Nat → FieldType := fun k => match k with
  | _ => .int
abbrev wsJxf0a740 : List Cond := u_ws RJxf0a74 TJxf0a74 0
theorem nmJxf0a74 : ∀ a, a < 0 → ∀ b, b < 0 → a ≠ b → (TJxf0a74 a).2.1 ≠ (TJxf0a74 b).2.1 := by decide +kernel
theorem tyJxf0a74_ok : ∀ k, k < 0 → parseFieldDescriptor (TJxf0a74 k).2.2.1 = some (tyJxf0a74 k) := by decide +kernel
def RJxa66e6 : String := "java/util/SequencedCollection"
def TJxa66e6 : u_T := fun k => match k with
  | _ => ("", "", "", false)
def tyJxa66e6 : Nat → FieldType := fun k => match k with
  | _ => .int
abbrev wsJxa66e60 : List Cond := u_ws RJxa66e6 TJxa66e6 0
theorem nmJxa66e6 : ∀ a, a < 0 → ∀ b, b < 0 → a ≠ b → (TJxa66e6 a).2.1 ≠ (TJxa66e6 b).2.1 := by decide +kernel
theorem tyJxa66e6_ok : ∀ k, k < 0 → parseFieldDescriptor (TJxa66e6 k).2.2.1 = some (tyJxa66e6 k) := by decide +kernel
def RJ8 : String := "jdk/internal/util/ArraysSupport"
def TJ8 : u_T := fun k => match k with
  | _ => ("", "", "", false)
def tyJ8 : Nat → FieldType := fun k => match k with
  | _ => .int
abbrev wsJ80 : List Cond := u_ws RJ8 TJ8 0
theorem nmJ8 : ∀ a, a < 0 → ∀ b, b < 0 → a ≠ b → (TJ8 a).2.1 ≠ (TJ8 b).2.1 := by decide +kernel
theorem tyJ8_ok : ∀ k, k < 0 → parseFieldDescriptor (TJ8 k).2.2.1 = some (tyJ8 k) := by decide +kernel
abbrev cJ8_newLength_cabcc : ByteArray := prog_27_method_27_code
def yJ8_newLength_cabcc : MethodName := ⟨RJ8, "newLength", "(III)I"⟩
abbrev cJ8_hugeLength_7cf53 : ByteArray := prog_27_method_28_code
def yJ8_hugeLength_7cf53 : MethodName := ⟨RJ8, "hugeLength", "(II)I"⟩
def RJ3 : String := "jdk/internal/util/Preconditions"
def TJ3 : u_T := fun k => match k with
  | _ => ("", "", "", false)
def tyJ3 : Nat → FieldType := fun k => match k with
  | _ => .int
abbrev wsJ30 : List Cond := u_ws RJ3 TJ3 0
theorem nmJ3 : ∀ a, a < 0 → ∀ b, b < 0 → a ≠ b → (TJ3 a).2.1 ≠ (TJ3 b).2.1 := by decide +kernel
theorem tyJ3_ok : ∀ k, k < 0 → parseFieldDescriptor (TJ3 k).2.2.1 = some (tyJ3 k) := by decide +kernel
abbrev cJ3_checkIndex_8e157 : ByteArray := prog_28_method_11_code
def yJ3_checkIndex_8e157 : MethodName := ⟨RJ3, "checkIndex", "(IILjava/util/function/BiFunction;)I"⟩
def RL : String := "LeftThingsLaw"
abbrev cL_setRoom : ByteArray := method_3_code
def yL_setRoom : MethodName := ⟨RL, "setRoom", "(LLeftThings;II[J)I"⟩
abbrev cL_setVan : ByteArray := method_4_code
def yL_setVan : MethodName := ⟨RL, "setVan", "(LLeftThings;I[J)I"⟩
abbrev cL_leave : ByteArray := method_5_code
def yL_leave : MethodName := ⟨RL, "leave", "(LLeftThings;III[J)I"⟩
abbrev cL_fetch : ByteArray := method_6_code
def yL_fetch : MethodName := ⟨RL, "fetch", "(LLeftThings;I[J)I"⟩
abbrev cL_want : ByteArray := method_7_code
def yL_want : MethodName := ⟨RL, "want", "(LLeftThings;II[J)I"⟩
abbrev cL_value : ByteArray := method_8_code
def yL_value : MethodName := ⟨RL, "value", "(LLeftThings;II[J)I"⟩
abbrev cL_lend : ByteArray := method_9_code
def yL_lend : MethodName := ⟨RL, "lend", "(LLeftThings;III)I"⟩
abbrev cL_repay : ByteArray := method_10_code
def yL_repay : MethodName := ⟨RL, "repay", "(LLeftThings;I[J)I"⟩
abbrev cL_doubt : ByteArray := method_11_code
def yL_doubt : MethodName := ⟨RL, "doubt", "(LLeftThings;I[J)I"⟩
abbrev cL_pass : ByteArray := method_12_code
def yL_pass : MethodName := ⟨RL, "pass", "(LLeftThings;I[J)I"⟩
abbrev cL_where : ByteArray := method_13_code
def yL_where : MethodName := ⟨RL, "where", "(LLeftThings;I[J)I"⟩
abbrev cL_whereOn : ByteArray := method_14_code
def yL_whereOn : MethodName := ⟨RL, "whereOn", "(LLeftThings;II[J)I"⟩
abbrev cL_load : ByteArray := method_15_code
def yL_load : MethodName := ⟨RL, "load", "(LLeftThings;I[J)I"⟩
abbrev cL_fees : ByteArray := method_16_code
def yL_fees : MethodName := ⟨RL, "fees", "(LLeftThings;I[J)I"⟩
abbrev cL_loan : ByteArray := method_17_code
def yL_loan : MethodName := ⟨RL, "loan", "(LLeftThings;I[J)I"⟩
abbrev cL_purse : ByteArray := method_18_code
def yL_purse : MethodName := ⟨RL, "purse", "(LLeftThings;I[J)I"⟩
abbrev cL_wish : ByteArray := method_19_code
def yL_wish : MethodName := ⟨RL, "wish", "(LLeftThings;I[J)I"⟩
abbrev cL_law : ByteArray := code
def yL_law : MethodName := ⟨RL, "law", "([I)Z"⟩
abbrev vwCl : List vw_C := [(RJx4a65c, TJx4a65c, 3), (RX0, TX0, 3), (RX1, TX1, 12), (RX2, TX2, 7), (RX3, TX3, 20)]
end
section
theorem dX0_init_0 : decode cX0_init 0 = .ok (.aload_n 0, 1) := by decide +kernel
theorem dX0_init_1 : decode cX0_init 1 = .ok (.invokespecial 1, 3) := by decide +kernel
theorem dX0_init_4 : decode cX0_init 4 = .ok (.aload_n 0, 1) := by decide +kernel
theorem dX0_init_5 : decode cX0_init 5 = .ok (.iload_n 1, 1) := by decide +kernel
theorem dX0_init_6 : decode cX0_init 6 = .ok (.putfield 7, 3) := by decide +kernel
theorem dX0_init_9 : decode cX0_init 9 = .ok (.aload_n 0, 1) := by decide +kernel
theorem dX0_init_10 : decode cX0_init 10 = .ok (.iload_n 2, 1) := by decide +kernel
theorem dX0_init_11 : decode cX0_init 11 = .ok (.putfield 13, 3) := by decide +kernel
theorem dX0_init_14 : decode cX0_init 14 = .ok (.aload_n 0, 1) := by decide +kernel
theorem dX0_init_15 : decode cX0_init 15 = .ok (.aload_n 3, 1) := by decide +kernel
theorem dX0_init_16 : decode cX0_init 16 = .ok (.putfield 16, 3) := by decide +kernel
theorem dX0_init_19 : decode cX0_init 19 = .ok (.return_, 1) := by decide +kernel
theorem dX1_init_0 : decode cX1_init 0 = .ok (.aload_n 0, 1) := by decide +kernel
theorem dX1_init_1 : decode cX1_init 1 = .ok (.invokespecial 3, 3) := by decide +kernel
theorem dX1_init_4 : decode cX1_init 4 = .ok (.aload_n 0, 1) := by decide +kernel
theorem dX1_init_5 : decode cX1_init 5 = .ok (.iconst (-1), 1) := by decide +kernel
theorem dX1_init_6 : decode cX1_init 6 = .ok (.putfield 9, 3) := by decide +kernel
theorem dX1_init_9 : decode cX1_init 9 = .ok (.aload_n 0, 1) := by decide +kernel
theorem dX1_init_10 : decode cX1_init 10 = .ok (.iconst 0, 1) := by decide +kernel
theorem dX1_init_11 : decode cX1_init 11 = .ok (.putfield 15, 3) := by decide +kernel
theorem dX1_init_14 : decode cX1_init 14 = .ok (.aload_n 0, 1) := by decide +kernel
theorem dX1_init_15 : decode cX1_init 15 = .ok (.iconst 0, 1) := by decide +kernel
theorem dX1_init_16 : decode cX1_init 16 = .ok (.putfield 18, 3) := by decide +kernel
theorem dX1_init_19 : decode cX1_init 19 = .ok (.aload_n 0, 1) := by decide +kernel
theorem dX1_init_20 : decode cX1_init 20 = .ok (.iconst (-1), 1) := by decide +kernel
theorem dX1_init_21 : decode cX1_init 21 = .ok (.putfield 21, 3) := by decide +kernel
theorem dX1_init_24 : decode cX1_init 24 = .ok (.aload_n 0, 1) := by decide +kernel
theorem dX1_init_25 : decode cX1_init 25 = .ok (.iconst (-1), 1) := by decide +kernel
theorem dX1_init_26 : decode cX1_init 26 = .ok (.putfield 24, 3) := by decide +kernel
theorem dX1_init_29 : decode cX1_init 29 = .ok (.aload_n 0, 1) := by decide +kernel
theorem dX1_init_30 : decode cX1_init 30 = .ok (.iload_n 1, 1) := by decide +kernel
theorem dX1_init_31 : decode cX1_init 31 = .ok (.putfield 27, 3) := by decide +kernel
theorem dX1_init_34 : decode cX1_init 34 = .ok (.aload_n 0, 1) := by decide +kernel
theorem dX1_init_35 : decode cX1_init 35 = .ok (.iload_n 2, 1) := by decide +kernel
theorem dX1_init_36 : decode cX1_init 36 = .ok (.putfield 30, 3) := by decide +kernel
theorem dX1_init_39 : decode cX1_init 39 = .ok (.aload_n 0, 1) := by decide +kernel
theorem dX1_init_40 : decode cX1_init 40 = .ok (.iload_n 3, 1) := by decide +kernel
theorem dX1_init_41 : decode cX1_init 41 = .ok (.putfield 33, 3) := by decide +kernel
theorem dX1_init_44 : decode cX1_init 44 = .ok (.aload_n 0, 1) := by decide +kernel
theorem dX1_init_45 : decode cX1_init 45 = .ok (.iload 5, 2) := by decide +kernel
theorem dX1_init_47 : decode cX1_init 47 = .ok (.putfield 36, 3) := by decide +kernel
theorem dX1_init_50 : decode cX1_init 50 = .ok (.aload_n 0, 1) := by decide +kernel
theorem dX1_init_51 : decode cX1_init 51 = .ok (.bipush 20, 2) := by decide +kernel
theorem dX1_init_53 : decode cX1_init 53 = .ok (.iload_n 3, 1) := by decide +kernel
theorem dX1_init_54 : decode cX1_init 54 = .ok (.imul, 1) := by decide +kernel
theorem dX1_init_55 : decode cX1_init 55 = .ok (.putfield 39, 3) := by decide +kernel
theorem dX1_init_58 : decode cX1_init 58 = .ok (.aload_n 0, 1) := by decide +kernel
theorem dX1_init_59 : decode cX1_init 59 = .ok (.iload 4, 2) := by decide +kernel
theorem dX1_init_61 : decode cX1_init 61 = .ok (.putfield 42, 3) := by decide +kernel
theorem dX1_init_64 : decode cX1_init 64 = .ok (.aload_n 0, 1) := by decide +kernel
theorem dX1_init_65 : decode cX1_init 65 = .ok (.new 45, 3) := by decide +kernel
theorem dX1_init_68 : decode cX1_init 68 = .ok (.dup, 1) := by decide +kernel
theorem dX1_init_69 : decode cX1_init 69 = .ok (.iload 4, 2) := by decide +kernel
theorem dX1_init_71 : decode cX1_init 71 = .ok (.iload 5, 2) := by decide +kernel
theorem dX1_init_73 : decode cX1_init 73 = .ok (.iconst 1, 1) := by decide +kernel
theorem dX1_init_74 : decode cX1_init 74 = .ok (.iadd, 1) := by decide +kernel
theorem dX1_init_75 : decode cX1_init 75 = .ok (.aconst_null, 1) := by decide +kernel
theorem dX1_init_76 : decode cX1_init 76 = .ok (.invokespecial 47, 3) := by decide +kernel
theorem dX1_init_79 : decode cX1_init 79 = .ok (.putfield 50, 3) := by decide +kernel
theorem dX1_init_82 : decode cX1_init 82 = .ok (.return_, 1) := by decide +kernel
theorem dX1_isAtCounter_0 : decode cX1_isAtCounter 0 = .ok (.aload_n 0, 1) := by decide +kernel
theorem dX1_isAtCounter_1 : decode cX1_isAtCounter 1 = .ok (.getfield 42, 3) := by decide +kernel
theorem dX1_isAtCounter_4 : decode cX1_isAtCounter 4 = .ok (.invokestatic 54, 3) := by decide +kernel
theorem dX1_isAtCounter_7 : decode cX1_isAtCounter 7 = .ok (.ireturn, 1) := by decide +kernel
theorem dX1_hasLoan_0 : decode cX1_hasLoan 0 = .ok (.aload_n 0, 1) := by decide +kernel
theorem dX1_hasLoan_1 : decode cX1_hasLoan 1 = .ok (.getfield 18, 3) := by decide +kernel
theorem dX1_hasLoan_4 : decode cX1_hasLoan 4 = .ok (.ifCond .le 7, 3) := by decide +kernel
theorem dX1_hasLoan_7 : decode cX1_hasLoan 7 = .ok (.iconst 1, 1) := by decide +kernel
theorem dX1_hasLoan_8 : decode cX1_hasLoan 8 = .ok (.goto 4, 3) := by decide +kernel
theorem dX1_hasLoan_11 : decode cX1_hasLoan 11 = .ok (.iconst 0, 1) := by decide +kernel
theorem dX1_hasLoan_12 : decode cX1_hasLoan 12 = .ok (.ireturn, 1) := by decide +kernel
theorem dX1_isCalled_0 : decode cX1_isCalled 0 = .ok (.aload_n 0, 1) := by decide +kernel
theorem dX1_isCalled_1 : decode cX1_isCalled 1 = .ok (.getfield 24, 3) := by decide +kernel
theorem dX1_isCalled_4 : decode cX1_isCalled 4 = .ok (.iconst (-1), 1) := by decide +kernel
theorem dX1_isCalled_5 : decode cX1_isCalled 5 = .ok (.if_icmp .eq 7, 3) := by decide +kernel
theorem dX1_isCalled_8 : decode cX1_isCalled 8 = .ok (.iconst 1, 1) := by decide +kernel
theorem dX1_isCalled_9 : decode cX1_isCalled 9 = .ok (.goto 4, 3) := by decide +kernel
theorem dX1_isCalled_12 : decode cX1_isCalled 12 = .ok (.iconst 0, 1) := by decide +kernel
theorem dX1_isCalled_13 : decode cX1_isCalled 13 = .ok (.ireturn, 1) := by decide +kernel
theorem dX1_beginLoan_0 : decode cX1_beginLoan 0 = .ok (.aload_n 0, 1) := by decide +kernel
theorem dX1_beginLoan_1 : decode cX1_beginLoan 1 = .ok (.iload_n 1, 1) := by decide +kernel
theorem dX1_beginLoan_2 : decode cX1_beginLoan 2 = .ok (.putfield 21, 3) := by decide +kernel
theorem dX1_beginLoan_5 : decode cX1_beginLoan 5 = .ok (.aload_n 0, 1) := by decide +kernel
theorem dX1_beginLoan_6 : decode cX1_beginLoan 6 = .ok (.iload_n 2, 1) := by decide +kernel
theorem dX1_beginLoan_7 : decode cX1_beginLoan 7 = .ok (.putfield 18, 3) := by decide +kernel
theorem dX1_beginLoan_10 : decode cX1_beginLoan 10 = .ok (.return_, 1) := by decide +kernel
theorem dX1_endLoan_0 : decode cX1_endLoan 0 = .ok (.aload_n 0, 1) := by decide +kernel
theorem dX1_endLoan_1 : decode cX1_endLoan 1 = .ok (.iconst (-1), 1) := by decide +kernel
theorem dX1_endLoan_2 : decode cX1_endLoan 2 = .ok (.putfield 21, 3) := by decide +kernel
theorem dX1_endLoan_5 : decode cX1_endLoan 5 = .ok (.aload_n 0, 1) := by decide +kernel
theorem dX1_endLoan_6 : decode cX1_endLoan 6 = .ok (.iconst 0, 1) := by decide +kernel
theorem dX1_endLoan_7 : decode cX1_endLoan 7 = .ok (.putfield 18, 3) := by decide +kernel
theorem dX1_endLoan_10 : decode cX1_endLoan 10 = .ok (.aload_n 0, 1) := by decide +kernel
theorem dX1_endLoan_11 : decode cX1_endLoan 11 = .ok (.iconst (-1), 1) := by decide +kernel
theorem dX1_endLoan_12 : decode cX1_endLoan 12 = .ok (.putfield 24, 3) := by decide +kernel
theorem dX1_endLoan_15 : decode cX1_endLoan 15 = .ok (.return_, 1) := by decide +kernel
theorem dX1_moveTo_0 : decode cX1_moveTo 0 = .ok (.aload_n 0, 1) := by decide +kernel
theorem dX1_moveTo_1 : decode cX1_moveTo 1 = .ok (.iload_n 1, 1) := by decide +kernel
theorem dX1_moveTo_2 : decode cX1_moveTo 2 = .ok (.putfield 42, 3) := by decide +kernel
theorem dX1_moveTo_5 : decode cX1_moveTo 5 = .ok (.aload_n 0, 1) := by decide +kernel
theorem dX1_moveTo_6 : decode cX1_moveTo 6 = .ok (.new 45, 3) := by decide +kernel
theorem dX1_moveTo_9 : decode cX1_moveTo 9 = .ok (.dup, 1) := by decide +kernel
theorem dX1_moveTo_10 : decode cX1_moveTo 10 = .ok (.iload_n 1, 1) := by decide +kernel
theorem dX1_moveTo_11 : decode cX1_moveTo 11 = .ok (.iload_n 2, 1) := by decide +kernel
theorem dX1_moveTo_12 : decode cX1_moveTo 12 = .ok (.iconst 1, 1) := by decide +kernel
theorem dX1_moveTo_13 : decode cX1_moveTo 13 = .ok (.iadd, 1) := by decide +kernel
theorem dX1_moveTo_14 : decode cX1_moveTo 14 = .ok (.aload_n 0, 1) := by decide +kernel
theorem dX1_moveTo_15 : decode cX1_moveTo 15 = .ok (.getfield 50, 3) := by decide +kernel
theorem dX1_moveTo_18 : decode cX1_moveTo 18 = .ok (.invokespecial 47, 3) := by decide +kernel
theorem dX1_moveTo_21 : decode cX1_moveTo 21 = .ok (.putfield 50, 3) := by decide +kernel
theorem dX1_moveTo_24 : decode cX1_moveTo 24 = .ok (.return_, 1) := by decide +kernel
theorem dX1_placeAtBeginningOf_0 : decode cX1_placeAtBeginningOf 0 = .ok (.aload_n 0, 1) := by decide +kernel
theorem dX1_placeAtBeginningOf_1 : decode cX1_placeAtBeginningOf 1 = .ok (.getfield 50, 3) := by decide +kernel
theorem dX1_placeAtBeginningOf_4 : decode cX1_placeAtBeginningOf 4 = .ok (.astore_n 2, 1) := by decide +kernel
theorem dX1_placeAtBeginningOf_5 : decode cX1_placeAtBeginningOf 5 = .ok (.aload_n 2, 1) := by decide +kernel
theorem dX1_placeAtBeginningOf_6 : decode cX1_placeAtBeginningOf 6 = .ok (.ifnull 24, 3) := by decide +kernel
theorem dX1_placeAtBeginningOf_9 : decode cX1_placeAtBeginningOf 9 = .ok (.aload_n 2, 1) := by decide +kernel
theorem dX1_placeAtBeginningOf_10 : decode cX1_placeAtBeginningOf 10 = .ok (.getfield 58, 3) := by decide +kernel
theorem dX1_placeAtBeginningOf_13 : decode cX1_placeAtBeginningOf 13 = .ok (.iload_n 1, 1) := by decide +kernel
theorem dX1_placeAtBeginningOf_14 : decode cX1_placeAtBeginningOf 14 = .ok (.if_icmp .gt 8, 3) := by decide +kernel
theorem dX1_placeAtBeginningOf_17 : decode cX1_placeAtBeginningOf 17 = .ok (.aload_n 2, 1) := by decide +kernel
theorem dX1_placeAtBeginningOf_18 : decode cX1_placeAtBeginningOf 18 = .ok (.getfield 61, 3) := by decide +kernel
theorem dX1_placeAtBeginningOf_21 : decode cX1_placeAtBeginningOf 21 = .ok (.ireturn, 1) := by decide +kernel
theorem dX1_placeAtBeginningOf_22 : decode cX1_placeAtBeginningOf 22 = .ok (.aload_n 2, 1) := by decide +kernel
theorem dX1_placeAtBeginningOf_23 : decode cX1_placeAtBeginningOf 23 = .ok (.getfield 62, 3) := by decide +kernel
theorem dX1_placeAtBeginningOf_26 : decode cX1_placeAtBeginningOf 26 = .ok (.astore_n 2, 1) := by decide +kernel
theorem dX1_placeAtBeginningOf_27 : decode cX1_placeAtBeginningOf 27 = .ok (.goto (-22), 3) := by decide +kernel
theorem dX1_placeAtBeginningOf_30 : decode cX1_placeAtBeginningOf 30 = .ok (.bipush 12, 2) := by decide +kernel
theorem dX1_placeAtBeginningOf_32 : decode cX1_placeAtBeginningOf 32 = .ok (.ireturn, 1) := by decide +kernel
theorem dX2_init_0 : decode cX2_init 0 = .ok (.aload_n 0, 1) := by decide +kernel
theorem dX2_init_1 : decode cX2_init 1 = .ok (.invokespecial 1, 3) := by decide +kernel
theorem dX2_init_4 : decode cX2_init 4 = .ok (.aload_n 0, 1) := by decide +kernel
theorem dX2_init_5 : decode cX2_init 5 = .ok (.iconst 5, 1) := by decide +kernel
theorem dX2_init_6 : decode cX2_init 6 = .ok (.newarray .int, 2) := by decide +kernel
theorem dX2_init_8 : decode cX2_init 8 = .ok (.putfield 9, 3) := by decide +kernel
theorem dX2_init_11 : decode cX2_init 11 = .ok (.aload_n 0, 1) := by decide +kernel
theorem dX2_init_12 : decode cX2_init 12 = .ok (.bipush 8, 2) := by decide +kernel
theorem dX2_init_14 : decode cX2_init 14 = .ok (.newarray .int, 2) := by decide +kernel
theorem dX2_init_16 : decode cX2_init 16 = .ok (.putfield 13, 3) := by decide +kernel
theorem dX2_init_19 : decode cX2_init 19 = .ok (.aload_n 0, 1) := by decide +kernel
theorem dX2_init_20 : decode cX2_init 20 = .ok (.new 16, 3) := by decide +kernel
theorem dX2_init_23 : decode cX2_init 23 = .ok (.dup, 1) := by decide +kernel
theorem dX2_init_24 : decode cX2_init 24 = .ok (.invokespecial 18, 3) := by decide +kernel
theorem dX2_init_27 : decode cX2_init 27 = .ok (.putfield 19, 3) := by decide +kernel
theorem dX2_init_30 : decode cX2_init 30 = .ok (.aload_n 0, 1) := by decide +kernel
theorem dX2_init_31 : decode cX2_init 31 = .ok (.new 16, 3) := by decide +kernel
theorem dX2_init_34 : decode cX2_init 34 = .ok (.dup, 1) := by decide +kernel
theorem dX2_init_35 : decode cX2_init 35 = .ok (.invokespecial 18, 3) := by decide +kernel
theorem dX2_init_38 : decode cX2_init 38 = .ok (.putfield 23, 3) := by decide +kernel
theorem dX2_init_41 : decode cX2_init 41 = .ok (.aload_n 0, 1) := by decide +kernel
theorem dX2_init_42 : decode cX2_init 42 = .ok (.bipush 6, 2) := by decide +kernel
theorem dX2_init_44 : decode cX2_init 44 = .ok (.putfield 26, 3) := by decide +kernel
theorem dX2_init_47 : decode cX2_init 47 = .ok (.aload_n 0, 1) := by decide +kernel
theorem dX2_init_48 : decode cX2_init 48 = .ok (.iconst 0, 1) := by decide +kernel
theorem dX2_init_49 : decode cX2_init 49 = .ok (.putfield 30, 3) := by decide +kernel
theorem dX2_init_52 : decode cX2_init 52 = .ok (.aload_n 0, 1) := by decide +kernel
theorem dX2_init_53 : decode cX2_init 53 = .ok (.iconst 0, 1) := by decide +kernel
theorem dX2_init_54 : decode cX2_init 54 = .ok (.putfield 33, 3) := by decide +kernel
theorem dX2_init_57 : decode cX2_init 57 = .ok (.aload_n 0, 1) := by decide +kernel
theorem dX2_init_58 : decode cX2_init 58 = .ok (.getfield 9, 3) := by decide +kernel
theorem dX2_init_61 : decode cX2_init 61 = .ok (.bipush 10, 2) := by decide +kernel
theorem dX2_init_63 : decode cX2_init 63 = .ok (.invokestatic 36, 3) := by decide +kernel
theorem dX2_init_66 : decode cX2_init 66 = .ok (.return_, 1) := by decide +kernel
theorem dX2_setRoom_0 : decode cX2_setRoom 0 = .ok (.iload_n 1, 1) := by decide +kernel
theorem dX2_setRoom_1 : decode cX2_setRoom 1 = .ok (.invokestatic 42, 3) := by decide +kernel
theorem dX2_setRoom_4 : decode cX2_setRoom 4 = .ok (.ifCond .eq 10, 3) := by decide +kernel
theorem dX2_setRoom_7 : decode cX2_setRoom 7 = .ok (.iload_n 2, 1) := by decide +kernel
theorem dX2_setRoom_8 : decode cX2_setRoom 8 = .ok (.invokestatic 46, 3) := by decide +kernel
theorem dX2_setRoom_11 : decode cX2_setRoom 11 = .ok (.ifCond .ne 13, 3) := by decide +kernel
theorem dX2_setRoom_14 : decode cX2_setRoom 14 = .ok (.new 49, 3) := by decide +kernel
theorem dX2_setRoom_17 : decode cX2_setRoom 17 = .ok (.dup, 1) := by decide +kernel
theorem dX2_setRoom_18 : decode cX2_setRoom 18 = .ok (.ldc 51, 2) := by decide +kernel
theorem dX2_setRoom_20 : decode cX2_setRoom 20 = .ok (.invokespecial 53, 3) := by decide +kernel
theorem dX2_setRoom_23 : decode cX2_setRoom 23 = .ok (.athrow, 1) := by decide +kernel
theorem dX2_setRoom_24 : decode cX2_setRoom 24 = .ok (.aload_n 0, 1) := by decide +kernel
theorem dX2_setRoom_25 : decode cX2_setRoom 25 = .ok (.getfield 9, 3) := by decide +kernel
theorem dX2_setRoom_28 : decode cX2_setRoom 28 = .ok (.iload_n 1, 1) := by decide +kernel
theorem dX2_setRoom_29 : decode cX2_setRoom 29 = .ok (.iaload, 1) := by decide +kernel
theorem dX2_setRoom_30 : decode cX2_setRoom 30 = .ok (.istore_n 3, 1) := by decide +kernel
theorem dX2_setRoom_31 : decode cX2_setRoom 31 = .ok (.aload_n 0, 1) := by decide +kernel
theorem dX2_setRoom_32 : decode cX2_setRoom 32 = .ok (.getfield 9, 3) := by decide +kernel
theorem dX2_setRoom_35 : decode cX2_setRoom 35 = .ok (.iload_n 1, 1) := by decide +kernel
theorem dX2_setRoom_36 : decode cX2_setRoom 36 = .ok (.iload_n 2, 1) := by decide +kernel
theorem dX2_setRoom_37 : decode cX2_setRoom 37 = .ok (.iastore, 1) := by decide +kernel
theorem dX2_setRoom_38 : decode cX2_setRoom 38 = .ok (.iload_n 3, 1) := by decide +kernel
theorem dX2_setRoom_39 : decode cX2_setRoom 39 = .ok (.ireturn, 1) := by decide +kernel
theorem dX2_setVan_0 : decode cX2_setVan 0 = .ok (.iload_n 1, 1) := by decide +kernel
theorem dX2_setVan_1 : decode cX2_setVan 1 = .ok (.invokestatic 46, 3) := by decide +kernel
theorem dX2_setVan_4 : decode cX2_setVan 4 = .ok (.ifCond .ne 13, 3) := by decide +kernel
theorem dX2_setVan_7 : decode cX2_setVan 7 = .ok (.new 49, 3) := by decide +kernel
theorem dX2_setVan_10 : decode cX2_setVan 10 = .ok (.dup, 1) := by decide +kernel
theorem dX2_setVan_11 : decode cX2_setVan 11 = .ok (.ldc 56, 2) := by decide +kernel
theorem dX2_setVan_13 : decode cX2_setVan 13 = .ok (.invokespecial 53, 3) := by decide +kernel
theorem dX2_setVan_16 : decode cX2_setVan 16 = .ok (.athrow, 1) := by decide +kernel
theorem dX2_setVan_17 : decode cX2_setVan 17 = .ok (.aload_n 0, 1) := by decide +kernel
theorem dX2_setVan_18 : decode cX2_setVan 18 = .ok (.getfield 26, 3) := by decide +kernel
theorem dX2_setVan_21 : decode cX2_setVan 21 = .ok (.istore_n 2, 1) := by decide +kernel
theorem dX2_setVan_22 : decode cX2_setVan 22 = .ok (.aload_n 0, 1) := by decide +kernel
theorem dX2_setVan_23 : decode cX2_setVan 23 = .ok (.iload_n 1, 1) := by decide +kernel
theorem dX2_setVan_24 : decode cX2_setVan 24 = .ok (.putfield 26, 3) := by decide +kernel
theorem dX2_setVan_27 : decode cX2_setVan 27 = .ok (.iload_n 2, 1) := by decide +kernel
theorem dX2_setVan_28 : decode cX2_setVan 28 = .ok (.ireturn, 1) := by decide +kernel
theorem dX2_leave_0 : decode cX2_leave 0 = .ok (.iload_n 1, 1) := by decide +kernel
theorem dX2_leave_1 : decode cX2_leave 1 = .ok (.invokestatic 58, 3) := by decide +kernel
theorem dX2_leave_4 : decode cX2_leave 4 = .ok (.ifCond .eq 20, 3) := by decide +kernel
theorem dX2_leave_7 : decode cX2_leave 7 = .ok (.iload_n 2, 1) := by decide +kernel
theorem dX2_leave_8 : decode cX2_leave 8 = .ok (.iconst 1, 1) := by decide +kernel
theorem dX2_leave_9 : decode cX2_leave 9 = .ok (.if_icmp .lt 15, 3) := by decide +kernel
theorem dX2_leave_12 : decode cX2_leave 12 = .ok (.iload_n 2, 1) := by decide +kernel
theorem dX2_leave_13 : decode cX2_leave 13 = .ok (.iconst 3, 1) := by decide +kernel
theorem dX2_leave_14 : decode cX2_leave 14 = .ok (.if_icmp .gt 10, 3) := by decide +kernel
theorem dX2_leave_17 : decode cX2_leave 17 = .ok (.iload_n 3, 1) := by decide +kernel
theorem dX2_leave_18 : decode cX2_leave 18 = .ok (.invokestatic 42, 3) := by decide +kernel
theorem dX2_leave_21 : decode cX2_leave 21 = .ok (.ifCond .ne 13, 3) := by decide +kernel
theorem dX2_leave_24 : decode cX2_leave 24 = .ok (.new 49, 3) := by decide +kernel
theorem dX2_leave_27 : decode cX2_leave 27 = .ok (.dup, 1) := by decide +kernel
theorem dX2_leave_28 : decode cX2_leave 28 = .ok (.ldc 61, 2) := by decide +kernel
theorem dX2_leave_30 : decode cX2_leave 30 = .ok (.invokespecial 53, 3) := by decide +kernel
theorem dX2_leave_33 : decode cX2_leave 33 = .ok (.athrow, 1) := by decide +kernel
theorem dX2_leave_34 : decode cX2_leave 34 = .ok (.aload_n 0, 1) := by decide +kernel
theorem dX2_leave_35 : decode cX2_leave 35 = .ok (.getfield 19, 3) := by decide +kernel
theorem dX2_leave_38 : decode cX2_leave 38 = .ok (.invokevirtual 63, 3) := by decide +kernel
theorem dX2_leave_41 : decode cX2_leave 41 = .ok (.istore 4, 2) := by decide +kernel
theorem dX2_leave_43 : decode cX2_leave 43 = .ok (.iload 4, 2) := by decide +kernel
theorem dX2_leave_45 : decode cX2_leave 45 = .ok (.bipush 24, 2) := by decide +kernel
theorem dX2_leave_47 : decode cX2_leave 47 = .ok (.if_icmp .ge 12, 3) := by decide +kernel
theorem dX2_leave_50 : decode cX2_leave 50 = .ok (.aload_n 0, 1) := by decide +kernel
theorem dX2_leave_51 : decode cX2_leave 51 = .ok (.iload_n 3, 1) := by decide +kernel
theorem dX2_leave_52 : decode cX2_leave 52 = .ok (.iload_n 2, 1) := by decide +kernel
theorem dX2_leave_53 : decode cX2_leave 53 = .ok (.invokevirtual 67, 3) := by decide +kernel
theorem dX2_leave_56 : decode cX2_leave 56 = .ok (.ifCond .ne 13, 3) := by decide +kernel
theorem dX2_leave_59 : decode cX2_leave 59 = .ok (.new 71, 3) := by decide +kernel
theorem dX2_leave_62 : decode cX2_leave 62 = .ok (.dup, 1) := by decide +kernel
theorem dX2_leave_63 : decode cX2_leave 63 = .ok (.ldc 73, 2) := by decide +kernel
theorem dX2_leave_65 : decode cX2_leave 65 = .ok (.invokespecial 75, 3) := by decide +kernel
theorem dX2_leave_68 : decode cX2_leave 68 = .ok (.athrow, 1) := by decide +kernel
theorem dX2_leave_69 : decode cX2_leave 69 = .ok (.aload_n 0, 1) := by decide +kernel
theorem dX2_leave_70 : decode cX2_leave 70 = .ok (.getfield 19, 3) := by decide +kernel
theorem dX2_leave_73 : decode cX2_leave 73 = .ok (.new 76, 3) := by decide +kernel
theorem dX2_leave_76 : decode cX2_leave 76 = .ok (.dup, 1) := by decide +kernel
theorem dX2_leave_77 : decode cX2_leave 77 = .ok (.iload 4, 2) := by decide +kernel
theorem dX2_leave_79 : decode cX2_leave 79 = .ok (.iload_n 1, 1) := by decide +kernel
theorem dX2_leave_80 : decode cX2_leave 80 = .ok (.iload_n 2, 1) := by decide +kernel
theorem dX2_leave_81 : decode cX2_leave 81 = .ok (.iload_n 3, 1) := by decide +kernel
theorem dX2_leave_82 : decode cX2_leave 82 = .ok (.aload_n 0, 1) := by decide +kernel
theorem dX2_leave_83 : decode cX2_leave 83 = .ok (.getfield 30, 3) := by decide +kernel
theorem dX2_leave_86 : decode cX2_leave 86 = .ok (.invokespecial 78, 3) := by decide +kernel
theorem dX2_leave_89 : decode cX2_leave 89 = .ok (.invokevirtual 81, 3) := by decide +kernel
theorem dX2_leave_92 : decode cX2_leave 92 = .ok (.pop, 1) := by decide +kernel
theorem dX2_leave_93 : decode cX2_leave 93 = .ok (.iload 4, 2) := by decide +kernel
theorem dX2_leave_95 : decode cX2_leave 95 = .ok (.ireturn, 1) := by decide +kernel
theorem dX2_fetch_0 : decode cX2_fetch 0 = .ok (.aload_n 0, 1) := by decide +kernel
theorem dX2_fetch_1 : decode cX2_fetch 1 = .ok (.iload_n 1, 1) := by decide +kernel
theorem dX2_fetch_2 : decode cX2_fetch 2 = .ok (.invokevirtual 85, 3) := by decide +kernel
theorem dX2_fetch_5 : decode cX2_fetch 5 = .ok (.astore_n 2, 1) := by decide +kernel
theorem dX2_fetch_6 : decode cX2_fetch 6 = .ok (.aload_n 2, 1) := by decide +kernel
theorem dX2_fetch_7 : decode cX2_fetch 7 = .ok (.invokevirtual 89, 3) := by decide +kernel
theorem dX2_fetch_10 : decode cX2_fetch 10 = .ok (.ifCond .eq 10, 3) := by decide +kernel
theorem dX2_fetch_13 : decode cX2_fetch 13 = .ok (.aload_n 2, 1) := by decide +kernel
theorem dX2_fetch_14 : decode cX2_fetch 14 = .ok (.invokevirtual 93, 3) := by decide +kernel
theorem dX2_fetch_17 : decode cX2_fetch 17 = .ok (.ifCond .eq 13, 3) := by decide +kernel
theorem dX2_fetch_20 : decode cX2_fetch 20 = .ok (.new 71, 3) := by decide +kernel
theorem dX2_fetch_23 : decode cX2_fetch 23 = .ok (.dup, 1) := by decide +kernel
theorem dX2_fetch_24 : decode cX2_fetch 24 = .ok (.ldc 96, 2) := by decide +kernel
theorem dX2_fetch_26 : decode cX2_fetch 26 = .ok (.invokespecial 75, 3) := by decide +kernel
theorem dX2_fetch_29 : decode cX2_fetch 29 = .ok (.athrow, 1) := by decide +kernel
theorem dX2_fetch_30 : decode cX2_fetch 30 = .ok (.aload_n 2, 1) := by decide +kernel
theorem dX2_fetch_31 : decode cX2_fetch 31 = .ok (.getfield 98, 3) := by decide +kernel
theorem dX2_fetch_34 : decode cX2_fetch 34 = .ok (.istore_n 3, 1) := by decide +kernel
theorem dX2_fetch_35 : decode cX2_fetch 35 = .ok (.aload_n 0, 1) := by decide +kernel
theorem dX2_fetch_36 : decode cX2_fetch 36 = .ok (.aload_n 2, 1) := by decide +kernel
theorem dX2_fetch_37 : decode cX2_fetch 37 = .ok (.iload_n 3, 1) := by decide +kernel
theorem dX2_fetch_38 : decode cX2_fetch 38 = .ok (.bipush 10, 2) := by decide +kernel
theorem dX2_fetch_40 : decode cX2_fetch 40 = .ok (.invokevirtual 101, 3) := by decide +kernel
theorem dX2_fetch_43 : decode cX2_fetch 43 = .ok (.iload_n 3, 1) := by decide +kernel
theorem dX2_fetch_44 : decode cX2_fetch 44 = .ok (.ireturn, 1) := by decide +kernel
theorem dX2_want_0 : decode cX2_want 0 = .ok (.aload_n 0, 1) := by decide +kernel
theorem dX2_want_1 : decode cX2_want 1 = .ok (.iload_n 1, 1) := by decide +kernel
theorem dX2_want_2 : decode cX2_want 2 = .ok (.invokevirtual 85, 3) := by decide +kernel
theorem dX2_want_5 : decode cX2_want 5 = .ok (.astore_n 3, 1) := by decide +kernel
theorem dX2_want_6 : decode cX2_want 6 = .ok (.iload_n 2, 1) := by decide +kernel
theorem dX2_want_7 : decode cX2_want 7 = .ok (.invokestatic 42, 3) := by decide +kernel
theorem dX2_want_10 : decode cX2_want 10 = .ok (.ifCond .ne 13, 3) := by decide +kernel
theorem dX2_want_13 : decode cX2_want 13 = .ok (.new 49, 3) := by decide +kernel
theorem dX2_want_16 : decode cX2_want 16 = .ok (.dup, 1) := by decide +kernel
theorem dX2_want_17 : decode cX2_want 17 = .ok (.ldc 105, 2) := by decide +kernel
theorem dX2_want_19 : decode cX2_want 19 = .ok (.invokespecial 53, 3) := by decide +kernel
theorem dX2_want_22 : decode cX2_want 22 = .ok (.athrow, 1) := by decide +kernel
theorem dX2_want_23 : decode cX2_want 23 = .ok (.aload_n 3, 1) := by decide +kernel
theorem dX2_want_24 : decode cX2_want 24 = .ok (.invokevirtual 89, 3) := by decide +kernel
theorem dX2_want_27 : decode cX2_want 27 = .ok (.ifCond .eq 11, 3) := by decide +kernel
theorem dX2_want_30 : decode cX2_want 30 = .ok (.aload_n 3, 1) := by decide +kernel
theorem dX2_want_31 : decode cX2_want 31 = .ok (.getfield 107, 3) := by decide +kernel
theorem dX2_want_34 : decode cX2_want 34 = .ok (.iload_n 2, 1) := by decide +kernel
theorem dX2_want_35 : decode cX2_want 35 = .ok (.if_icmp .ne 13, 3) := by decide +kernel
theorem dX2_want_38 : decode cX2_want 38 = .ok (.new 71, 3) := by decide +kernel
theorem dX2_want_41 : decode cX2_want 41 = .ok (.dup, 1) := by decide +kernel
theorem dX2_want_42 : decode cX2_want 42 = .ok (.ldc 110, 2) := by decide +kernel
theorem dX2_want_44 : decode cX2_want 44 = .ok (.invokespecial 75, 3) := by decide +kernel
theorem dX2_want_47 : decode cX2_want 47 = .ok (.athrow, 1) := by decide +kernel
theorem dX2_want_48 : decode cX2_want 48 = .ok (.aload_n 3, 1) := by decide +kernel
theorem dX2_want_49 : decode cX2_want 49 = .ok (.iconst (-1), 1) := by decide +kernel
theorem dX2_want_50 : decode cX2_want 50 = .ok (.putfield 112, 3) := by decide +kernel
theorem dX2_want_53 : decode cX2_want 53 = .ok (.aload_n 0, 1) := by decide +kernel
theorem dX2_want_54 : decode cX2_want 54 = .ok (.invokevirtual 115, 3) := by decide +kernel
theorem dX2_want_57 : decode cX2_want 57 = .ok (.aload_n 3, 1) := by decide +kernel
theorem dX2_want_58 : decode cX2_want 58 = .ok (.iload_n 2, 1) := by decide +kernel
theorem dX2_want_59 : decode cX2_want 59 = .ok (.putfield 112, 3) := by decide +kernel
theorem dX2_want_62 : decode cX2_want 62 = .ok (.aload_n 0, 1) := by decide +kernel
theorem dX2_want_63 : decode cX2_want 63 = .ok (.getfield 23, 3) := by decide +kernel
theorem dX2_want_66 : decode cX2_want 66 = .ok (.aload_n 3, 1) := by decide +kernel
theorem dX2_want_67 : decode cX2_want 67 = .ok (.invokevirtual 81, 3) := by decide +kernel
theorem dX2_want_70 : decode cX2_want 70 = .ok (.pop, 1) := by decide +kernel
theorem dX2_want_71 : decode cX2_want 71 = .ok (.aload_n 0, 1) := by decide +kernel
theorem dX2_want_72 : decode cX2_want 72 = .ok (.getfield 23, 3) := by decide +kernel
theorem dX2_want_75 : decode cX2_want 75 = .ok (.invokevirtual 63, 3) := by decide +kernel
theorem dX2_want_78 : decode cX2_want 78 = .ok (.ireturn, 1) := by decide +kernel
theorem dX2_value_0 : decode cX2_value 0 = .ok (.aload_n 0, 1) := by decide +kernel
theorem dX2_value_1 : decode cX2_value 1 = .ok (.iload_n 1, 1) := by decide +kernel
theorem dX2_value_2 : decode cX2_value 2 = .ok (.invokevirtual 85, 3) := by decide +kernel
theorem dX2_value_5 : decode cX2_value 5 = .ok (.astore_n 3, 1) := by decide +kernel
theorem dX2_value_6 : decode cX2_value 6 = .ok (.iload_n 2, 1) := by decide +kernel
theorem dX2_value_7 : decode cX2_value 7 = .ok (.ifCond .lt 10, 3) := by decide +kernel
theorem dX2_value_10 : decode cX2_value 10 = .ok (.iload_n 2, 1) := by decide +kernel
theorem dX2_value_11 : decode cX2_value 11 = .ok (.sipush 10000, 3) := by decide +kernel
theorem dX2_value_14 : decode cX2_value 14 = .ok (.if_icmp .le 13, 3) := by decide +kernel
theorem dX2_value_17 : decode cX2_value 17 = .ok (.new 49, 3) := by decide +kernel
theorem dX2_value_20 : decode cX2_value 20 = .ok (.dup, 1) := by decide +kernel
theorem dX2_value_21 : decode cX2_value 21 = .ok (.ldc 118, 2) := by decide +kernel
theorem dX2_value_23 : decode cX2_value 23 = .ok (.invokespecial 53, 3) := by decide +kernel
theorem dX2_value_26 : decode cX2_value 26 = .ok (.athrow, 1) := by decide +kernel
theorem dX2_value_27 : decode cX2_value 27 = .ok (.aload_n 3, 1) := by decide +kernel
theorem dX2_value_28 : decode cX2_value 28 = .ok (.invokevirtual 89, 3) := by decide +kernel
theorem dX2_value_31 : decode cX2_value 31 = .ok (.ifCond .ne 13, 3) := by decide +kernel
theorem dX2_value_34 : decode cX2_value 34 = .ok (.new 71, 3) := by decide +kernel
theorem dX2_value_37 : decode cX2_value 37 = .ok (.dup, 1) := by decide +kernel
theorem dX2_value_38 : decode cX2_value 38 = .ok (.ldc 120, 2) := by decide +kernel
theorem dX2_value_40 : decode cX2_value 40 = .ok (.invokespecial 75, 3) := by decide +kernel
theorem dX2_value_43 : decode cX2_value 43 = .ok (.athrow, 1) := by decide +kernel
theorem dX2_value_44 : decode cX2_value 44 = .ok (.aload_n 3, 1) := by decide +kernel
theorem dX2_value_45 : decode cX2_value 45 = .ok (.getfield 122, 3) := by decide +kernel
theorem dX2_value_48 : decode cX2_value 48 = .ok (.istore 4, 2) := by decide +kernel
theorem dX2_value_50 : decode cX2_value 50 = .ok (.aload_n 3, 1) := by decide +kernel
theorem dX2_value_51 : decode cX2_value 51 = .ok (.iload_n 2, 1) := by decide +kernel
theorem dX2_value_52 : decode cX2_value 52 = .ok (.putfield 122, 3) := by decide +kernel
theorem dX2_value_55 : decode cX2_value 55 = .ok (.iload 4, 2) := by decide +kernel
theorem dX2_value_57 : decode cX2_value 57 = .ok (.ireturn, 1) := by decide +kernel
theorem dX2_lend_0 : decode cX2_lend 0 = .ok (.aload_n 0, 1) := by decide +kernel
theorem dX2_lend_1 : decode cX2_lend 1 = .ok (.iload_n 1, 1) := by decide +kernel
theorem dX2_lend_2 : decode cX2_lend 2 = .ok (.invokevirtual 85, 3) := by decide +kernel
theorem dX2_lend_5 : decode cX2_lend 5 = .ok (.astore 4, 2) := by decide +kernel
theorem dX2_lend_7 : decode cX2_lend 7 = .ok (.iload_n 2, 1) := by decide +kernel
theorem dX2_lend_8 : decode cX2_lend 8 = .ok (.invokestatic 58, 3) := by decide +kernel
theorem dX2_lend_11 : decode cX2_lend 11 = .ok (.ifCond .eq 15, 3) := by decide +kernel
theorem dX2_lend_14 : decode cX2_lend 14 = .ok (.iload_n 3, 1) := by decide +kernel
theorem dX2_lend_15 : decode cX2_lend 15 = .ok (.iconst 1, 1) := by decide +kernel
theorem dX2_lend_16 : decode cX2_lend 16 = .ok (.if_icmp .lt 10, 3) := by decide +kernel
theorem dX2_lend_19 : decode cX2_lend 19 = .ok (.iload_n 3, 1) := by decide +kernel
theorem dX2_lend_20 : decode cX2_lend 20 = .ok (.sipush 5000, 3) := by decide +kernel
theorem dX2_lend_23 : decode cX2_lend 23 = .ok (.if_icmp .le 13, 3) := by decide +kernel
theorem dX2_lend_26 : decode cX2_lend 26 = .ok (.new 49, 3) := by decide +kernel
theorem dX2_lend_29 : decode cX2_lend 29 = .ok (.dup, 1) := by decide +kernel
theorem dX2_lend_30 : decode cX2_lend 30 = .ok (.ldc 125, 2) := by decide +kernel
theorem dX2_lend_32 : decode cX2_lend 32 = .ok (.invokespecial 53, 3) := by decide +kernel
theorem dX2_lend_35 : decode cX2_lend 35 = .ok (.athrow, 1) := by decide +kernel
theorem dX2_lend_36 : decode cX2_lend 36 = .ok (.aload 4, 2) := by decide +kernel
theorem dX2_lend_38 : decode cX2_lend 38 = .ok (.invokevirtual 89, 3) := by decide +kernel
theorem dX2_lend_41 : decode cX2_lend 41 = .ok (.ifCond .eq 11, 3) := by decide +kernel
theorem dX2_lend_44 : decode cX2_lend 44 = .ok (.aload 4, 2) := by decide +kernel
theorem dX2_lend_46 : decode cX2_lend 46 = .ok (.invokevirtual 93, 3) := by decide +kernel
theorem dX2_lend_49 : decode cX2_lend 49 = .ok (.ifCond .eq 13, 3) := by decide +kernel
theorem dX2_lend_52 : decode cX2_lend 52 = .ok (.new 71, 3) := by decide +kernel
theorem dX2_lend_55 : decode cX2_lend 55 = .ok (.dup, 1) := by decide +kernel
theorem dX2_lend_56 : decode cX2_lend 56 = .ok (.ldc 96, 2) := by decide +kernel
theorem dX2_lend_58 : decode cX2_lend 58 = .ok (.invokespecial 75, 3) := by decide +kernel
theorem dX2_lend_61 : decode cX2_lend 61 = .ok (.athrow, 1) := by decide +kernel
theorem dX2_lend_62 : decode cX2_lend 62 = .ok (.iload_n 2, 1) := by decide +kernel
theorem dX2_lend_63 : decode cX2_lend 63 = .ok (.aload 4, 2) := by decide +kernel
theorem dX2_lend_65 : decode cX2_lend 65 = .ok (.getfield 127, 3) := by decide +kernel
theorem dX2_lend_68 : decode cX2_lend 68 = .ok (.if_icmp .eq 14, 3) := by decide +kernel
theorem dX2_lend_71 : decode cX2_lend 71 = .ok (.iload_n 3, 1) := by decide +kernel
theorem dX2_lend_72 : decode cX2_lend 72 = .ok (.aload 4, 2) := by decide +kernel
theorem dX2_lend_74 : decode cX2_lend 74 = .ok (.getfield 122, 3) := by decide +kernel
theorem dX2_lend_77 : decode cX2_lend 77 = .ok (.iconst 2, 1) := by decide +kernel
theorem dX2_lend_78 : decode cX2_lend 78 = .ok (.idiv, 1) := by decide +kernel
theorem dX2_lend_79 : decode cX2_lend 79 = .ok (.if_icmp .le 13, 3) := by decide +kernel
theorem dX2_lend_82 : decode cX2_lend 82 = .ok (.new 71, 3) := by decide +kernel
theorem dX2_lend_85 : decode cX2_lend 85 = .ok (.dup, 1) := by decide +kernel
theorem dX2_lend_86 : decode cX2_lend 86 = .ok (.ldc 130, 2) := by decide +kernel
theorem dX2_lend_88 : decode cX2_lend 88 = .ok (.invokespecial 75, 3) := by decide +kernel
theorem dX2_lend_91 : decode cX2_lend 91 = .ok (.athrow, 1) := by decide +kernel
theorem dX2_lend_92 : decode cX2_lend 92 = .ok (.aload 4, 2) := by decide +kernel
theorem dX2_lend_94 : decode cX2_lend 94 = .ok (.iload_n 2, 1) := by decide +kernel
theorem dX2_lend_95 : decode cX2_lend 95 = .ok (.iload_n 3, 1) := by decide +kernel
theorem dX2_lend_96 : decode cX2_lend 96 = .ok (.invokevirtual 132, 3) := by decide +kernel
theorem dX2_lend_99 : decode cX2_lend 99 = .ok (.aload_n 0, 1) := by decide +kernel
theorem dX2_lend_100 : decode cX2_lend 100 = .ok (.aload 4, 2) := by decide +kernel
theorem dX2_lend_102 : decode cX2_lend 102 = .ok (.getfield 127, 3) := by decide +kernel
theorem dX2_lend_105 : decode cX2_lend 105 = .ok (.iload_n 3, 1) := by decide +kernel
theorem dX2_lend_106 : decode cX2_lend 106 = .ok (.invokevirtual 136, 3) := by decide +kernel
theorem dX2_lend_109 : decode cX2_lend 109 = .ok (.return_, 1) := by decide +kernel
theorem dX2_repay_0 : decode cX2_repay 0 = .ok (.aload_n 0, 1) := by decide +kernel
theorem dX2_repay_1 : decode cX2_repay 1 = .ok (.iload_n 1, 1) := by decide +kernel
theorem dX2_repay_2 : decode cX2_repay 2 = .ok (.invokevirtual 85, 3) := by decide +kernel
theorem dX2_repay_5 : decode cX2_repay 5 = .ok (.astore_n 2, 1) := by decide +kernel
theorem dX2_repay_6 : decode cX2_repay 6 = .ok (.aload_n 2, 1) := by decide +kernel
theorem dX2_repay_7 : decode cX2_repay 7 = .ok (.invokevirtual 93, 3) := by decide +kernel
theorem dX2_repay_10 : decode cX2_repay 10 = .ok (.ifCond .ne 13, 3) := by decide +kernel
theorem dX2_repay_13 : decode cX2_repay 13 = .ok (.new 71, 3) := by decide +kernel
theorem dX2_repay_16 : decode cX2_repay 16 = .ok (.dup, 1) := by decide +kernel
theorem dX2_repay_17 : decode cX2_repay 17 = .ok (.ldc 139, 2) := by decide +kernel
theorem dX2_repay_19 : decode cX2_repay 19 = .ok (.invokespecial 75, 3) := by decide +kernel
theorem dX2_repay_22 : decode cX2_repay 22 = .ok (.athrow, 1) := by decide +kernel
theorem dX2_repay_23 : decode cX2_repay 23 = .ok (.aload_n 2, 1) := by decide +kernel
theorem dX2_repay_24 : decode cX2_repay 24 = .ok (.getfield 141, 3) := by decide +kernel
theorem dX2_repay_27 : decode cX2_repay 27 = .ok (.istore_n 3, 1) := by decide +kernel
theorem dX2_repay_28 : decode cX2_repay 28 = .ok (.aload_n 0, 1) := by decide +kernel
theorem dX2_repay_29 : decode cX2_repay 29 = .ok (.aload_n 2, 1) := by decide +kernel
theorem dX2_repay_30 : decode cX2_repay 30 = .ok (.getfield 144, 3) := by decide +kernel
theorem dX2_repay_33 : decode cX2_repay 33 = .ok (.iload_n 3, 1) := by decide +kernel
theorem dX2_repay_34 : decode cX2_repay 34 = .ok (.invokevirtual 136, 3) := by decide +kernel
theorem dX2_repay_37 : decode cX2_repay 37 = .ok (.aload_n 2, 1) := by decide +kernel
theorem dX2_repay_38 : decode cX2_repay 38 = .ok (.invokevirtual 147, 3) := by decide +kernel
theorem dX2_repay_41 : decode cX2_repay 41 = .ok (.iload_n 3, 1) := by decide +kernel
theorem dX2_repay_42 : decode cX2_repay 42 = .ok (.ireturn, 1) := by decide +kernel
theorem dX2_doubt_0 : decode cX2_doubt 0 = .ok (.aload_n 0, 1) := by decide +kernel
theorem dX2_doubt_1 : decode cX2_doubt 1 = .ok (.iload_n 1, 1) := by decide +kernel
theorem dX2_doubt_2 : decode cX2_doubt 2 = .ok (.invokevirtual 85, 3) := by decide +kernel
theorem dX2_doubt_5 : decode cX2_doubt 5 = .ok (.astore_n 2, 1) := by decide +kernel
theorem dX2_doubt_6 : decode cX2_doubt 6 = .ok (.aload_n 2, 1) := by decide +kernel
theorem dX2_doubt_7 : decode cX2_doubt 7 = .ok (.invokevirtual 93, 3) := by decide +kernel
theorem dX2_doubt_10 : decode cX2_doubt 10 = .ok (.ifCond .eq 10, 3) := by decide +kernel
theorem dX2_doubt_13 : decode cX2_doubt 13 = .ok (.aload_n 2, 1) := by decide +kernel
theorem dX2_doubt_14 : decode cX2_doubt 14 = .ok (.invokevirtual 150, 3) := by decide +kernel
theorem dX2_doubt_17 : decode cX2_doubt 17 = .ok (.ifCond .eq 13, 3) := by decide +kernel
theorem dX2_doubt_20 : decode cX2_doubt 20 = .ok (.new 71, 3) := by decide +kernel
theorem dX2_doubt_23 : decode cX2_doubt 23 = .ok (.dup, 1) := by decide +kernel
theorem dX2_doubt_24 : decode cX2_doubt 24 = .ok (.ldc 153, 2) := by decide +kernel
theorem dX2_doubt_26 : decode cX2_doubt 26 = .ok (.invokespecial 75, 3) := by decide +kernel
theorem dX2_doubt_29 : decode cX2_doubt 29 = .ok (.athrow, 1) := by decide +kernel
theorem dX2_doubt_30 : decode cX2_doubt 30 = .ok (.aload_n 2, 1) := by decide +kernel
theorem dX2_doubt_31 : decode cX2_doubt 31 = .ok (.aload_n 0, 1) := by decide +kernel
theorem dX2_doubt_32 : decode cX2_doubt 32 = .ok (.getfield 30, 3) := by decide +kernel
theorem dX2_doubt_35 : decode cX2_doubt 35 = .ok (.iconst 3, 1) := by decide +kernel
theorem dX2_doubt_36 : decode cX2_doubt 36 = .ok (.iadd, 1) := by decide +kernel
theorem dX2_doubt_37 : decode cX2_doubt 37 = .ok (.putfield 155, 3) := by decide +kernel
theorem dX2_doubt_40 : decode cX2_doubt 40 = .ok (.aload_n 2, 1) := by decide +kernel
theorem dX2_doubt_41 : decode cX2_doubt 41 = .ok (.getfield 155, 3) := by decide +kernel
theorem dX2_doubt_44 : decode cX2_doubt 44 = .ok (.ireturn, 1) := by decide +kernel
theorem dX2_pass_0 : decode cX2_pass 0 = .ok (.iload_n 1, 1) := by decide +kernel
theorem dX2_pass_1 : decode cX2_pass 1 = .ok (.iconst 1, 1) := by decide +kernel
theorem dX2_pass_2 : decode cX2_pass 2 = .ok (.if_icmp .lt 9, 3) := by decide +kernel
theorem dX2_pass_5 : decode cX2_pass 5 = .ok (.iload_n 1, 1) := by decide +kernel
theorem dX2_pass_6 : decode cX2_pass 6 = .ok (.bipush 40, 2) := by decide +kernel
theorem dX2_pass_8 : decode cX2_pass 8 = .ok (.if_icmp .le 13, 3) := by decide +kernel
theorem dX2_pass_11 : decode cX2_pass 11 = .ok (.new 49, 3) := by decide +kernel
theorem dX2_pass_14 : decode cX2_pass 14 = .ok (.dup, 1) := by decide +kernel
theorem dX2_pass_15 : decode cX2_pass 15 = .ok (.ldc 158, 2) := by decide +kernel
theorem dX2_pass_17 : decode cX2_pass 17 = .ok (.invokespecial 53, 3) := by decide +kernel
theorem dX2_pass_20 : decode cX2_pass 20 = .ok (.athrow, 1) := by decide +kernel
theorem dX2_pass_21 : decode cX2_pass 21 = .ok (.aload_n 0, 1) := by decide +kernel
theorem dX2_pass_22 : decode cX2_pass 22 = .ok (.getfield 30, 3) := by decide +kernel
theorem dX2_pass_25 : decode cX2_pass 25 = .ok (.iload_n 1, 1) := by decide +kernel
theorem dX2_pass_26 : decode cX2_pass 26 = .ok (.iadd, 1) := by decide +kernel
theorem dX2_pass_27 : decode cX2_pass 27 = .ok (.sipush 1000, 3) := by decide +kernel
theorem dX2_pass_30 : decode cX2_pass 30 = .ok (.if_icmp .le 13, 3) := by decide +kernel
theorem dX2_pass_33 : decode cX2_pass 33 = .ok (.new 71, 3) := by decide +kernel
theorem dX2_pass_36 : decode cX2_pass 36 = .ok (.dup, 1) := by decide +kernel
theorem dX2_pass_37 : decode cX2_pass 37 = .ok (.ldc 160, 2) := by decide +kernel
theorem dX2_pass_39 : decode cX2_pass 39 = .ok (.invokespecial 75, 3) := by decide +kernel
theorem dX2_pass_42 : decode cX2_pass 42 = .ok (.athrow, 1) := by decide +kernel
theorem dX2_pass_43 : decode cX2_pass 43 = .ok (.iconst 0, 1) := by decide +kernel
theorem dX2_pass_44 : decode cX2_pass 44 = .ok (.istore_n 2, 1) := by decide +kernel
theorem dX2_pass_45 : decode cX2_pass 45 = .ok (.iconst 0, 1) := by decide +kernel
theorem dX2_pass_46 : decode cX2_pass 46 = .ok (.istore_n 3, 1) := by decide +kernel
theorem dX2_pass_47 : decode cX2_pass 47 = .ok (.iload_n 3, 1) := by decide +kernel
theorem dX2_pass_48 : decode cX2_pass 48 = .ok (.iload_n 1, 1) := by decide +kernel
theorem dX2_pass_49 : decode cX2_pass 49 = .ok (.if_icmp .ge 16, 3) := by decide +kernel
theorem dX2_pass_52 : decode cX2_pass 52 = .ok (.iload_n 2, 1) := by decide +kernel
theorem dX2_pass_53 : decode cX2_pass 53 = .ok (.aload_n 0, 1) := by decide +kernel
theorem dX2_pass_54 : decode cX2_pass 54 = .ok (.invokevirtual 162, 3) := by decide +kernel
theorem dX2_pass_57 : decode cX2_pass 57 = .ok (.iadd, 1) := by decide +kernel
theorem dX2_pass_58 : decode cX2_pass 58 = .ok (.istore_n 2, 1) := by decide +kernel
theorem dX2_pass_59 : decode cX2_pass 59 = .ok (.iinc 3 1, 3) := by decide +kernel
theorem dX2_pass_62 : decode cX2_pass 62 = .ok (.goto (-15), 3) := by decide +kernel
theorem dX2_pass_65 : decode cX2_pass 65 = .ok (.iload_n 2, 1) := by decide +kernel
theorem dX2_pass_66 : decode cX2_pass 66 = .ok (.ireturn, 1) := by decide +kernel
theorem dX2_day_0 : decode cX2_day 0 = .ok (.aload_n 0, 1) := by decide +kernel
theorem dX2_day_1 : decode cX2_day 1 = .ok (.getfield 30, 3) := by decide +kernel
theorem dX2_day_4 : decode cX2_day 4 = .ok (.ireturn, 1) := by decide +kernel
theorem dX2_things_0 : decode cX2_things 0 = .ok (.aload_n 0, 1) := by decide +kernel
theorem dX2_things_1 : decode cX2_things 1 = .ok (.getfield 19, 3) := by decide +kernel
theorem dX2_things_4 : decode cX2_things 4 = .ok (.invokevirtual 63, 3) := by decide +kernel
theorem dX2_things_7 : decode cX2_things 7 = .ok (.ireturn, 1) := by decide +kernel
theorem dX2_where_0 : decode cX2_where 0 = .ok (.aload_n 0, 1) := by decide +kernel
theorem dX2_where_1 : decode cX2_where 1 = .ok (.iload_n 1, 1) := by decide +kernel
theorem dX2_where_2 : decode cX2_where 2 = .ok (.invokevirtual 85, 3) := by decide +kernel
theorem dX2_where_5 : decode cX2_where 5 = .ok (.getfield 107, 3) := by decide +kernel
theorem dX2_where_8 : decode cX2_where 8 = .ok (.ireturn, 1) := by decide +kernel
theorem dX2_whereOn_0 : decode cX2_whereOn 0 = .ok (.aload_n 0, 1) := by decide +kernel
theorem dX2_whereOn_1 : decode cX2_whereOn 1 = .ok (.iload_n 1, 1) := by decide +kernel
theorem dX2_whereOn_2 : decode cX2_whereOn 2 = .ok (.invokevirtual 85, 3) := by decide +kernel
theorem dX2_whereOn_5 : decode cX2_whereOn 5 = .ok (.astore_n 3, 1) := by decide +kernel
theorem dX2_whereOn_6 : decode cX2_whereOn 6 = .ok (.iload_n 2, 1) := by decide +kernel
theorem dX2_whereOn_7 : decode cX2_whereOn 7 = .ok (.ifCond .lt 11, 3) := by decide +kernel
theorem dX2_whereOn_10 : decode cX2_whereOn 10 = .ok (.iload_n 2, 1) := by decide +kernel
theorem dX2_whereOn_11 : decode cX2_whereOn 11 = .ok (.aload_n 0, 1) := by decide +kernel
theorem dX2_whereOn_12 : decode cX2_whereOn 12 = .ok (.getfield 30, 3) := by decide +kernel
theorem dX2_whereOn_15 : decode cX2_whereOn 15 = .ok (.if_icmp .le 13, 3) := by decide +kernel
theorem dX2_whereOn_18 : decode cX2_whereOn 18 = .ok (.new 49, 3) := by decide +kernel
theorem dX2_whereOn_21 : decode cX2_whereOn 21 = .ok (.dup, 1) := by decide +kernel
theorem dX2_whereOn_22 : decode cX2_whereOn 22 = .ok (.ldc 165, 2) := by decide +kernel
theorem dX2_whereOn_24 : decode cX2_whereOn 24 = .ok (.invokespecial 53, 3) := by decide +kernel
theorem dX2_whereOn_27 : decode cX2_whereOn 27 = .ok (.athrow, 1) := by decide +kernel
theorem dX2_whereOn_28 : decode cX2_whereOn 28 = .ok (.iload_n 2, 1) := by decide +kernel
theorem dX2_whereOn_29 : decode cX2_whereOn 29 = .ok (.aload_n 0, 1) := by decide +kernel
theorem dX2_whereOn_30 : decode cX2_whereOn 30 = .ok (.getfield 30, 3) := by decide +kernel
theorem dX2_whereOn_33 : decode cX2_whereOn 33 = .ok (.if_icmp .ne 10, 3) := by decide +kernel
theorem dX2_whereOn_36 : decode cX2_whereOn 36 = .ok (.aload_n 3, 1) := by decide +kernel
theorem dX2_whereOn_37 : decode cX2_whereOn 37 = .ok (.getfield 107, 3) := by decide +kernel
theorem dX2_whereOn_40 : decode cX2_whereOn 40 = .ok (.goto 8, 3) := by decide +kernel
theorem dX2_whereOn_43 : decode cX2_whereOn 43 = .ok (.aload_n 3, 1) := by decide +kernel
theorem dX2_whereOn_44 : decode cX2_whereOn 44 = .ok (.iload_n 2, 1) := by decide +kernel
theorem dX2_whereOn_45 : decode cX2_whereOn 45 = .ok (.invokevirtual 167, 3) := by decide +kernel
theorem dX2_whereOn_48 : decode cX2_whereOn 48 = .ok (.ireturn, 1) := by decide +kernel
theorem dX2_load_0 : decode cX2_load 0 = .ok (.iload_n 1, 1) := by decide +kernel
theorem dX2_load_1 : decode cX2_load 1 = .ok (.invokestatic 42, 3) := by decide +kernel
theorem dX2_load_4 : decode cX2_load 4 = .ok (.ifCond .ne 13, 3) := by decide +kernel
theorem dX2_load_7 : decode cX2_load 7 = .ok (.new 49, 3) := by decide +kernel
theorem dX2_load_10 : decode cX2_load 10 = .ok (.dup, 1) := by decide +kernel
theorem dX2_load_11 : decode cX2_load 11 = .ok (.ldc 105, 2) := by decide +kernel
theorem dX2_load_13 : decode cX2_load 13 = .ok (.invokespecial 53, 3) := by decide +kernel
theorem dX2_load_16 : decode cX2_load 16 = .ok (.athrow, 1) := by decide +kernel
theorem dX2_load_17 : decode cX2_load 17 = .ok (.aload_n 0, 1) := by decide +kernel
theorem dX2_load_18 : decode cX2_load 18 = .ok (.iload_n 1, 1) := by decide +kernel
theorem dX2_load_19 : decode cX2_load 19 = .ok (.invokevirtual 171, 3) := by decide +kernel
theorem dX2_load_22 : decode cX2_load 22 = .ok (.ireturn, 1) := by decide +kernel
theorem dX2_fees_0 : decode cX2_fees 0 = .ok (.aload_n 0, 1) := by decide +kernel
theorem dX2_fees_1 : decode cX2_fees 1 = .ok (.iload_n 1, 1) := by decide +kernel
theorem dX2_fees_2 : decode cX2_fees 2 = .ok (.invokevirtual 85, 3) := by decide +kernel
theorem dX2_fees_5 : decode cX2_fees 5 = .ok (.getfield 98, 3) := by decide +kernel
theorem dX2_fees_8 : decode cX2_fees 8 = .ok (.ireturn, 1) := by decide +kernel
theorem dX2_loan_0 : decode cX2_loan 0 = .ok (.aload_n 0, 1) := by decide +kernel
theorem dX2_loan_1 : decode cX2_loan 1 = .ok (.iload_n 1, 1) := by decide +kernel
theorem dX2_loan_2 : decode cX2_loan 2 = .ok (.invokevirtual 85, 3) := by decide +kernel
theorem dX2_loan_5 : decode cX2_loan 5 = .ok (.getfield 141, 3) := by decide +kernel
theorem dX2_loan_8 : decode cX2_loan 8 = .ok (.ireturn, 1) := by decide +kernel
theorem dX2_purse_0 : decode cX2_purse 0 = .ok (.iload_n 1, 1) := by decide +kernel
theorem dX2_purse_1 : decode cX2_purse 1 = .ok (.invokestatic 58, 3) := by decide +kernel
theorem dX2_purse_4 : decode cX2_purse 4 = .ok (.ifCond .ne 13, 3) := by decide +kernel
theorem dX2_purse_7 : decode cX2_purse 7 = .ok (.new 49, 3) := by decide +kernel
theorem dX2_purse_10 : decode cX2_purse 10 = .ok (.dup, 1) := by decide +kernel
theorem dX2_purse_11 : decode cX2_purse 11 = .ok (.ldc 174, 2) := by decide +kernel
theorem dX2_purse_13 : decode cX2_purse 13 = .ok (.invokespecial 53, 3) := by decide +kernel
theorem dX2_purse_16 : decode cX2_purse 16 = .ok (.athrow, 1) := by decide +kernel
theorem dX2_purse_17 : decode cX2_purse 17 = .ok (.aload_n 0, 1) := by decide +kernel
theorem dX2_purse_18 : decode cX2_purse 18 = .ok (.getfield 13, 3) := by decide +kernel
theorem dX2_purse_21 : decode cX2_purse 21 = .ok (.iload_n 1, 1) := by decide +kernel
theorem dX2_purse_22 : decode cX2_purse 22 = .ok (.iaload, 1) := by decide +kernel
theorem dX2_purse_23 : decode cX2_purse 23 = .ok (.ireturn, 1) := by decide +kernel
theorem dX2_taken_0 : decode cX2_taken 0 = .ok (.aload_n 0, 1) := by decide +kernel
theorem dX2_taken_1 : decode cX2_taken 1 = .ok (.getfield 33, 3) := by decide +kernel
theorem dX2_taken_4 : decode cX2_taken 4 = .ok (.ireturn, 1) := by decide +kernel
theorem dX2_wish_0 : decode cX2_wish 0 = .ok (.iload_n 1, 1) := by decide +kernel
theorem dX2_wish_1 : decode cX2_wish 1 = .ok (.ifCond .lt 14, 3) := by decide +kernel
theorem dX2_wish_4 : decode cX2_wish 4 = .ok (.iload_n 1, 1) := by decide +kernel
theorem dX2_wish_5 : decode cX2_wish 5 = .ok (.aload_n 0, 1) := by decide +kernel
theorem dX2_wish_6 : decode cX2_wish 6 = .ok (.getfield 23, 3) := by decide +kernel
theorem dX2_wish_9 : decode cX2_wish 9 = .ok (.invokevirtual 63, 3) := by decide +kernel
theorem dX2_wish_12 : decode cX2_wish 12 = .ok (.if_icmp .lt 13, 3) := by decide +kernel
theorem dX2_wish_15 : decode cX2_wish 15 = .ok (.new 176, 3) := by decide +kernel
theorem dX2_wish_18 : decode cX2_wish 18 = .ok (.dup, 1) := by decide +kernel
theorem dX2_wish_19 : decode cX2_wish 19 = .ok (.ldc 178, 2) := by decide +kernel
theorem dX2_wish_21 : decode cX2_wish 21 = .ok (.invokespecial 180, 3) := by decide +kernel
theorem dX2_wish_24 : decode cX2_wish 24 = .ok (.athrow, 1) := by decide +kernel
theorem dX2_wish_25 : decode cX2_wish 25 = .ok (.aload_n 0, 1) := by decide +kernel
theorem dX2_wish_26 : decode cX2_wish 26 = .ok (.getfield 23, 3) := by decide +kernel
theorem dX2_wish_29 : decode cX2_wish 29 = .ok (.iload_n 1, 1) := by decide +kernel
theorem dX2_wish_30 : decode cX2_wish 30 = .ok (.invokevirtual 181, 3) := by decide +kernel
theorem dX2_wish_33 : decode cX2_wish 33 = .ok (.checkcast 76, 3) := by decide +kernel
theorem dX2_wish_36 : decode cX2_wish 36 = .ok (.getfield 185, 3) := by decide +kernel
theorem dX2_wish_39 : decode cX2_wish 39 = .ok (.ireturn, 1) := by decide +kernel
theorem dX2_isCounter_0 : decode cX2_isCounter 0 = .ok (.iload_n 0, 1) := by decide +kernel
theorem dX2_isCounter_1 : decode cX2_isCounter 1 = .ok (.ifCond .lt 12, 3) := by decide +kernel
theorem dX2_isCounter_4 : decode cX2_isCounter 4 = .ok (.iload_n 0, 1) := by decide +kernel
theorem dX2_isCounter_5 : decode cX2_isCounter 5 = .ok (.iconst 5, 1) := by decide +kernel
theorem dX2_isCounter_6 : decode cX2_isCounter 6 = .ok (.if_icmp .ge 7, 3) := by decide +kernel
theorem dX2_isCounter_9 : decode cX2_isCounter 9 = .ok (.iconst 1, 1) := by decide +kernel
theorem dX2_isCounter_10 : decode cX2_isCounter 10 = .ok (.goto 4, 3) := by decide +kernel
theorem dX2_isCounter_13 : decode cX2_isCounter 13 = .ok (.iconst 0, 1) := by decide +kernel
theorem dX2_isCounter_14 : decode cX2_isCounter 14 = .ok (.ireturn, 1) := by decide +kernel
theorem dX2_isPerson_0 : decode cX2_isPerson 0 = .ok (.iload_n 0, 1) := by decide +kernel
theorem dX2_isPerson_1 : decode cX2_isPerson 1 = .ok (.ifCond .lt 13, 3) := by decide +kernel
theorem dX2_isPerson_4 : decode cX2_isPerson 4 = .ok (.iload_n 0, 1) := by decide +kernel
theorem dX2_isPerson_5 : decode cX2_isPerson 5 = .ok (.bipush 8, 2) := by decide +kernel
theorem dX2_isPerson_7 : decode cX2_isPerson 7 = .ok (.if_icmp .ge 7, 3) := by decide +kernel
theorem dX2_isPerson_10 : decode cX2_isPerson 10 = .ok (.iconst 1, 1) := by decide +kernel
theorem dX2_isPerson_11 : decode cX2_isPerson 11 = .ok (.goto 4, 3) := by decide +kernel
theorem dX2_isPerson_14 : decode cX2_isPerson 14 = .ok (.iconst 0, 1) := by decide +kernel
theorem dX2_isPerson_15 : decode cX2_isPerson 15 = .ok (.ireturn, 1) := by decide +kernel
theorem dX2_isRoom_0 : decode cX2_isRoom 0 = .ok (.iload_n 0, 1) := by decide +kernel
theorem dX2_isRoom_1 : decode cX2_isRoom 1 = .ok (.ifCond .lt 13, 3) := by decide +kernel
theorem dX2_isRoom_4 : decode cX2_isRoom 4 = .ok (.iload_n 0, 1) := by decide +kernel
theorem dX2_isRoom_5 : decode cX2_isRoom 5 = .ok (.bipush 30, 2) := by decide +kernel
theorem dX2_isRoom_7 : decode cX2_isRoom 7 = .ok (.if_icmp .gt 7, 3) := by decide +kernel
theorem dX2_isRoom_10 : decode cX2_isRoom 10 = .ok (.iconst 1, 1) := by decide +kernel
theorem dX2_isRoom_11 : decode cX2_isRoom 11 = .ok (.goto 4, 3) := by decide +kernel
theorem dX2_isRoom_14 : decode cX2_isRoom 14 = .ok (.iconst 0, 1) := by decide +kernel
theorem dX2_isRoom_15 : decode cX2_isRoom 15 = .ok (.ireturn, 1) := by decide +kernel
theorem dX2_thingNumbered_0 : decode cX2_thingNumbered 0 = .ok (.iload_n 1, 1) := by decide +kernel
theorem dX2_thingNumbered_1 : decode cX2_thingNumbered 1 = .ok (.ifCond .lt 14, 3) := by decide +kernel
theorem dX2_thingNumbered_4 : decode cX2_thingNumbered 4 = .ok (.iload_n 1, 1) := by decide +kernel
theorem dX2_thingNumbered_5 : decode cX2_thingNumbered 5 = .ok (.aload_n 0, 1) := by decide +kernel
theorem dX2_thingNumbered_6 : decode cX2_thingNumbered 6 = .ok (.getfield 19, 3) := by decide +kernel
theorem dX2_thingNumbered_9 : decode cX2_thingNumbered 9 = .ok (.invokevirtual 63, 3) := by decide +kernel
theorem dX2_thingNumbered_12 : decode cX2_thingNumbered 12 = .ok (.if_icmp .lt 13, 3) := by decide +kernel
theorem dX2_thingNumbered_15 : decode cX2_thingNumbered 15 = .ok (.new 176, 3) := by decide +kernel
theorem dX2_thingNumbered_18 : decode cX2_thingNumbered 18 = .ok (.dup, 1) := by decide +kernel
theorem dX2_thingNumbered_19 : decode cX2_thingNumbered 19 = .ok (.ldc 188, 2) := by decide +kernel
theorem dX2_thingNumbered_21 : decode cX2_thingNumbered 21 = .ok (.invokespecial 180, 3) := by decide +kernel
theorem dX2_thingNumbered_24 : decode cX2_thingNumbered 24 = .ok (.athrow, 1) := by decide +kernel
theorem dX2_thingNumbered_25 : decode cX2_thingNumbered 25 = .ok (.aload_n 0, 1) := by decide +kernel
theorem dX2_thingNumbered_26 : decode cX2_thingNumbered 26 = .ok (.getfield 19, 3) := by decide +kernel
theorem dX2_thingNumbered_29 : decode cX2_thingNumbered 29 = .ok (.iload_n 1, 1) := by decide +kernel
theorem dX2_thingNumbered_30 : decode cX2_thingNumbered 30 = .ok (.invokevirtual 181, 3) := by decide +kernel
theorem dX2_thingNumbered_33 : decode cX2_thingNumbered 33 = .ok (.checkcast 76, 3) := by decide +kernel
theorem dX2_thingNumbered_36 : decode cX2_thingNumbered 36 = .ok (.areturn, 1) := by decide +kernel
theorem dX2_sizesAt_0 : decode cX2_sizesAt 0 = .ok (.iconst 0, 1) := by decide +kernel
theorem dX2_sizesAt_1 : decode cX2_sizesAt 1 = .ok (.istore_n 2, 1) := by decide +kernel
theorem dX2_sizesAt_2 : decode cX2_sizesAt 2 = .ok (.iconst 0, 1) := by decide +kernel
theorem dX2_sizesAt_3 : decode cX2_sizesAt 3 = .ok (.istore_n 3, 1) := by decide +kernel
theorem dX2_sizesAt_4 : decode cX2_sizesAt 4 = .ok (.iload_n 3, 1) := by decide +kernel
theorem dX2_sizesAt_5 : decode cX2_sizesAt 5 = .ok (.aload_n 0, 1) := by decide +kernel
theorem dX2_sizesAt_6 : decode cX2_sizesAt 6 = .ok (.getfield 19, 3) := by decide +kernel
theorem dX2_sizesAt_9 : decode cX2_sizesAt 9 = .ok (.invokevirtual 63, 3) := by decide +kernel
theorem dX2_sizesAt_12 : decode cX2_sizesAt 12 = .ok (.if_icmp .ge 39, 3) := by decide +kernel
theorem dX2_sizesAt_15 : decode cX2_sizesAt 15 = .ok (.aload_n 0, 1) := by decide +kernel
theorem dX2_sizesAt_16 : decode cX2_sizesAt 16 = .ok (.getfield 19, 3) := by decide +kernel
theorem dX2_sizesAt_19 : decode cX2_sizesAt 19 = .ok (.iload_n 3, 1) := by decide +kernel
theorem dX2_sizesAt_20 : decode cX2_sizesAt 20 = .ok (.invokevirtual 181, 3) := by decide +kernel
theorem dX2_sizesAt_23 : decode cX2_sizesAt 23 = .ok (.checkcast 76, 3) := by decide +kernel
theorem dX2_sizesAt_26 : decode cX2_sizesAt 26 = .ok (.astore 4, 2) := by decide +kernel
theorem dX2_sizesAt_28 : decode cX2_sizesAt 28 = .ok (.aload 4, 2) := by decide +kernel
theorem dX2_sizesAt_30 : decode cX2_sizesAt 30 = .ok (.getfield 107, 3) := by decide +kernel
theorem dX2_sizesAt_33 : decode cX2_sizesAt 33 = .ok (.iload_n 1, 1) := by decide +kernel
theorem dX2_sizesAt_34 : decode cX2_sizesAt 34 = .ok (.if_icmp .ne 11, 3) := by decide +kernel
theorem dX2_sizesAt_37 : decode cX2_sizesAt 37 = .ok (.iload_n 2, 1) := by decide +kernel
theorem dX2_sizesAt_38 : decode cX2_sizesAt 38 = .ok (.aload 4, 2) := by decide +kernel
theorem dX2_sizesAt_40 : decode cX2_sizesAt 40 = .ok (.getfield 190, 3) := by decide +kernel
theorem dX2_sizesAt_43 : decode cX2_sizesAt 43 = .ok (.iadd, 1) := by decide +kernel
theorem dX2_sizesAt_44 : decode cX2_sizesAt 44 = .ok (.istore_n 2, 1) := by decide +kernel
theorem dX2_sizesAt_45 : decode cX2_sizesAt 45 = .ok (.iinc 3 1, 3) := by decide +kernel
theorem dX2_sizesAt_48 : decode cX2_sizesAt 48 = .ok (.goto (-44), 3) := by decide +kernel
theorem dX2_sizesAt_51 : decode cX2_sizesAt 51 = .ok (.iload_n 2, 1) := by decide +kernel
theorem dX2_sizesAt_52 : decode cX2_sizesAt 52 = .ok (.ireturn, 1) := by decide +kernel
theorem dX2_hasRoomFor_0 : decode cX2_hasRoomFor 0 = .ok (.iload_n 1, 1) := by decide +kernel
theorem dX2_hasRoomFor_1 : decode cX2_hasRoomFor 1 = .ok (.invokestatic 42, 3) := by decide +kernel
theorem dX2_hasRoomFor_4 : decode cX2_hasRoomFor 4 = .ok (.ifCond .eq 23, 3) := by decide +kernel
theorem dX2_hasRoomFor_7 : decode cX2_hasRoomFor 7 = .ok (.aload_n 0, 1) := by decide +kernel
theorem dX2_hasRoomFor_8 : decode cX2_hasRoomFor 8 = .ok (.iload_n 1, 1) := by decide +kernel
theorem dX2_hasRoomFor_9 : decode cX2_hasRoomFor 9 = .ok (.invokevirtual 171, 3) := by decide +kernel
theorem dX2_hasRoomFor_12 : decode cX2_hasRoomFor 12 = .ok (.iload_n 2, 1) := by decide +kernel
theorem dX2_hasRoomFor_13 : decode cX2_hasRoomFor 13 = .ok (.iadd, 1) := by decide +kernel
theorem dX2_hasRoomFor_14 : decode cX2_hasRoomFor 14 = .ok (.aload_n 0, 1) := by decide +kernel
theorem dX2_hasRoomFor_15 : decode cX2_hasRoomFor 15 = .ok (.getfield 9, 3) := by decide +kernel
theorem dX2_hasRoomFor_18 : decode cX2_hasRoomFor 18 = .ok (.iload_n 1, 1) := by decide +kernel
theorem dX2_hasRoomFor_19 : decode cX2_hasRoomFor 19 = .ok (.iaload, 1) := by decide +kernel
theorem dX2_hasRoomFor_20 : decode cX2_hasRoomFor 20 = .ok (.if_icmp .gt 7, 3) := by decide +kernel
theorem dX2_hasRoomFor_23 : decode cX2_hasRoomFor 23 = .ok (.iconst 1, 1) := by decide +kernel
theorem dX2_hasRoomFor_24 : decode cX2_hasRoomFor 24 = .ok (.goto 4, 3) := by decide +kernel
theorem dX2_hasRoomFor_27 : decode cX2_hasRoomFor 27 = .ok (.iconst 0, 1) := by decide +kernel
theorem dX2_hasRoomFor_28 : decode cX2_hasRoomFor 28 = .ok (.ireturn, 1) := by decide +kernel
theorem dX2_putIntoPurse_0 : decode cX2_putIntoPurse 0 = .ok (.iload_n 1, 1) := by decide +kernel
theorem dX2_putIntoPurse_1 : decode cX2_putIntoPurse 1 = .ok (.invokestatic 58, 3) := by decide +kernel
theorem dX2_putIntoPurse_4 : decode cX2_putIntoPurse 4 = .ok (.ifCond .eq 13, 3) := by decide +kernel
theorem dX2_putIntoPurse_7 : decode cX2_putIntoPurse 7 = .ok (.aload_n 0, 1) := by decide +kernel
theorem dX2_putIntoPurse_8 : decode cX2_putIntoPurse 8 = .ok (.getfield 13, 3) := by decide +kernel
theorem dX2_putIntoPurse_11 : decode cX2_putIntoPurse 11 = .ok (.iload_n 1, 1) := by decide +kernel
theorem dX2_putIntoPurse_12 : decode cX2_putIntoPurse 12 = .ok (.dup2, 1) := by decide +kernel
theorem dX2_putIntoPurse_13 : decode cX2_putIntoPurse 13 = .ok (.iaload, 1) := by decide +kernel
theorem dX2_putIntoPurse_14 : decode cX2_putIntoPurse 14 = .ok (.iload_n 2, 1) := by decide +kernel
theorem dX2_putIntoPurse_15 : decode cX2_putIntoPurse 15 = .ok (.iadd, 1) := by decide +kernel
theorem dX2_putIntoPurse_16 : decode cX2_putIntoPurse 16 = .ok (.iastore, 1) := by decide +kernel
theorem dX2_putIntoPurse_17 : decode cX2_putIntoPurse 17 = .ok (.return_, 1) := by decide +kernel
theorem dX2_dropEndedWishes_0 : decode cX2_dropEndedWishes 0 = .ok (.aload_n 0, 1) := by decide +kernel
theorem dX2_dropEndedWishes_1 : decode cX2_dropEndedWishes 1 = .ok (.getfield 23, 3) := by decide +kernel
theorem dX2_dropEndedWishes_4 : decode cX2_dropEndedWishes 4 = .ok (.invokevirtual 63, 3) := by decide +kernel
theorem dX2_dropEndedWishes_7 : decode cX2_dropEndedWishes 7 = .ok (.iconst 1, 1) := by decide +kernel
theorem dX2_dropEndedWishes_8 : decode cX2_dropEndedWishes 8 = .ok (.isub, 1) := by decide +kernel
theorem dX2_dropEndedWishes_9 : decode cX2_dropEndedWishes 9 = .ok (.istore_n 1, 1) := by decide +kernel
theorem dX2_dropEndedWishes_10 : decode cX2_dropEndedWishes 10 = .ok (.iload_n 1, 1) := by decide +kernel
theorem dX2_dropEndedWishes_11 : decode cX2_dropEndedWishes 11 = .ok (.ifCond .lt 36, 3) := by decide +kernel
theorem dX2_dropEndedWishes_14 : decode cX2_dropEndedWishes 14 = .ok (.aload_n 0, 1) := by decide +kernel
theorem dX2_dropEndedWishes_15 : decode cX2_dropEndedWishes 15 = .ok (.getfield 23, 3) := by decide +kernel
theorem dX2_dropEndedWishes_18 : decode cX2_dropEndedWishes 18 = .ok (.iload_n 1, 1) := by decide +kernel
theorem dX2_dropEndedWishes_19 : decode cX2_dropEndedWishes 19 = .ok (.invokevirtual 181, 3) := by decide +kernel
theorem dX2_dropEndedWishes_22 : decode cX2_dropEndedWishes 22 = .ok (.checkcast 76, 3) := by decide +kernel
theorem dX2_dropEndedWishes_25 : decode cX2_dropEndedWishes 25 = .ok (.getfield 112, 3) := by decide +kernel
theorem dX2_dropEndedWishes_28 : decode cX2_dropEndedWishes 28 = .ok (.iconst (-1), 1) := by decide +kernel
theorem dX2_dropEndedWishes_29 : decode cX2_dropEndedWishes 29 = .ok (.if_icmp .ne 12, 3) := by decide +kernel
theorem dX2_dropEndedWishes_32 : decode cX2_dropEndedWishes 32 = .ok (.aload_n 0, 1) := by decide +kernel
theorem dX2_dropEndedWishes_33 : decode cX2_dropEndedWishes 33 = .ok (.getfield 23, 3) := by decide +kernel
theorem dX2_dropEndedWishes_36 : decode cX2_dropEndedWishes 36 = .ok (.iload_n 1, 1) := by decide +kernel
theorem dX2_dropEndedWishes_37 : decode cX2_dropEndedWishes 37 = .ok (.invokevirtual 192, 3) := by decide +kernel
theorem dX2_dropEndedWishes_40 : decode cX2_dropEndedWishes 40 = .ok (.pop, 1) := by decide +kernel
theorem dX2_dropEndedWishes_41 : decode cX2_dropEndedWishes 41 = .ok (.iinc 1 (-1), 3) := by decide +kernel
theorem dX2_dropEndedWishes_44 : decode cX2_dropEndedWishes 44 = .ok (.goto (-34), 3) := by decide +kernel
theorem dX2_dropEndedWishes_47 : decode cX2_dropEndedWishes 47 = .ok (.return_, 1) := by decide +kernel
theorem dX2_giveAway_0 : decode cX2_giveAway 0 = .ok (.aload_n 0, 1) := by decide +kernel
theorem dX2_giveAway_1 : decode cX2_giveAway 1 = .ok (.dup, 1) := by decide +kernel
theorem dX2_giveAway_2 : decode cX2_giveAway 2 = .ok (.getfield 33, 3) := by decide +kernel
theorem dX2_giveAway_5 : decode cX2_giveAway 5 = .ok (.iload_n 2, 1) := by decide +kernel
theorem dX2_giveAway_6 : decode cX2_giveAway 6 = .ok (.iadd, 1) := by decide +kernel
theorem dX2_giveAway_7 : decode cX2_giveAway 7 = .ok (.putfield 33, 3) := by decide +kernel
theorem dX2_giveAway_10 : decode cX2_giveAway 10 = .ok (.aload_n 1, 1) := by decide +kernel
theorem dX2_giveAway_11 : decode cX2_giveAway 11 = .ok (.iload_n 2, 1) := by decide +kernel
theorem dX2_giveAway_12 : decode cX2_giveAway 12 = .ok (.putfield 98, 3) := by decide +kernel
theorem dX2_giveAway_15 : decode cX2_giveAway 15 = .ok (.aload_n 1, 1) := by decide +kernel
theorem dX2_giveAway_16 : decode cX2_giveAway 16 = .ok (.iconst (-1), 1) := by decide +kernel
theorem dX2_giveAway_17 : decode cX2_giveAway 17 = .ok (.putfield 112, 3) := by decide +kernel
theorem dX2_giveAway_20 : decode cX2_giveAway 20 = .ok (.aload_n 0, 1) := by decide +kernel
theorem dX2_giveAway_21 : decode cX2_giveAway 21 = .ok (.invokevirtual 115, 3) := by decide +kernel
theorem dX2_giveAway_24 : decode cX2_giveAway 24 = .ok (.aload_n 1, 1) := by decide +kernel
theorem dX2_giveAway_25 : decode cX2_giveAway 25 = .ok (.iload_n 3, 1) := by decide +kernel
theorem dX2_giveAway_26 : decode cX2_giveAway 26 = .ok (.aload_n 0, 1) := by decide +kernel
theorem dX2_giveAway_27 : decode cX2_giveAway 27 = .ok (.getfield 30, 3) := by decide +kernel
theorem dX2_giveAway_30 : decode cX2_giveAway 30 = .ok (.invokevirtual 195, 3) := by decide +kernel
theorem dX2_giveAway_33 : decode cX2_giveAway 33 = .ok (.return_, 1) := by decide +kernel
theorem dX2_sell_0 : decode cX2_sell 0 = .ok (.aload_n 1, 1) := by decide +kernel
theorem dX2_sell_1 : decode cX2_sell 1 = .ok (.getfield 141, 3) := by decide +kernel
theorem dX2_sell_4 : decode cX2_sell 4 = .ok (.aload_n 1, 1) := by decide +kernel
theorem dX2_sell_5 : decode cX2_sell 5 = .ok (.getfield 122, 3) := by decide +kernel
theorem dX2_sell_8 : decode cX2_sell 8 = .ok (.invokestatic 198, 3) := by decide +kernel
theorem dX2_sell_11 : decode cX2_sell 11 = .ok (.istore_n 2, 1) := by decide +kernel
theorem dX2_sell_12 : decode cX2_sell 12 = .ok (.aload_n 0, 1) := by decide +kernel
theorem dX2_sell_13 : decode cX2_sell 13 = .ok (.aload_n 1, 1) := by decide +kernel
theorem dX2_sell_14 : decode cX2_sell 14 = .ok (.getfield 144, 3) := by decide +kernel
theorem dX2_sell_17 : decode cX2_sell 17 = .ok (.iload_n 2, 1) := by decide +kernel
theorem dX2_sell_18 : decode cX2_sell 18 = .ok (.invokevirtual 136, 3) := by decide +kernel
theorem dX2_sell_21 : decode cX2_sell 21 = .ok (.aload_n 1, 1) := by decide +kernel
theorem dX2_sell_22 : decode cX2_sell 22 = .ok (.invokevirtual 147, 3) := by decide +kernel
theorem dX2_sell_25 : decode cX2_sell 25 = .ok (.aload_n 1, 1) := by decide +kernel
theorem dX2_sell_26 : decode cX2_sell 26 = .ok (.getfield 122, 3) := by decide +kernel
theorem dX2_sell_29 : decode cX2_sell 29 = .ok (.iload_n 2, 1) := by decide +kernel
theorem dX2_sell_30 : decode cX2_sell 30 = .ok (.isub, 1) := by decide +kernel
theorem dX2_sell_31 : decode cX2_sell 31 = .ok (.istore_n 3, 1) := by decide +kernel
theorem dX2_sell_32 : decode cX2_sell 32 = .ok (.aload_n 1, 1) := by decide +kernel
theorem dX2_sell_33 : decode cX2_sell 33 = .ok (.getfield 98, 3) := by decide +kernel
theorem dX2_sell_36 : decode cX2_sell 36 = .ok (.iload_n 3, 1) := by decide +kernel
theorem dX2_sell_37 : decode cX2_sell 37 = .ok (.invokestatic 198, 3) := by decide +kernel
theorem dX2_sell_40 : decode cX2_sell 40 = .ok (.istore 4, 2) := by decide +kernel
theorem dX2_sell_42 : decode cX2_sell 42 = .ok (.aload_n 0, 1) := by decide +kernel
theorem dX2_sell_43 : decode cX2_sell 43 = .ok (.aload_n 1, 1) := by decide +kernel
theorem dX2_sell_44 : decode cX2_sell 44 = .ok (.getfield 127, 3) := by decide +kernel
theorem dX2_sell_47 : decode cX2_sell 47 = .ok (.iload_n 3, 1) := by decide +kernel
theorem dX2_sell_48 : decode cX2_sell 48 = .ok (.iload 4, 2) := by decide +kernel
theorem dX2_sell_50 : decode cX2_sell 50 = .ok (.isub, 1) := by decide +kernel
theorem dX2_sell_51 : decode cX2_sell 51 = .ok (.invokevirtual 136, 3) := by decide +kernel
theorem dX2_sell_54 : decode cX2_sell 54 = .ok (.aload_n 0, 1) := by decide +kernel
theorem dX2_sell_55 : decode cX2_sell 55 = .ok (.aload_n 1, 1) := by decide +kernel
theorem dX2_sell_56 : decode cX2_sell 56 = .ok (.iload 4, 2) := by decide +kernel
theorem dX2_sell_58 : decode cX2_sell 58 = .ok (.bipush 11, 2) := by decide +kernel
theorem dX2_sell_60 : decode cX2_sell 60 = .ok (.invokevirtual 101, 3) := by decide +kernel
theorem dX2_sell_63 : decode cX2_sell 63 = .ok (.return_, 1) := by decide +kernel
theorem dX2_endDay_0 : decode cX2_endDay 0 = .ok (.aload_n 0, 1) := by decide +kernel
theorem dX2_endDay_1 : decode cX2_endDay 1 = .ok (.invokevirtual 204, 3) := by decide +kernel
theorem dX2_endDay_4 : decode cX2_endDay 4 = .ok (.aload_n 0, 1) := by decide +kernel
theorem dX2_endDay_5 : decode cX2_endDay 5 = .ok (.invokevirtual 207, 3) := by decide +kernel
theorem dX2_endDay_8 : decode cX2_endDay 8 = .ok (.aload_n 0, 1) := by decide +kernel
theorem dX2_endDay_9 : decode cX2_endDay 9 = .ok (.invokevirtual 210, 3) := by decide +kernel
theorem dX2_endDay_12 : decode cX2_endDay 12 = .ok (.iadd, 1) := by decide +kernel
theorem dX2_endDay_13 : decode cX2_endDay 13 = .ok (.istore_n 1, 1) := by decide +kernel
theorem dX2_endDay_14 : decode cX2_endDay 14 = .ok (.aload_n 0, 1) := by decide +kernel
theorem dX2_endDay_15 : decode cX2_endDay 15 = .ok (.invokevirtual 213, 3) := by decide +kernel
theorem dX2_endDay_18 : decode cX2_endDay 18 = .ok (.aload_n 0, 1) := by decide +kernel
theorem dX2_endDay_19 : decode cX2_endDay 19 = .ok (.dup, 1) := by decide +kernel
theorem dX2_endDay_20 : decode cX2_endDay 20 = .ok (.getfield 30, 3) := by decide +kernel
theorem dX2_endDay_23 : decode cX2_endDay 23 = .ok (.iconst 1, 1) := by decide +kernel
theorem dX2_endDay_24 : decode cX2_endDay 24 = .ok (.iadd, 1) := by decide +kernel
theorem dX2_endDay_25 : decode cX2_endDay 25 = .ok (.putfield 30, 3) := by decide +kernel
theorem dX2_endDay_28 : decode cX2_endDay 28 = .ok (.iload_n 1, 1) := by decide +kernel
theorem dX2_endDay_29 : decode cX2_endDay 29 = .ok (.ireturn, 1) := by decide +kernel
theorem dX2_oweFees_0 : decode cX2_oweFees 0 = .ok (.iconst 0, 1) := by decide +kernel
theorem dX2_oweFees_1 : decode cX2_oweFees 1 = .ok (.istore_n 1, 1) := by decide +kernel
theorem dX2_oweFees_2 : decode cX2_oweFees 2 = .ok (.iload_n 1, 1) := by decide +kernel
theorem dX2_oweFees_3 : decode cX2_oweFees 3 = .ok (.aload_n 0, 1) := by decide +kernel
theorem dX2_oweFees_4 : decode cX2_oweFees 4 = .ok (.getfield 19, 3) := by decide +kernel
theorem dX2_oweFees_7 : decode cX2_oweFees 7 = .ok (.invokevirtual 63, 3) := by decide +kernel
theorem dX2_oweFees_10 : decode cX2_oweFees 10 = .ok (.if_icmp .ge 54, 3) := by decide +kernel
theorem dX2_oweFees_13 : decode cX2_oweFees 13 = .ok (.aload_n 0, 1) := by decide +kernel
theorem dX2_oweFees_14 : decode cX2_oweFees 14 = .ok (.getfield 19, 3) := by decide +kernel
theorem dX2_oweFees_17 : decode cX2_oweFees 17 = .ok (.iload_n 1, 1) := by decide +kernel
theorem dX2_oweFees_18 : decode cX2_oweFees 18 = .ok (.invokevirtual 181, 3) := by decide +kernel
theorem dX2_oweFees_21 : decode cX2_oweFees 21 = .ok (.checkcast 76, 3) := by decide +kernel
theorem dX2_oweFees_24 : decode cX2_oweFees 24 = .ok (.astore_n 2, 1) := by decide +kernel
theorem dX2_oweFees_25 : decode cX2_oweFees 25 = .ok (.aload_n 2, 1) := by decide +kernel
theorem dX2_oweFees_26 : decode cX2_oweFees 26 = .ok (.invokevirtual 89, 3) := by decide +kernel
theorem dX2_oweFees_29 : decode cX2_oweFees 29 = .ok (.ifCond .eq 29, 3) := by decide +kernel
theorem dX2_oweFees_32 : decode cX2_oweFees 32 = .ok (.aload_n 2, 1) := by decide +kernel
theorem dX2_oweFees_33 : decode cX2_oweFees 33 = .ok (.dup, 1) := by decide +kernel
theorem dX2_oweFees_34 : decode cX2_oweFees 34 = .ok (.getfield 98, 3) := by decide +kernel
theorem dX2_oweFees_37 : decode cX2_oweFees 37 = .ok (.aload_n 2, 1) := by decide +kernel
theorem dX2_oweFees_38 : decode cX2_oweFees 38 = .ok (.getfield 190, 3) := by decide +kernel
theorem dX2_oweFees_41 : decode cX2_oweFees 41 = .ok (.aload_n 2, 1) := by decide +kernel
theorem dX2_oweFees_42 : decode cX2_oweFees 42 = .ok (.invokevirtual 93, 3) := by decide +kernel
theorem dX2_oweFees_45 : decode cX2_oweFees 45 = .ok (.ifCond .eq 7, 3) := by decide +kernel
theorem dX2_oweFees_48 : decode cX2_oweFees 48 = .ok (.iconst 1, 1) := by decide +kernel
theorem dX2_oweFees_49 : decode cX2_oweFees 49 = .ok (.goto 4, 3) := by decide +kernel
theorem dX2_oweFees_52 : decode cX2_oweFees 52 = .ok (.iconst 2, 1) := by decide +kernel
theorem dX2_oweFees_53 : decode cX2_oweFees 53 = .ok (.imul, 1) := by decide +kernel
theorem dX2_oweFees_54 : decode cX2_oweFees 54 = .ok (.iadd, 1) := by decide +kernel
theorem dX2_oweFees_55 : decode cX2_oweFees 55 = .ok (.putfield 98, 3) := by decide +kernel
theorem dX2_oweFees_58 : decode cX2_oweFees 58 = .ok (.iinc 1 1, 3) := by decide +kernel
theorem dX2_oweFees_61 : decode cX2_oweFees 61 = .ok (.goto (-59), 3) := by decide +kernel
theorem dX2_oweFees_64 : decode cX2_oweFees 64 = .ok (.return_, 1) := by decide +kernel
theorem dX2_sellCalled_0 : decode cX2_sellCalled 0 = .ok (.iconst 0, 1) := by decide +kernel
theorem dX2_sellCalled_1 : decode cX2_sellCalled 1 = .ok (.istore_n 1, 1) := by decide +kernel
theorem dX2_sellCalled_2 : decode cX2_sellCalled 2 = .ok (.iconst 0, 1) := by decide +kernel
theorem dX2_sellCalled_3 : decode cX2_sellCalled 3 = .ok (.istore_n 2, 1) := by decide +kernel
theorem dX2_sellCalled_4 : decode cX2_sellCalled 4 = .ok (.iload_n 2, 1) := by decide +kernel
theorem dX2_sellCalled_5 : decode cX2_sellCalled 5 = .ok (.aload_n 0, 1) := by decide +kernel
theorem dX2_sellCalled_6 : decode cX2_sellCalled 6 = .ok (.getfield 19, 3) := by decide +kernel
theorem dX2_sellCalled_9 : decode cX2_sellCalled 9 = .ok (.invokevirtual 63, 3) := by decide +kernel
theorem dX2_sellCalled_12 : decode cX2_sellCalled 12 = .ok (.if_icmp .ge 47, 3) := by decide +kernel
theorem dX2_sellCalled_15 : decode cX2_sellCalled 15 = .ok (.aload_n 0, 1) := by decide +kernel
theorem dX2_sellCalled_16 : decode cX2_sellCalled 16 = .ok (.getfield 19, 3) := by decide +kernel
theorem dX2_sellCalled_19 : decode cX2_sellCalled 19 = .ok (.iload_n 2, 1) := by decide +kernel
theorem dX2_sellCalled_20 : decode cX2_sellCalled 20 = .ok (.invokevirtual 181, 3) := by decide +kernel
theorem dX2_sellCalled_23 : decode cX2_sellCalled 23 = .ok (.checkcast 76, 3) := by decide +kernel
theorem dX2_sellCalled_26 : decode cX2_sellCalled 26 = .ok (.astore_n 3, 1) := by decide +kernel
theorem dX2_sellCalled_27 : decode cX2_sellCalled 27 = .ok (.aload_n 3, 1) := by decide +kernel
theorem dX2_sellCalled_28 : decode cX2_sellCalled 28 = .ok (.invokevirtual 150, 3) := by decide +kernel
theorem dX2_sellCalled_31 : decode cX2_sellCalled 31 = .ok (.ifCond .eq 22, 3) := by decide +kernel
theorem dX2_sellCalled_34 : decode cX2_sellCalled 34 = .ok (.aload_n 3, 1) := by decide +kernel
theorem dX2_sellCalled_35 : decode cX2_sellCalled 35 = .ok (.getfield 155, 3) := by decide +kernel
theorem dX2_sellCalled_38 : decode cX2_sellCalled 38 = .ok (.aload_n 0, 1) := by decide +kernel
theorem dX2_sellCalled_39 : decode cX2_sellCalled 39 = .ok (.getfield 30, 3) := by decide +kernel
theorem dX2_sellCalled_42 : decode cX2_sellCalled 42 = .ok (.if_icmp .gt 11, 3) := by decide +kernel
theorem dX2_sellCalled_45 : decode cX2_sellCalled 45 = .ok (.aload_n 0, 1) := by decide +kernel
theorem dX2_sellCalled_46 : decode cX2_sellCalled 46 = .ok (.aload_n 3, 1) := by decide +kernel
theorem dX2_sellCalled_47 : decode cX2_sellCalled 47 = .ok (.invokevirtual 216, 3) := by decide +kernel
theorem dX2_sellCalled_50 : decode cX2_sellCalled 50 = .ok (.iinc 1 1, 3) := by decide +kernel
theorem dX2_sellCalled_53 : decode cX2_sellCalled 53 = .ok (.iinc 2 1, 3) := by decide +kernel
theorem dX2_sellCalled_56 : decode cX2_sellCalled 56 = .ok (.goto (-52), 3) := by decide +kernel
theorem dX2_sellCalled_59 : decode cX2_sellCalled 59 = .ok (.iload_n 1, 1) := by decide +kernel
theorem dX2_sellCalled_60 : decode cX2_sellCalled 60 = .ok (.ireturn, 1) := by decide +kernel
theorem dX2_sellUnfetched_0 : decode cX2_sellUnfetched 0 = .ok (.iconst 0, 1) := by decide +kernel
theorem dX2_sellUnfetched_1 : decode cX2_sellUnfetched 1 = .ok (.istore_n 1, 1) := by decide +kernel
theorem dX2_sellUnfetched_2 : decode cX2_sellUnfetched 2 = .ok (.iconst 0, 1) := by decide +kernel
theorem dX2_sellUnfetched_3 : decode cX2_sellUnfetched 3 = .ok (.istore_n 2, 1) := by decide +kernel
theorem dX2_sellUnfetched_4 : decode cX2_sellUnfetched 4 = .ok (.iload_n 2, 1) := by decide +kernel
theorem dX2_sellUnfetched_5 : decode cX2_sellUnfetched 5 = .ok (.aload_n 0, 1) := by decide +kernel
theorem dX2_sellUnfetched_6 : decode cX2_sellUnfetched 6 = .ok (.getfield 19, 3) := by decide +kernel
theorem dX2_sellUnfetched_9 : decode cX2_sellUnfetched 9 = .ok (.invokevirtual 63, 3) := by decide +kernel
theorem dX2_sellUnfetched_12 : decode cX2_sellUnfetched 12 = .ok (.if_icmp .ge 63, 3) := by decide +kernel
theorem dX2_sellUnfetched_15 : decode cX2_sellUnfetched 15 = .ok (.aload_n 0, 1) := by decide +kernel
theorem dX2_sellUnfetched_16 : decode cX2_sellUnfetched 16 = .ok (.getfield 19, 3) := by decide +kernel
theorem dX2_sellUnfetched_19 : decode cX2_sellUnfetched 19 = .ok (.iload_n 2, 1) := by decide +kernel
theorem dX2_sellUnfetched_20 : decode cX2_sellUnfetched 20 = .ok (.invokevirtual 181, 3) := by decide +kernel
theorem dX2_sellUnfetched_23 : decode cX2_sellUnfetched 23 = .ok (.checkcast 76, 3) := by decide +kernel
theorem dX2_sellUnfetched_26 : decode cX2_sellUnfetched 26 = .ok (.astore_n 3, 1) := by decide +kernel
theorem dX2_sellUnfetched_27 : decode cX2_sellUnfetched 27 = .ok (.aload_n 0, 1) := by decide +kernel
theorem dX2_sellUnfetched_28 : decode cX2_sellUnfetched 28 = .ok (.getfield 30, 3) := by decide +kernel
theorem dX2_sellUnfetched_31 : decode cX2_sellUnfetched 31 = .ok (.iconst 1, 1) := by decide +kernel
theorem dX2_sellUnfetched_32 : decode cX2_sellUnfetched 32 = .ok (.iadd, 1) := by decide +kernel
theorem dX2_sellUnfetched_33 : decode cX2_sellUnfetched 33 = .ok (.aload_n 3, 1) := by decide +kernel
theorem dX2_sellUnfetched_34 : decode cX2_sellUnfetched 34 = .ok (.getfield 220, 3) := by decide +kernel
theorem dX2_sellUnfetched_37 : decode cX2_sellUnfetched 37 = .ok (.isub, 1) := by decide +kernel
theorem dX2_sellUnfetched_38 : decode cX2_sellUnfetched 38 = .ok (.istore 4, 2) := by decide +kernel
theorem dX2_sellUnfetched_40 : decode cX2_sellUnfetched 40 = .ok (.aload_n 3, 1) := by decide +kernel
theorem dX2_sellUnfetched_41 : decode cX2_sellUnfetched 41 = .ok (.invokevirtual 89, 3) := by decide +kernel
theorem dX2_sellUnfetched_44 : decode cX2_sellUnfetched 44 = .ok (.ifCond .eq 25, 3) := by decide +kernel
theorem dX2_sellUnfetched_47 : decode cX2_sellUnfetched 47 = .ok (.aload_n 3, 1) := by decide +kernel
theorem dX2_sellUnfetched_48 : decode cX2_sellUnfetched 48 = .ok (.invokevirtual 93, 3) := by decide +kernel
theorem dX2_sellUnfetched_51 : decode cX2_sellUnfetched 51 = .ok (.ifCond .ne 18, 3) := by decide +kernel
theorem dX2_sellUnfetched_54 : decode cX2_sellUnfetched 54 = .ok (.iload 4, 2) := by decide +kernel
theorem dX2_sellUnfetched_56 : decode cX2_sellUnfetched 56 = .ok (.bipush 30, 2) := by decide +kernel
theorem dX2_sellUnfetched_58 : decode cX2_sellUnfetched 58 = .ok (.if_icmp .lt 11, 3) := by decide +kernel
theorem dX2_sellUnfetched_61 : decode cX2_sellUnfetched 61 = .ok (.aload_n 0, 1) := by decide +kernel
theorem dX2_sellUnfetched_62 : decode cX2_sellUnfetched 62 = .ok (.aload_n 3, 1) := by decide +kernel
theorem dX2_sellUnfetched_63 : decode cX2_sellUnfetched 63 = .ok (.invokevirtual 216, 3) := by decide +kernel
theorem dX2_sellUnfetched_66 : decode cX2_sellUnfetched 66 = .ok (.iinc 1 1, 3) := by decide +kernel
theorem dX2_sellUnfetched_69 : decode cX2_sellUnfetched 69 = .ok (.iinc 2 1, 3) := by decide +kernel
theorem dX2_sellUnfetched_72 : decode cX2_sellUnfetched 72 = .ok (.goto (-68), 3) := by decide +kernel
theorem dX2_sellUnfetched_75 : decode cX2_sellUnfetched 75 = .ok (.iload_n 1, 1) := by decide +kernel
theorem dX2_sellUnfetched_76 : decode cX2_sellUnfetched 76 = .ok (.ireturn, 1) := by decide +kernel
theorem dX2_driveVan_0 : decode cX2_driveVan 0 = .ok (.aload_n 0, 1) := by decide +kernel
theorem dX2_driveVan_1 : decode cX2_driveVan 1 = .ok (.getfield 26, 3) := by decide +kernel
theorem dX2_driveVan_4 : decode cX2_driveVan 4 = .ok (.istore_n 1, 1) := by decide +kernel
theorem dX2_driveVan_5 : decode cX2_driveVan 5 = .ok (.iconst 0, 1) := by decide +kernel
theorem dX2_driveVan_6 : decode cX2_driveVan 6 = .ok (.istore_n 2, 1) := by decide +kernel
theorem dX2_driveVan_7 : decode cX2_driveVan 7 = .ok (.iload_n 2, 1) := by decide +kernel
theorem dX2_driveVan_8 : decode cX2_driveVan 8 = .ok (.aload_n 0, 1) := by decide +kernel
theorem dX2_driveVan_9 : decode cX2_driveVan 9 = .ok (.getfield 23, 3) := by decide +kernel
theorem dX2_driveVan_12 : decode cX2_driveVan 12 = .ok (.invokevirtual 63, 3) := by decide +kernel
theorem dX2_driveVan_15 : decode cX2_driveVan 15 = .ok (.if_icmp .ge 87, 3) := by decide +kernel
theorem dX2_driveVan_18 : decode cX2_driveVan 18 = .ok (.aload_n 0, 1) := by decide +kernel
theorem dX2_driveVan_19 : decode cX2_driveVan 19 = .ok (.getfield 23, 3) := by decide +kernel
theorem dX2_driveVan_22 : decode cX2_driveVan 22 = .ok (.iload_n 2, 1) := by decide +kernel
theorem dX2_driveVan_23 : decode cX2_driveVan 23 = .ok (.invokevirtual 181, 3) := by decide +kernel
theorem dX2_driveVan_26 : decode cX2_driveVan 26 = .ok (.checkcast 76, 3) := by decide +kernel
theorem dX2_driveVan_29 : decode cX2_driveVan 29 = .ok (.astore_n 3, 1) := by decide +kernel
theorem dX2_driveVan_30 : decode cX2_driveVan 30 = .ok (.aload_n 3, 1) := by decide +kernel
theorem dX2_driveVan_31 : decode cX2_driveVan 31 = .ok (.getfield 190, 3) := by decide +kernel
theorem dX2_driveVan_34 : decode cX2_driveVan 34 = .ok (.iload_n 1, 1) := by decide +kernel
theorem dX2_driveVan_35 : decode cX2_driveVan 35 = .ok (.if_icmp .gt 22, 3) := by decide +kernel
theorem dX2_driveVan_38 : decode cX2_driveVan 38 = .ok (.aload_n 0, 1) := by decide +kernel
theorem dX2_driveVan_39 : decode cX2_driveVan 39 = .ok (.aload_n 3, 1) := by decide +kernel
theorem dX2_driveVan_40 : decode cX2_driveVan 40 = .ok (.getfield 112, 3) := by decide +kernel
theorem dX2_driveVan_43 : decode cX2_driveVan 43 = .ok (.aload_n 3, 1) := by decide +kernel
theorem dX2_driveVan_44 : decode cX2_driveVan 44 = .ok (.getfield 190, 3) := by decide +kernel
theorem dX2_driveVan_47 : decode cX2_driveVan 47 = .ok (.invokevirtual 67, 3) := by decide +kernel
theorem dX2_driveVan_50 : decode cX2_driveVan 50 = .ok (.ifCond .eq 7, 3) := by decide +kernel
theorem dX2_driveVan_53 : decode cX2_driveVan 53 = .ok (.iconst 1, 1) := by decide +kernel
theorem dX2_driveVan_54 : decode cX2_driveVan 54 = .ok (.goto 4, 3) := by decide +kernel
theorem dX2_driveVan_57 : decode cX2_driveVan 57 = .ok (.iconst 0, 1) := by decide +kernel
theorem dX2_driveVan_58 : decode cX2_driveVan 58 = .ok (.istore 4, 2) := by decide +kernel
theorem dX2_driveVan_60 : decode cX2_driveVan 60 = .ok (.iload 4, 2) := by decide +kernel
theorem dX2_driveVan_62 : decode cX2_driveVan 62 = .ok (.ifCond .eq 34, 3) := by decide +kernel
theorem dX2_driveVan_65 : decode cX2_driveVan 65 = .ok (.aload_n 3, 1) := by decide +kernel
theorem dX2_driveVan_66 : decode cX2_driveVan 66 = .ok (.invokevirtual 93, 3) := by decide +kernel
theorem dX2_driveVan_69 : decode cX2_driveVan 69 = .ok (.ifCond .ne 27, 3) := by decide +kernel
theorem dX2_driveVan_72 : decode cX2_driveVan 72 = .ok (.iload_n 1, 1) := by decide +kernel
theorem dX2_driveVan_73 : decode cX2_driveVan 73 = .ok (.aload_n 3, 1) := by decide +kernel
theorem dX2_driveVan_74 : decode cX2_driveVan 74 = .ok (.getfield 190, 3) := by decide +kernel
theorem dX2_driveVan_77 : decode cX2_driveVan 77 = .ok (.isub, 1) := by decide +kernel
theorem dX2_driveVan_78 : decode cX2_driveVan 78 = .ok (.istore_n 1, 1) := by decide +kernel
theorem dX2_driveVan_79 : decode cX2_driveVan 79 = .ok (.aload_n 3, 1) := by decide +kernel
theorem dX2_driveVan_80 : decode cX2_driveVan 80 = .ok (.aload_n 3, 1) := by decide +kernel
theorem dX2_driveVan_81 : decode cX2_driveVan 81 = .ok (.getfield 112, 3) := by decide +kernel
theorem dX2_driveVan_84 : decode cX2_driveVan 84 = .ok (.aload_n 0, 1) := by decide +kernel
theorem dX2_driveVan_85 : decode cX2_driveVan 85 = .ok (.getfield 30, 3) := by decide +kernel
theorem dX2_driveVan_88 : decode cX2_driveVan 88 = .ok (.invokevirtual 195, 3) := by decide +kernel
theorem dX2_driveVan_91 : decode cX2_driveVan 91 = .ok (.aload_n 3, 1) := by decide +kernel
theorem dX2_driveVan_92 : decode cX2_driveVan 92 = .ok (.iconst (-1), 1) := by decide +kernel
theorem dX2_driveVan_93 : decode cX2_driveVan 93 = .ok (.putfield 112, 3) := by decide +kernel
theorem dX2_driveVan_96 : decode cX2_driveVan 96 = .ok (.iinc 2 1, 3) := by decide +kernel
theorem dX2_driveVan_99 : decode cX2_driveVan 99 = .ok (.goto (-92), 3) := by decide +kernel
theorem dX2_driveVan_102 : decode cX2_driveVan 102 = .ok (.aload_n 0, 1) := by decide +kernel
theorem dX2_driveVan_103 : decode cX2_driveVan 103 = .ok (.invokevirtual 115, 3) := by decide +kernel
theorem dX2_driveVan_106 : decode cX2_driveVan 106 = .ok (.return_, 1) := by decide +kernel
end
section
theorem dX3_init_0 : decode cX3_init 0 = .ok (.aload_n 0, 1) := by decide +kernel
theorem dX3_init_1 : decode cX3_init 1 = .ok (.invokespecial 1, 3) := by decide +kernel
theorem dX3_init_4 : decode cX3_init 4 = .ok (.aload_n 0, 1) := by decide +kernel
theorem dX3_init_5 : decode cX3_init 5 = .ok (.iconst 5, 1) := by decide +kernel
theorem dX3_init_6 : decode cX3_init 6 = .ok (.newarray .int, 2) := by decide +kernel
theorem dX3_init_8 : decode cX3_init 8 = .ok (.putfield 7, 3) := by decide +kernel
theorem dX3_init_11 : decode cX3_init 11 = .ok (.aload_n 0, 1) := by decide +kernel
theorem dX3_init_12 : decode cX3_init 12 = .ok (.bipush 6, 2) := by decide +kernel
theorem dX3_init_14 : decode cX3_init 14 = .ok (.putfield 13, 3) := by decide +kernel
theorem dX3_init_17 : decode cX3_init 17 = .ok (.aload_n 0, 1) := by decide +kernel
theorem dX3_init_18 : decode cX3_init 18 = .ok (.bipush 8, 2) := by decide +kernel
theorem dX3_init_20 : decode cX3_init 20 = .ok (.newarray .int, 2) := by decide +kernel
theorem dX3_init_22 : decode cX3_init 22 = .ok (.putfield 17, 3) := by decide +kernel
theorem dX3_init_25 : decode cX3_init 25 = .ok (.aload_n 0, 1) := by decide +kernel
theorem dX3_init_26 : decode cX3_init 26 = .ok (.bipush 24, 2) := by decide +kernel
theorem dX3_init_28 : decode cX3_init 28 = .ok (.newarray .int, 2) := by decide +kernel
theorem dX3_init_30 : decode cX3_init 30 = .ok (.putfield 20, 3) := by decide +kernel
theorem dX3_init_33 : decode cX3_init 33 = .ok (.aload_n 0, 1) := by decide +kernel
theorem dX3_init_34 : decode cX3_init 34 = .ok (.bipush 24, 2) := by decide +kernel
theorem dX3_init_36 : decode cX3_init 36 = .ok (.newarray .int, 2) := by decide +kernel
theorem dX3_init_38 : decode cX3_init 38 = .ok (.putfield 23, 3) := by decide +kernel
theorem dX3_init_41 : decode cX3_init 41 = .ok (.aload_n 0, 1) := by decide +kernel
theorem dX3_init_42 : decode cX3_init 42 = .ok (.bipush 24, 2) := by decide +kernel
theorem dX3_init_44 : decode cX3_init 44 = .ok (.newarray .int, 2) := by decide +kernel
theorem dX3_init_46 : decode cX3_init 46 = .ok (.putfield 26, 3) := by decide +kernel
theorem dX3_init_49 : decode cX3_init 49 = .ok (.aload_n 0, 1) := by decide +kernel
theorem dX3_init_50 : decode cX3_init 50 = .ok (.bipush 24, 2) := by decide +kernel
theorem dX3_init_52 : decode cX3_init 52 = .ok (.newarray .int, 2) := by decide +kernel
theorem dX3_init_54 : decode cX3_init 54 = .ok (.putfield 29, 3) := by decide +kernel
theorem dX3_init_57 : decode cX3_init 57 = .ok (.aload_n 0, 1) := by decide +kernel
theorem dX3_init_58 : decode cX3_init 58 = .ok (.bipush 24, 2) := by decide +kernel
theorem dX3_init_60 : decode cX3_init 60 = .ok (.newarray .int, 2) := by decide +kernel
theorem dX3_init_62 : decode cX3_init 62 = .ok (.putfield 32, 3) := by decide +kernel
theorem dX3_init_65 : decode cX3_init 65 = .ok (.aload_n 0, 1) := by decide +kernel
theorem dX3_init_66 : decode cX3_init 66 = .ok (.bipush 24, 2) := by decide +kernel
theorem dX3_init_68 : decode cX3_init 68 = .ok (.newarray .int, 2) := by decide +kernel
theorem dX3_init_70 : decode cX3_init 70 = .ok (.putfield 35, 3) := by decide +kernel
theorem dX3_init_73 : decode cX3_init 73 = .ok (.aload_n 0, 1) := by decide +kernel
theorem dX3_init_74 : decode cX3_init 74 = .ok (.bipush 24, 2) := by decide +kernel
theorem dX3_init_76 : decode cX3_init 76 = .ok (.newarray .int, 2) := by decide +kernel
theorem dX3_init_78 : decode cX3_init 78 = .ok (.putfield 38, 3) := by decide +kernel
theorem dX3_init_81 : decode cX3_init 81 = .ok (.aload_n 0, 1) := by decide +kernel
theorem dX3_init_82 : decode cX3_init 82 = .ok (.bipush 24, 2) := by decide +kernel
theorem dX3_init_84 : decode cX3_init 84 = .ok (.newarray .int, 2) := by decide +kernel
theorem dX3_init_86 : decode cX3_init 86 = .ok (.putfield 41, 3) := by decide +kernel
theorem dX3_init_89 : decode cX3_init 89 = .ok (.aload_n 0, 1) := by decide +kernel
theorem dX3_init_90 : decode cX3_init 90 = .ok (.bipush 24, 2) := by decide +kernel
theorem dX3_init_92 : decode cX3_init 92 = .ok (.newarray .int, 2) := by decide +kernel
theorem dX3_init_94 : decode cX3_init 94 = .ok (.putfield 44, 3) := by decide +kernel
theorem dX3_init_97 : decode cX3_init 97 = .ok (.aload_n 0, 1) := by decide +kernel
theorem dX3_init_98 : decode cX3_init 98 = .ok (.bipush 24, 2) := by decide +kernel
theorem dX3_init_100 : decode cX3_init 100 = .ok (.newarray .int, 2) := by decide +kernel
theorem dX3_init_102 : decode cX3_init 102 = .ok (.putfield 47, 3) := by decide +kernel
theorem dX3_init_105 : decode cX3_init 105 = .ok (.aload_n 0, 1) := by decide +kernel
theorem dX3_init_106 : decode cX3_init 106 = .ok (.bipush 24, 2) := by decide +kernel
theorem dX3_init_108 : decode cX3_init 108 = .ok (.newarray .int, 2) := by decide +kernel
theorem dX3_init_110 : decode cX3_init 110 = .ok (.putfield 50, 3) := by decide +kernel
theorem dX3_init_113 : decode cX3_init 113 = .ok (.aload_n 0, 1) := by decide +kernel
theorem dX3_init_114 : decode cX3_init 114 = .ok (.sipush 24048, 3) := by decide +kernel
theorem dX3_init_117 : decode cX3_init 117 = .ok (.newarray .int, 2) := by decide +kernel
theorem dX3_init_119 : decode cX3_init 119 = .ok (.putfield 53, 3) := by decide +kernel
theorem dX3_init_122 : decode cX3_init 122 = .ok (.iconst 0, 1) := by decide +kernel
theorem dX3_init_123 : decode cX3_init 123 = .ok (.istore_n 1, 1) := by decide +kernel
theorem dX3_init_124 : decode cX3_init 124 = .ok (.iload_n 1, 1) := by decide +kernel
theorem dX3_init_125 : decode cX3_init 125 = .ok (.iconst 5, 1) := by decide +kernel
theorem dX3_init_126 : decode cX3_init 126 = .ok (.if_icmp .ge 17, 3) := by decide +kernel
theorem dX3_init_129 : decode cX3_init 129 = .ok (.aload_n 0, 1) := by decide +kernel
theorem dX3_init_130 : decode cX3_init 130 = .ok (.getfield 7, 3) := by decide +kernel
theorem dX3_init_133 : decode cX3_init 133 = .ok (.iload_n 1, 1) := by decide +kernel
theorem dX3_init_134 : decode cX3_init 134 = .ok (.bipush 10, 2) := by decide +kernel
theorem dX3_init_136 : decode cX3_init 136 = .ok (.iastore, 1) := by decide +kernel
theorem dX3_init_137 : decode cX3_init 137 = .ok (.iinc 1 1, 3) := by decide +kernel
theorem dX3_init_140 : decode cX3_init 140 = .ok (.goto (-16), 3) := by decide +kernel
theorem dX3_init_143 : decode cX3_init 143 = .ok (.iconst 0, 1) := by decide +kernel
theorem dX3_init_144 : decode cX3_init 144 = .ok (.istore_n 1, 1) := by decide +kernel
theorem dX3_init_145 : decode cX3_init 145 = .ok (.iload_n 1, 1) := by decide +kernel
theorem dX3_init_146 : decode cX3_init 146 = .ok (.sipush 24048, 3) := by decide +kernel
theorem dX3_init_149 : decode cX3_init 149 = .ok (.if_icmp .ge 17, 3) := by decide +kernel
theorem dX3_init_152 : decode cX3_init 152 = .ok (.aload_n 0, 1) := by decide +kernel
theorem dX3_init_153 : decode cX3_init 153 = .ok (.getfield 53, 3) := by decide +kernel
theorem dX3_init_156 : decode cX3_init 156 = .ok (.iload_n 1, 1) := by decide +kernel
theorem dX3_init_157 : decode cX3_init 157 = .ok (.bipush 12, 2) := by decide +kernel
theorem dX3_init_159 : decode cX3_init 159 = .ok (.iastore, 1) := by decide +kernel
theorem dX3_init_160 : decode cX3_init 160 = .ok (.iinc 1 1, 3) := by decide +kernel
theorem dX3_init_163 : decode cX3_init 163 = .ok (.goto (-18), 3) := by decide +kernel
theorem dX3_init_166 : decode cX3_init 166 = .ok (.return_, 1) := by decide +kernel
theorem dX3_thrown_0 : decode cX3_thrown 0 = .ok (.aload_n 0, 1) := by decide +kernel
theorem dX3_thrown_1 : decode cX3_thrown 1 = .ok (.getfield 56, 3) := by decide +kernel
theorem dX3_thrown_4 : decode cX3_thrown 4 = .ok (.ireturn, 1) := by decide +kernel
theorem dX3_in_0 : decode cX3_in 0 = .ok (.iload_n 0, 1) := by decide +kernel
theorem dX3_in_1 : decode cX3_in 1 = .ok (.iload_n 1, 1) := by decide +kernel
theorem dX3_in_2 : decode cX3_in 2 = .ok (.if_icmp .lt 12, 3) := by decide +kernel
theorem dX3_in_5 : decode cX3_in 5 = .ok (.iload_n 0, 1) := by decide +kernel
theorem dX3_in_6 : decode cX3_in 6 = .ok (.iload_n 2, 1) := by decide +kernel
theorem dX3_in_7 : decode cX3_in 7 = .ok (.if_icmp .gt 7, 3) := by decide +kernel
theorem dX3_in_10 : decode cX3_in 10 = .ok (.iconst 1, 1) := by decide +kernel
theorem dX3_in_11 : decode cX3_in 11 = .ok (.goto 4, 3) := by decide +kernel
theorem dX3_in_14 : decode cX3_in 14 = .ok (.iconst 0, 1) := by decide +kernel
theorem dX3_in_15 : decode cX3_in 15 = .ok (.ireturn, 1) := by decide +kernel
theorem dX3_isFine_0 : decode cX3_isFine 0 = .ok (.aload_n 0, 1) := by decide +kernel
theorem dX3_isFine_1 : decode cX3_isFine 1 = .ok (.iload_n 1, 1) := by decide +kernel
theorem dX3_isFine_2 : decode cX3_isFine 2 = .ok (.putfield 56, 3) := by decide +kernel
theorem dX3_isFine_5 : decode cX3_isFine 5 = .ok (.iload_n 1, 1) := by decide +kernel
theorem dX3_isFine_6 : decode cX3_isFine 6 = .ok (.ifCond .ne 7, 3) := by decide +kernel
theorem dX3_isFine_9 : decode cX3_isFine 9 = .ok (.iconst 1, 1) := by decide +kernel
theorem dX3_isFine_10 : decode cX3_isFine 10 = .ok (.goto 4, 3) := by decide +kernel
theorem dX3_isFine_13 : decode cX3_isFine 13 = .ok (.iconst 0, 1) := by decide +kernel
theorem dX3_isFine_14 : decode cX3_isFine 14 = .ok (.ireturn, 1) := by decide +kernel
theorem dX3_isCounter_0 : decode cX3_isCounter 0 = .ok (.iload_n 0, 1) := by decide +kernel
theorem dX3_isCounter_1 : decode cX3_isCounter 1 = .ok (.iconst 0, 1) := by decide +kernel
theorem dX3_isCounter_2 : decode cX3_isCounter 2 = .ok (.iconst 4, 1) := by decide +kernel
theorem dX3_isCounter_3 : decode cX3_isCounter 3 = .ok (.invokestatic 59, 3) := by decide +kernel
theorem dX3_isCounter_6 : decode cX3_isCounter 6 = .ok (.ireturn, 1) := by decide +kernel
theorem dX3_isThing_0 : decode cX3_isThing 0 = .ok (.iload_n 1, 1) := by decide +kernel
theorem dX3_isThing_1 : decode cX3_isThing 1 = .ok (.iconst 0, 1) := by decide +kernel
theorem dX3_isThing_2 : decode cX3_isThing 2 = .ok (.aload_n 0, 1) := by decide +kernel
theorem dX3_isThing_3 : decode cX3_isThing 3 = .ok (.getfield 63, 3) := by decide +kernel
theorem dX3_isThing_6 : decode cX3_isThing 6 = .ok (.iconst 1, 1) := by decide +kernel
theorem dX3_isThing_7 : decode cX3_isThing 7 = .ok (.isub, 1) := by decide +kernel
theorem dX3_isThing_8 : decode cX3_isThing 8 = .ok (.invokestatic 59, 3) := by decide +kernel
theorem dX3_isThing_11 : decode cX3_isThing 11 = .ok (.ireturn, 1) := by decide +kernel
theorem dX3_isAt_0 : decode cX3_isAt 0 = .ok (.aload_n 0, 1) := by decide +kernel
theorem dX3_isAt_1 : decode cX3_isAt 1 = .ok (.getfield 29, 3) := by decide +kernel
theorem dX3_isAt_4 : decode cX3_isAt 4 = .ok (.iload_n 1, 1) := by decide +kernel
theorem dX3_isAt_5 : decode cX3_isAt 5 = .ok (.iaload, 1) := by decide +kernel
theorem dX3_isAt_6 : decode cX3_isAt 6 = .ok (.iconst 5, 1) := by decide +kernel
theorem dX3_isAt_7 : decode cX3_isAt 7 = .ok (.if_icmp .ge 7, 3) := by decide +kernel
theorem dX3_isAt_10 : decode cX3_isAt 10 = .ok (.iconst 1, 1) := by decide +kernel
theorem dX3_isAt_11 : decode cX3_isAt 11 = .ok (.goto 4, 3) := by decide +kernel
theorem dX3_isAt_14 : decode cX3_isAt 14 = .ok (.iconst 0, 1) := by decide +kernel
theorem dX3_isAt_15 : decode cX3_isAt 15 = .ok (.ireturn, 1) := by decide +kernel
theorem dX3_setRoom_0 : decode cX3_setRoom 0 = .ok (.aload_n 0, 1) := by decide +kernel
theorem dX3_setRoom_1 : decode cX3_setRoom 1 = .ok (.iload_n 1, 1) := by decide +kernel
theorem dX3_setRoom_2 : decode cX3_setRoom 2 = .ok (.invokestatic 66, 3) := by decide +kernel
theorem dX3_setRoom_5 : decode cX3_setRoom 5 = .ok (.ifCond .eq 17, 3) := by decide +kernel
theorem dX3_setRoom_8 : decode cX3_setRoom 8 = .ok (.iload_n 2, 1) := by decide +kernel
theorem dX3_setRoom_9 : decode cX3_setRoom 9 = .ok (.iconst 0, 1) := by decide +kernel
theorem dX3_setRoom_10 : decode cX3_setRoom 10 = .ok (.bipush 30, 2) := by decide +kernel
theorem dX3_setRoom_12 : decode cX3_setRoom 12 = .ok (.invokestatic 59, 3) := by decide +kernel
theorem dX3_setRoom_15 : decode cX3_setRoom 15 = .ok (.ifCond .eq 7, 3) := by decide +kernel
theorem dX3_setRoom_18 : decode cX3_setRoom 18 = .ok (.iconst 0, 1) := by decide +kernel
theorem dX3_setRoom_19 : decode cX3_setRoom 19 = .ok (.goto 4, 3) := by decide +kernel
theorem dX3_setRoom_22 : decode cX3_setRoom 22 = .ok (.iconst 1, 1) := by decide +kernel
theorem dX3_setRoom_23 : decode cX3_setRoom 23 = .ok (.invokevirtual 70, 3) := by decide +kernel
theorem dX3_setRoom_26 : decode cX3_setRoom 26 = .ok (.ifCond .ne 5, 3) := by decide +kernel
theorem dX3_setRoom_29 : decode cX3_setRoom 29 = .ok (.iconst 0, 1) := by decide +kernel
theorem dX3_setRoom_30 : decode cX3_setRoom 30 = .ok (.ireturn, 1) := by decide +kernel
theorem dX3_setRoom_31 : decode cX3_setRoom 31 = .ok (.aload_n 0, 1) := by decide +kernel
theorem dX3_setRoom_32 : decode cX3_setRoom 32 = .ok (.getfield 7, 3) := by decide +kernel
theorem dX3_setRoom_35 : decode cX3_setRoom 35 = .ok (.iload_n 1, 1) := by decide +kernel
theorem dX3_setRoom_36 : decode cX3_setRoom 36 = .ok (.iaload, 1) := by decide +kernel
theorem dX3_setRoom_37 : decode cX3_setRoom 37 = .ok (.istore_n 3, 1) := by decide +kernel
theorem dX3_setRoom_38 : decode cX3_setRoom 38 = .ok (.aload_n 0, 1) := by decide +kernel
theorem dX3_setRoom_39 : decode cX3_setRoom 39 = .ok (.getfield 7, 3) := by decide +kernel
theorem dX3_setRoom_42 : decode cX3_setRoom 42 = .ok (.iload_n 1, 1) := by decide +kernel
theorem dX3_setRoom_43 : decode cX3_setRoom 43 = .ok (.iload_n 2, 1) := by decide +kernel
theorem dX3_setRoom_44 : decode cX3_setRoom 44 = .ok (.iastore, 1) := by decide +kernel
theorem dX3_setRoom_45 : decode cX3_setRoom 45 = .ok (.iload_n 3, 1) := by decide +kernel
theorem dX3_setRoom_46 : decode cX3_setRoom 46 = .ok (.ireturn, 1) := by decide +kernel
theorem dX3_setVan_0 : decode cX3_setVan 0 = .ok (.aload_n 0, 1) := by decide +kernel
theorem dX3_setVan_1 : decode cX3_setVan 1 = .ok (.iload_n 1, 1) := by decide +kernel
theorem dX3_setVan_2 : decode cX3_setVan 2 = .ok (.iconst 0, 1) := by decide +kernel
theorem dX3_setVan_3 : decode cX3_setVan 3 = .ok (.bipush 30, 2) := by decide +kernel
theorem dX3_setVan_5 : decode cX3_setVan 5 = .ok (.invokestatic 59, 3) := by decide +kernel
theorem dX3_setVan_8 : decode cX3_setVan 8 = .ok (.ifCond .eq 7, 3) := by decide +kernel
theorem dX3_setVan_11 : decode cX3_setVan 11 = .ok (.iconst 0, 1) := by decide +kernel
theorem dX3_setVan_12 : decode cX3_setVan 12 = .ok (.goto 4, 3) := by decide +kernel
theorem dX3_setVan_15 : decode cX3_setVan 15 = .ok (.iconst 1, 1) := by decide +kernel
theorem dX3_setVan_16 : decode cX3_setVan 16 = .ok (.invokevirtual 70, 3) := by decide +kernel
theorem dX3_setVan_19 : decode cX3_setVan 19 = .ok (.ifCond .ne 5, 3) := by decide +kernel
theorem dX3_setVan_22 : decode cX3_setVan 22 = .ok (.iconst 0, 1) := by decide +kernel
theorem dX3_setVan_23 : decode cX3_setVan 23 = .ok (.ireturn, 1) := by decide +kernel
theorem dX3_setVan_24 : decode cX3_setVan 24 = .ok (.aload_n 0, 1) := by decide +kernel
theorem dX3_setVan_25 : decode cX3_setVan 25 = .ok (.getfield 13, 3) := by decide +kernel
theorem dX3_setVan_28 : decode cX3_setVan 28 = .ok (.istore_n 2, 1) := by decide +kernel
theorem dX3_setVan_29 : decode cX3_setVan 29 = .ok (.aload_n 0, 1) := by decide +kernel
theorem dX3_setVan_30 : decode cX3_setVan 30 = .ok (.iload_n 1, 1) := by decide +kernel
theorem dX3_setVan_31 : decode cX3_setVan 31 = .ok (.putfield 13, 3) := by decide +kernel
theorem dX3_setVan_34 : decode cX3_setVan 34 = .ok (.iload_n 2, 1) := by decide +kernel
theorem dX3_setVan_35 : decode cX3_setVan 35 = .ok (.ireturn, 1) := by decide +kernel
theorem dX3_loadOf_0 : decode cX3_loadOf 0 = .ok (.iconst 0, 1) := by decide +kernel
theorem dX3_loadOf_1 : decode cX3_loadOf 1 = .ok (.istore_n 2, 1) := by decide +kernel
theorem dX3_loadOf_2 : decode cX3_loadOf 2 = .ok (.iconst 0, 1) := by decide +kernel
theorem dX3_loadOf_3 : decode cX3_loadOf 3 = .ok (.istore_n 3, 1) := by decide +kernel
theorem dX3_loadOf_4 : decode cX3_loadOf 4 = .ok (.iload_n 3, 1) := by decide +kernel
theorem dX3_loadOf_5 : decode cX3_loadOf 5 = .ok (.aload_n 0, 1) := by decide +kernel
theorem dX3_loadOf_6 : decode cX3_loadOf 6 = .ok (.getfield 63, 3) := by decide +kernel
theorem dX3_loadOf_9 : decode cX3_loadOf 9 = .ok (.if_icmp .ge 32, 3) := by decide +kernel
theorem dX3_loadOf_12 : decode cX3_loadOf 12 = .ok (.iload_n 2, 1) := by decide +kernel
theorem dX3_loadOf_13 : decode cX3_loadOf 13 = .ok (.aload_n 0, 1) := by decide +kernel
theorem dX3_loadOf_14 : decode cX3_loadOf 14 = .ok (.getfield 29, 3) := by decide +kernel
theorem dX3_loadOf_17 : decode cX3_loadOf 17 = .ok (.iload_n 3, 1) := by decide +kernel
theorem dX3_loadOf_18 : decode cX3_loadOf 18 = .ok (.iaload, 1) := by decide +kernel
theorem dX3_loadOf_19 : decode cX3_loadOf 19 = .ok (.iload_n 1, 1) := by decide +kernel
theorem dX3_loadOf_20 : decode cX3_loadOf 20 = .ok (.if_icmp .ne 12, 3) := by decide +kernel
theorem dX3_loadOf_23 : decode cX3_loadOf 23 = .ok (.aload_n 0, 1) := by decide +kernel
theorem dX3_loadOf_24 : decode cX3_loadOf 24 = .ok (.getfield 23, 3) := by decide +kernel
theorem dX3_loadOf_27 : decode cX3_loadOf 27 = .ok (.iload_n 3, 1) := by decide +kernel
theorem dX3_loadOf_28 : decode cX3_loadOf 28 = .ok (.iaload, 1) := by decide +kernel
theorem dX3_loadOf_29 : decode cX3_loadOf 29 = .ok (.goto 4, 3) := by decide +kernel
theorem dX3_loadOf_32 : decode cX3_loadOf 32 = .ok (.iconst 0, 1) := by decide +kernel
theorem dX3_loadOf_33 : decode cX3_loadOf 33 = .ok (.iadd, 1) := by decide +kernel
theorem dX3_loadOf_34 : decode cX3_loadOf 34 = .ok (.istore_n 2, 1) := by decide +kernel
theorem dX3_loadOf_35 : decode cX3_loadOf 35 = .ok (.iinc 3 1, 3) := by decide +kernel
theorem dX3_loadOf_38 : decode cX3_loadOf 38 = .ok (.goto (-34), 3) := by decide +kernel
theorem dX3_loadOf_41 : decode cX3_loadOf 41 = .ok (.iload_n 2, 1) := by decide +kernel
theorem dX3_loadOf_42 : decode cX3_loadOf 42 = .ok (.ireturn, 1) := by decide +kernel
theorem dX3_leave_0 : decode cX3_leave 0 = .ok (.iload_n 1, 1) := by decide +kernel
theorem dX3_leave_1 : decode cX3_leave 1 = .ok (.iconst 0, 1) := by decide +kernel
theorem dX3_leave_2 : decode cX3_leave 2 = .ok (.bipush 7, 2) := by decide +kernel
theorem dX3_leave_4 : decode cX3_leave 4 = .ok (.invokestatic 59, 3) := by decide +kernel
theorem dX3_leave_7 : decode cX3_leave 7 = .ok (.ifCond .eq 19, 3) := by decide +kernel
theorem dX3_leave_10 : decode cX3_leave 10 = .ok (.iload_n 2, 1) := by decide +kernel
theorem dX3_leave_11 : decode cX3_leave 11 = .ok (.iconst 1, 1) := by decide +kernel
theorem dX3_leave_12 : decode cX3_leave 12 = .ok (.iconst 3, 1) := by decide +kernel
theorem dX3_leave_13 : decode cX3_leave 13 = .ok (.invokestatic 59, 3) := by decide +kernel
theorem dX3_leave_16 : decode cX3_leave 16 = .ok (.ifCond .eq 10, 3) := by decide +kernel
theorem dX3_leave_19 : decode cX3_leave 19 = .ok (.iload_n 3, 1) := by decide +kernel
theorem dX3_leave_20 : decode cX3_leave 20 = .ok (.invokestatic 66, 3) := by decide +kernel
theorem dX3_leave_23 : decode cX3_leave 23 = .ok (.ifCond .ne 7, 3) := by decide +kernel
theorem dX3_leave_26 : decode cX3_leave 26 = .ok (.iconst 1, 1) := by decide +kernel
theorem dX3_leave_27 : decode cX3_leave 27 = .ok (.goto 4, 3) := by decide +kernel
theorem dX3_leave_30 : decode cX3_leave 30 = .ok (.iconst 0, 1) := by decide +kernel
theorem dX3_leave_31 : decode cX3_leave 31 = .ok (.istore 4, 2) := by decide +kernel
theorem dX3_leave_33 : decode cX3_leave 33 = .ok (.aload_n 0, 1) := by decide +kernel
theorem dX3_leave_34 : decode cX3_leave 34 = .ok (.iload 4, 2) := by decide +kernel
theorem dX3_leave_36 : decode cX3_leave 36 = .ok (.ifCond .ne 32, 3) := by decide +kernel
theorem dX3_leave_39 : decode cX3_leave 39 = .ok (.aload_n 0, 1) := by decide +kernel
theorem dX3_leave_40 : decode cX3_leave 40 = .ok (.getfield 63, 3) := by decide +kernel
theorem dX3_leave_43 : decode cX3_leave 43 = .ok (.bipush 24, 2) := by decide +kernel
theorem dX3_leave_45 : decode cX3_leave 45 = .ok (.if_icmp .eq 19, 3) := by decide +kernel
theorem dX3_leave_48 : decode cX3_leave 48 = .ok (.aload_n 0, 1) := by decide +kernel
theorem dX3_leave_49 : decode cX3_leave 49 = .ok (.iload_n 3, 1) := by decide +kernel
theorem dX3_leave_50 : decode cX3_leave 50 = .ok (.invokevirtual 73, 3) := by decide +kernel
theorem dX3_leave_53 : decode cX3_leave 53 = .ok (.iload_n 2, 1) := by decide +kernel
theorem dX3_leave_54 : decode cX3_leave 54 = .ok (.iadd, 1) := by decide +kernel
theorem dX3_leave_55 : decode cX3_leave 55 = .ok (.aload_n 0, 1) := by decide +kernel
theorem dX3_leave_56 : decode cX3_leave 56 = .ok (.getfield 7, 3) := by decide +kernel
theorem dX3_leave_59 : decode cX3_leave 59 = .ok (.iload_n 3, 1) := by decide +kernel
theorem dX3_leave_60 : decode cX3_leave 60 = .ok (.iaload, 1) := by decide +kernel
theorem dX3_leave_61 : decode cX3_leave 61 = .ok (.if_icmp .le 7, 3) := by decide +kernel
theorem dX3_leave_64 : decode cX3_leave 64 = .ok (.iconst 2, 1) := by decide +kernel
theorem dX3_leave_65 : decode cX3_leave 65 = .ok (.goto 5, 3) := by decide +kernel
theorem dX3_leave_68 : decode cX3_leave 68 = .ok (.iload 4, 2) := by decide +kernel
theorem dX3_leave_70 : decode cX3_leave 70 = .ok (.invokevirtual 70, 3) := by decide +kernel
theorem dX3_leave_73 : decode cX3_leave 73 = .ok (.ifCond .ne 5, 3) := by decide +kernel
theorem dX3_leave_76 : decode cX3_leave 76 = .ok (.iconst 0, 1) := by decide +kernel
theorem dX3_leave_77 : decode cX3_leave 77 = .ok (.ireturn, 1) := by decide +kernel
theorem dX3_leave_78 : decode cX3_leave 78 = .ok (.aload_n 0, 1) := by decide +kernel
theorem dX3_leave_79 : decode cX3_leave 79 = .ok (.getfield 20, 3) := by decide +kernel
theorem dX3_leave_82 : decode cX3_leave 82 = .ok (.aload_n 0, 1) := by decide +kernel
theorem dX3_leave_83 : decode cX3_leave 83 = .ok (.getfield 63, 3) := by decide +kernel
theorem dX3_leave_86 : decode cX3_leave 86 = .ok (.iload_n 1, 1) := by decide +kernel
theorem dX3_leave_87 : decode cX3_leave 87 = .ok (.iastore, 1) := by decide +kernel
theorem dX3_leave_88 : decode cX3_leave 88 = .ok (.aload_n 0, 1) := by decide +kernel
theorem dX3_leave_89 : decode cX3_leave 89 = .ok (.getfield 23, 3) := by decide +kernel
theorem dX3_leave_92 : decode cX3_leave 92 = .ok (.aload_n 0, 1) := by decide +kernel
theorem dX3_leave_93 : decode cX3_leave 93 = .ok (.getfield 63, 3) := by decide +kernel
theorem dX3_leave_96 : decode cX3_leave 96 = .ok (.iload_n 2, 1) := by decide +kernel
theorem dX3_leave_97 : decode cX3_leave 97 = .ok (.iastore, 1) := by decide +kernel
theorem dX3_leave_98 : decode cX3_leave 98 = .ok (.aload_n 0, 1) := by decide +kernel
theorem dX3_leave_99 : decode cX3_leave 99 = .ok (.getfield 26, 3) := by decide +kernel
theorem dX3_leave_102 : decode cX3_leave 102 = .ok (.aload_n 0, 1) := by decide +kernel
theorem dX3_leave_103 : decode cX3_leave 103 = .ok (.getfield 63, 3) := by decide +kernel
theorem dX3_leave_106 : decode cX3_leave 106 = .ok (.bipush 20, 2) := by decide +kernel
theorem dX3_leave_108 : decode cX3_leave 108 = .ok (.iload_n 2, 1) := by decide +kernel
theorem dX3_leave_109 : decode cX3_leave 109 = .ok (.imul, 1) := by decide +kernel
theorem dX3_leave_110 : decode cX3_leave 110 = .ok (.iastore, 1) := by decide +kernel
theorem dX3_leave_111 : decode cX3_leave 111 = .ok (.aload_n 0, 1) := by decide +kernel
theorem dX3_leave_112 : decode cX3_leave 112 = .ok (.getfield 29, 3) := by decide +kernel
theorem dX3_leave_115 : decode cX3_leave 115 = .ok (.aload_n 0, 1) := by decide +kernel
theorem dX3_leave_116 : decode cX3_leave 116 = .ok (.getfield 63, 3) := by decide +kernel
theorem dX3_leave_119 : decode cX3_leave 119 = .ok (.iload_n 3, 1) := by decide +kernel
theorem dX3_leave_120 : decode cX3_leave 120 = .ok (.iastore, 1) := by decide +kernel
theorem dX3_leave_121 : decode cX3_leave 121 = .ok (.aload_n 0, 1) := by decide +kernel
theorem dX3_leave_122 : decode cX3_leave 122 = .ok (.getfield 32, 3) := by decide +kernel
theorem dX3_leave_125 : decode cX3_leave 125 = .ok (.aload_n 0, 1) := by decide +kernel
theorem dX3_leave_126 : decode cX3_leave 126 = .ok (.getfield 63, 3) := by decide +kernel
theorem dX3_leave_129 : decode cX3_leave 129 = .ok (.aload_n 0, 1) := by decide +kernel
theorem dX3_leave_130 : decode cX3_leave 130 = .ok (.getfield 77, 3) := by decide +kernel
theorem dX3_leave_133 : decode cX3_leave 133 = .ok (.iastore, 1) := by decide +kernel
theorem dX3_leave_134 : decode cX3_leave 134 = .ok (.aload_n 0, 1) := by decide +kernel
theorem dX3_leave_135 : decode cX3_leave 135 = .ok (.getfield 44, 3) := by decide +kernel
theorem dX3_leave_138 : decode cX3_leave 138 = .ok (.aload_n 0, 1) := by decide +kernel
theorem dX3_leave_139 : decode cX3_leave 139 = .ok (.getfield 63, 3) := by decide +kernel
theorem dX3_leave_142 : decode cX3_leave 142 = .ok (.iconst (-1), 1) := by decide +kernel
theorem dX3_leave_143 : decode cX3_leave 143 = .ok (.iastore, 1) := by decide +kernel
theorem dX3_leave_144 : decode cX3_leave 144 = .ok (.aload_n 0, 1) := by decide +kernel
theorem dX3_leave_145 : decode cX3_leave 145 = .ok (.getfield 47, 3) := by decide +kernel
theorem dX3_leave_148 : decode cX3_leave 148 = .ok (.aload_n 0, 1) := by decide +kernel
theorem dX3_leave_149 : decode cX3_leave 149 = .ok (.getfield 63, 3) := by decide +kernel
theorem dX3_leave_152 : decode cX3_leave 152 = .ok (.iconst (-1), 1) := by decide +kernel
theorem dX3_leave_153 : decode cX3_leave 153 = .ok (.iastore, 1) := by decide +kernel
theorem dX3_leave_154 : decode cX3_leave 154 = .ok (.aload_n 0, 1) := by decide +kernel
theorem dX3_leave_155 : decode cX3_leave 155 = .ok (.dup, 1) := by decide +kernel
theorem dX3_leave_156 : decode cX3_leave 156 = .ok (.getfield 63, 3) := by decide +kernel
theorem dX3_leave_159 : decode cX3_leave 159 = .ok (.iconst 1, 1) := by decide +kernel
theorem dX3_leave_160 : decode cX3_leave 160 = .ok (.iadd, 1) := by decide +kernel
theorem dX3_leave_161 : decode cX3_leave 161 = .ok (.putfield 63, 3) := by decide +kernel
theorem dX3_leave_164 : decode cX3_leave 164 = .ok (.aload_n 0, 1) := by decide +kernel
theorem dX3_leave_165 : decode cX3_leave 165 = .ok (.getfield 63, 3) := by decide +kernel
theorem dX3_leave_168 : decode cX3_leave 168 = .ok (.iconst 1, 1) := by decide +kernel
theorem dX3_leave_169 : decode cX3_leave 169 = .ok (.isub, 1) := by decide +kernel
theorem dX3_leave_170 : decode cX3_leave 170 = .ok (.ireturn, 1) := by decide +kernel
theorem dX3_forgets_0 : decode cX3_forgets 0 = .ok (.iconst 0, 1) := by decide +kernel
theorem dX3_forgets_1 : decode cX3_forgets 1 = .ok (.istore_n 2, 1) := by decide +kernel
theorem dX3_forgets_2 : decode cX3_forgets 2 = .ok (.iconst 0, 1) := by decide +kernel
theorem dX3_forgets_3 : decode cX3_forgets 3 = .ok (.istore_n 3, 1) := by decide +kernel
theorem dX3_forgets_4 : decode cX3_forgets 4 = .ok (.iload_n 3, 1) := by decide +kernel
theorem dX3_forgets_5 : decode cX3_forgets 5 = .ok (.aload_n 0, 1) := by decide +kernel
theorem dX3_forgets_6 : decode cX3_forgets 6 = .ok (.getfield 80, 3) := by decide +kernel
theorem dX3_forgets_9 : decode cX3_forgets 9 = .ok (.if_icmp .ge 34, 3) := by decide +kernel
theorem dX3_forgets_12 : decode cX3_forgets 12 = .ok (.aload_n 0, 1) := by decide +kernel
theorem dX3_forgets_13 : decode cX3_forgets 13 = .ok (.getfield 50, 3) := by decide +kernel
theorem dX3_forgets_16 : decode cX3_forgets 16 = .ok (.iload_n 3, 1) := by decide +kernel
theorem dX3_forgets_17 : decode cX3_forgets 17 = .ok (.iaload, 1) := by decide +kernel
theorem dX3_forgets_18 : decode cX3_forgets 18 = .ok (.iload_n 1, 1) := by decide +kernel
theorem dX3_forgets_19 : decode cX3_forgets 19 = .ok (.if_icmp .eq 18, 3) := by decide +kernel
theorem dX3_forgets_22 : decode cX3_forgets 22 = .ok (.aload_n 0, 1) := by decide +kernel
theorem dX3_forgets_23 : decode cX3_forgets 23 = .ok (.getfield 50, 3) := by decide +kernel
theorem dX3_forgets_26 : decode cX3_forgets 26 = .ok (.iload_n 2, 1) := by decide +kernel
theorem dX3_forgets_27 : decode cX3_forgets 27 = .ok (.aload_n 0, 1) := by decide +kernel
theorem dX3_forgets_28 : decode cX3_forgets 28 = .ok (.getfield 50, 3) := by decide +kernel
theorem dX3_forgets_31 : decode cX3_forgets 31 = .ok (.iload_n 3, 1) := by decide +kernel
theorem dX3_forgets_32 : decode cX3_forgets 32 = .ok (.iaload, 1) := by decide +kernel
theorem dX3_forgets_33 : decode cX3_forgets 33 = .ok (.iastore, 1) := by decide +kernel
theorem dX3_forgets_34 : decode cX3_forgets 34 = .ok (.iinc 2 1, 3) := by decide +kernel
theorem dX3_forgets_37 : decode cX3_forgets 37 = .ok (.iinc 3 1, 3) := by decide +kernel
theorem dX3_forgets_40 : decode cX3_forgets 40 = .ok (.goto (-36), 3) := by decide +kernel
theorem dX3_forgets_43 : decode cX3_forgets 43 = .ok (.aload_n 0, 1) := by decide +kernel
theorem dX3_forgets_44 : decode cX3_forgets 44 = .ok (.iload_n 2, 1) := by decide +kernel
theorem dX3_forgets_45 : decode cX3_forgets 45 = .ok (.putfield 80, 3) := by decide +kernel
theorem dX3_forgets_48 : decode cX3_forgets 48 = .ok (.aload_n 0, 1) := by decide +kernel
theorem dX3_forgets_49 : decode cX3_forgets 49 = .ok (.getfield 47, 3) := by decide +kernel
theorem dX3_forgets_52 : decode cX3_forgets 52 = .ok (.iload_n 1, 1) := by decide +kernel
theorem dX3_forgets_53 : decode cX3_forgets 53 = .ok (.iconst (-1), 1) := by decide +kernel
theorem dX3_forgets_54 : decode cX3_forgets 54 = .ok (.iastore, 1) := by decide +kernel
theorem dX3_forgets_55 : decode cX3_forgets 55 = .ok (.return_, 1) := by decide +kernel
theorem dX3_fetch_0 : decode cX3_fetch 0 = .ok (.aload_n 0, 1) := by decide +kernel
theorem dX3_fetch_1 : decode cX3_fetch 1 = .ok (.aload_n 0, 1) := by decide +kernel
theorem dX3_fetch_2 : decode cX3_fetch 2 = .ok (.iload_n 1, 1) := by decide +kernel
theorem dX3_fetch_3 : decode cX3_fetch 3 = .ok (.invokevirtual 83, 3) := by decide +kernel
theorem dX3_fetch_6 : decode cX3_fetch 6 = .ok (.ifCond .ne 7, 3) := by decide +kernel
theorem dX3_fetch_9 : decode cX3_fetch 9 = .ok (.iconst 1, 1) := by decide +kernel
theorem dX3_fetch_10 : decode cX3_fetch 10 = .ok (.goto 25, 3) := by decide +kernel
theorem dX3_fetch_13 : decode cX3_fetch 13 = .ok (.aload_n 0, 1) := by decide +kernel
theorem dX3_fetch_14 : decode cX3_fetch 14 = .ok (.iload_n 1, 1) := by decide +kernel
theorem dX3_fetch_15 : decode cX3_fetch 15 = .ok (.invokevirtual 86, 3) := by decide +kernel
theorem dX3_fetch_18 : decode cX3_fetch 18 = .ok (.ifCond .eq 12, 3) := by decide +kernel
theorem dX3_fetch_21 : decode cX3_fetch 21 = .ok (.aload_n 0, 1) := by decide +kernel
theorem dX3_fetch_22 : decode cX3_fetch 22 = .ok (.getfield 38, 3) := by decide +kernel
theorem dX3_fetch_25 : decode cX3_fetch 25 = .ok (.iload_n 1, 1) := by decide +kernel
theorem dX3_fetch_26 : decode cX3_fetch 26 = .ok (.iaload, 1) := by decide +kernel
theorem dX3_fetch_27 : decode cX3_fetch 27 = .ok (.ifCond .le 7, 3) := by decide +kernel
theorem dX3_fetch_30 : decode cX3_fetch 30 = .ok (.iconst 2, 1) := by decide +kernel
theorem dX3_fetch_31 : decode cX3_fetch 31 = .ok (.goto 4, 3) := by decide +kernel
theorem dX3_fetch_34 : decode cX3_fetch 34 = .ok (.iconst 0, 1) := by decide +kernel
theorem dX3_fetch_35 : decode cX3_fetch 35 = .ok (.invokevirtual 70, 3) := by decide +kernel
theorem dX3_fetch_38 : decode cX3_fetch 38 = .ok (.ifCond .ne 5, 3) := by decide +kernel
theorem dX3_fetch_41 : decode cX3_fetch 41 = .ok (.iconst 0, 1) := by decide +kernel
theorem dX3_fetch_42 : decode cX3_fetch 42 = .ok (.ireturn, 1) := by decide +kernel
theorem dX3_fetch_43 : decode cX3_fetch 43 = .ok (.aload_n 0, 1) := by decide +kernel
theorem dX3_fetch_44 : decode cX3_fetch 44 = .ok (.getfield 29, 3) := by decide +kernel
theorem dX3_fetch_47 : decode cX3_fetch 47 = .ok (.iload_n 1, 1) := by decide +kernel
theorem dX3_fetch_48 : decode cX3_fetch 48 = .ok (.bipush 10, 2) := by decide +kernel
theorem dX3_fetch_50 : decode cX3_fetch 50 = .ok (.iastore, 1) := by decide +kernel
theorem dX3_fetch_51 : decode cX3_fetch 51 = .ok (.aload_n 0, 1) := by decide +kernel
theorem dX3_fetch_52 : decode cX3_fetch 52 = .ok (.dup, 1) := by decide +kernel
theorem dX3_fetch_53 : decode cX3_fetch 53 = .ok (.getfield 89, 3) := by decide +kernel
theorem dX3_fetch_56 : decode cX3_fetch 56 = .ok (.aload_n 0, 1) := by decide +kernel
theorem dX3_fetch_57 : decode cX3_fetch 57 = .ok (.getfield 35, 3) := by decide +kernel
theorem dX3_fetch_60 : decode cX3_fetch 60 = .ok (.iload_n 1, 1) := by decide +kernel
theorem dX3_fetch_61 : decode cX3_fetch 61 = .ok (.iaload, 1) := by decide +kernel
theorem dX3_fetch_62 : decode cX3_fetch 62 = .ok (.iadd, 1) := by decide +kernel
theorem dX3_fetch_63 : decode cX3_fetch 63 = .ok (.putfield 89, 3) := by decide +kernel
theorem dX3_fetch_66 : decode cX3_fetch 66 = .ok (.aload_n 0, 1) := by decide +kernel
theorem dX3_fetch_67 : decode cX3_fetch 67 = .ok (.iload_n 1, 1) := by decide +kernel
theorem dX3_fetch_68 : decode cX3_fetch 68 = .ok (.invokevirtual 92, 3) := by decide +kernel
theorem dX3_fetch_71 : decode cX3_fetch 71 = .ok (.aload_n 0, 1) := by decide +kernel
theorem dX3_fetch_72 : decode cX3_fetch 72 = .ok (.getfield 35, 3) := by decide +kernel
theorem dX3_fetch_75 : decode cX3_fetch 75 = .ok (.iload_n 1, 1) := by decide +kernel
theorem dX3_fetch_76 : decode cX3_fetch 76 = .ok (.iaload, 1) := by decide +kernel
theorem dX3_fetch_77 : decode cX3_fetch 77 = .ok (.ireturn, 1) := by decide +kernel
theorem dX3_want_0 : decode cX3_want 0 = .ok (.aload_n 0, 1) := by decide +kernel
theorem dX3_want_1 : decode cX3_want 1 = .ok (.iload_n 1, 1) := by decide +kernel
theorem dX3_want_2 : decode cX3_want 2 = .ok (.invokevirtual 83, 3) := by decide +kernel
theorem dX3_want_5 : decode cX3_want 5 = .ok (.ifCond .ne 7, 3) := by decide +kernel
theorem dX3_want_8 : decode cX3_want 8 = .ok (.iconst 1, 1) := by decide +kernel
theorem dX3_want_9 : decode cX3_want 9 = .ok (.goto 37, 3) := by decide +kernel
theorem dX3_want_12 : decode cX3_want 12 = .ok (.iload_n 2, 1) := by decide +kernel
theorem dX3_want_13 : decode cX3_want 13 = .ok (.invokestatic 66, 3) := by decide +kernel
theorem dX3_want_16 : decode cX3_want 16 = .ok (.ifCond .ne 7, 3) := by decide +kernel
theorem dX3_want_19 : decode cX3_want 19 = .ok (.iconst 2, 1) := by decide +kernel
theorem dX3_want_20 : decode cX3_want 20 = .ok (.goto 26, 3) := by decide +kernel
theorem dX3_want_23 : decode cX3_want 23 = .ok (.aload_n 0, 1) := by decide +kernel
theorem dX3_want_24 : decode cX3_want 24 = .ok (.iload_n 1, 1) := by decide +kernel
theorem dX3_want_25 : decode cX3_want 25 = .ok (.invokevirtual 86, 3) := by decide +kernel
theorem dX3_want_28 : decode cX3_want 28 = .ok (.ifCond .eq 13, 3) := by decide +kernel
theorem dX3_want_31 : decode cX3_want 31 = .ok (.aload_n 0, 1) := by decide +kernel
theorem dX3_want_32 : decode cX3_want 32 = .ok (.getfield 29, 3) := by decide +kernel
theorem dX3_want_35 : decode cX3_want 35 = .ok (.iload_n 1, 1) := by decide +kernel
theorem dX3_want_36 : decode cX3_want 36 = .ok (.iaload, 1) := by decide +kernel
theorem dX3_want_37 : decode cX3_want 37 = .ok (.iload_n 2, 1) := by decide +kernel
theorem dX3_want_38 : decode cX3_want 38 = .ok (.if_icmp .ne 7, 3) := by decide +kernel
theorem dX3_want_41 : decode cX3_want 41 = .ok (.iconst 3, 1) := by decide +kernel
theorem dX3_want_42 : decode cX3_want 42 = .ok (.goto 4, 3) := by decide +kernel
theorem dX3_want_45 : decode cX3_want 45 = .ok (.iconst 0, 1) := by decide +kernel
theorem dX3_want_46 : decode cX3_want 46 = .ok (.istore_n 3, 1) := by decide +kernel
theorem dX3_want_47 : decode cX3_want 47 = .ok (.aload_n 0, 1) := by decide +kernel
theorem dX3_want_48 : decode cX3_want 48 = .ok (.iload_n 3, 1) := by decide +kernel
theorem dX3_want_49 : decode cX3_want 49 = .ok (.invokevirtual 70, 3) := by decide +kernel
theorem dX3_want_52 : decode cX3_want 52 = .ok (.ifCond .ne 5, 3) := by decide +kernel
theorem dX3_want_55 : decode cX3_want 55 = .ok (.iconst 0, 1) := by decide +kernel
theorem dX3_want_56 : decode cX3_want 56 = .ok (.ireturn, 1) := by decide +kernel
theorem dX3_want_57 : decode cX3_want 57 = .ok (.aload_n 0, 1) := by decide +kernel
theorem dX3_want_58 : decode cX3_want 58 = .ok (.iload_n 1, 1) := by decide +kernel
theorem dX3_want_59 : decode cX3_want 59 = .ok (.invokevirtual 92, 3) := by decide +kernel
theorem dX3_want_62 : decode cX3_want 62 = .ok (.aload_n 0, 1) := by decide +kernel
theorem dX3_want_63 : decode cX3_want 63 = .ok (.getfield 47, 3) := by decide +kernel
theorem dX3_want_66 : decode cX3_want 66 = .ok (.iload_n 1, 1) := by decide +kernel
theorem dX3_want_67 : decode cX3_want 67 = .ok (.iload_n 2, 1) := by decide +kernel
theorem dX3_want_68 : decode cX3_want 68 = .ok (.iastore, 1) := by decide +kernel
theorem dX3_want_69 : decode cX3_want 69 = .ok (.aload_n 0, 1) := by decide +kernel
theorem dX3_want_70 : decode cX3_want 70 = .ok (.getfield 50, 3) := by decide +kernel
theorem dX3_want_73 : decode cX3_want 73 = .ok (.aload_n 0, 1) := by decide +kernel
theorem dX3_want_74 : decode cX3_want 74 = .ok (.getfield 80, 3) := by decide +kernel
theorem dX3_want_77 : decode cX3_want 77 = .ok (.iload_n 1, 1) := by decide +kernel
theorem dX3_want_78 : decode cX3_want 78 = .ok (.iastore, 1) := by decide +kernel
theorem dX3_want_79 : decode cX3_want 79 = .ok (.aload_n 0, 1) := by decide +kernel
theorem dX3_want_80 : decode cX3_want 80 = .ok (.dup, 1) := by decide +kernel
theorem dX3_want_81 : decode cX3_want 81 = .ok (.getfield 80, 3) := by decide +kernel
theorem dX3_want_84 : decode cX3_want 84 = .ok (.iconst 1, 1) := by decide +kernel
theorem dX3_want_85 : decode cX3_want 85 = .ok (.iadd, 1) := by decide +kernel
theorem dX3_want_86 : decode cX3_want 86 = .ok (.putfield 80, 3) := by decide +kernel
theorem dX3_want_89 : decode cX3_want 89 = .ok (.aload_n 0, 1) := by decide +kernel
theorem dX3_want_90 : decode cX3_want 90 = .ok (.getfield 80, 3) := by decide +kernel
theorem dX3_want_93 : decode cX3_want 93 = .ok (.ireturn, 1) := by decide +kernel
theorem dX3_value_0 : decode cX3_value 0 = .ok (.aload_n 0, 1) := by decide +kernel
theorem dX3_value_1 : decode cX3_value 1 = .ok (.aload_n 0, 1) := by decide +kernel
theorem dX3_value_2 : decode cX3_value 2 = .ok (.iload_n 1, 1) := by decide +kernel
theorem dX3_value_3 : decode cX3_value 3 = .ok (.invokevirtual 83, 3) := by decide +kernel
theorem dX3_value_6 : decode cX3_value 6 = .ok (.ifCond .ne 7, 3) := by decide +kernel
theorem dX3_value_9 : decode cX3_value 9 = .ok (.iconst 1, 1) := by decide +kernel
theorem dX3_value_10 : decode cX3_value 10 = .ok (.goto 31, 3) := by decide +kernel
theorem dX3_value_13 : decode cX3_value 13 = .ok (.iload_n 2, 1) := by decide +kernel
theorem dX3_value_14 : decode cX3_value 14 = .ok (.iconst 0, 1) := by decide +kernel
theorem dX3_value_15 : decode cX3_value 15 = .ok (.sipush 10000, 3) := by decide +kernel
theorem dX3_value_18 : decode cX3_value 18 = .ok (.invokestatic 59, 3) := by decide +kernel
theorem dX3_value_21 : decode cX3_value 21 = .ok (.ifCond .ne 7, 3) := by decide +kernel
theorem dX3_value_24 : decode cX3_value 24 = .ok (.iconst 2, 1) := by decide +kernel
theorem dX3_value_25 : decode cX3_value 25 = .ok (.goto 16, 3) := by decide +kernel
theorem dX3_value_28 : decode cX3_value 28 = .ok (.aload_n 0, 1) := by decide +kernel
theorem dX3_value_29 : decode cX3_value 29 = .ok (.iload_n 1, 1) := by decide +kernel
theorem dX3_value_30 : decode cX3_value 30 = .ok (.invokevirtual 86, 3) := by decide +kernel
theorem dX3_value_33 : decode cX3_value 33 = .ok (.ifCond .ne 7, 3) := by decide +kernel
theorem dX3_value_36 : decode cX3_value 36 = .ok (.iconst 3, 1) := by decide +kernel
theorem dX3_value_37 : decode cX3_value 37 = .ok (.goto 4, 3) := by decide +kernel
theorem dX3_value_40 : decode cX3_value 40 = .ok (.iconst 0, 1) := by decide +kernel
theorem dX3_value_41 : decode cX3_value 41 = .ok (.invokevirtual 70, 3) := by decide +kernel
theorem dX3_value_44 : decode cX3_value 44 = .ok (.ifCond .ne 5, 3) := by decide +kernel
theorem dX3_value_47 : decode cX3_value 47 = .ok (.iconst 0, 1) := by decide +kernel
theorem dX3_value_48 : decode cX3_value 48 = .ok (.ireturn, 1) := by decide +kernel
theorem dX3_value_49 : decode cX3_value 49 = .ok (.aload_n 0, 1) := by decide +kernel
theorem dX3_value_50 : decode cX3_value 50 = .ok (.getfield 26, 3) := by decide +kernel
theorem dX3_value_53 : decode cX3_value 53 = .ok (.iload_n 1, 1) := by decide +kernel
theorem dX3_value_54 : decode cX3_value 54 = .ok (.iaload, 1) := by decide +kernel
theorem dX3_value_55 : decode cX3_value 55 = .ok (.istore_n 3, 1) := by decide +kernel
theorem dX3_value_56 : decode cX3_value 56 = .ok (.aload_n 0, 1) := by decide +kernel
theorem dX3_value_57 : decode cX3_value 57 = .ok (.getfield 26, 3) := by decide +kernel
theorem dX3_value_60 : decode cX3_value 60 = .ok (.iload_n 1, 1) := by decide +kernel
theorem dX3_value_61 : decode cX3_value 61 = .ok (.iload_n 2, 1) := by decide +kernel
theorem dX3_value_62 : decode cX3_value 62 = .ok (.iastore, 1) := by decide +kernel
theorem dX3_value_63 : decode cX3_value 63 = .ok (.iload_n 3, 1) := by decide +kernel
theorem dX3_value_64 : decode cX3_value 64 = .ok (.ireturn, 1) := by decide +kernel
theorem dX3_lend_0 : decode cX3_lend 0 = .ok (.aload_n 0, 1) := by decide +kernel
theorem dX3_lend_1 : decode cX3_lend 1 = .ok (.iload_n 1, 1) := by decide +kernel
theorem dX3_lend_2 : decode cX3_lend 2 = .ok (.invokevirtual 83, 3) := by decide +kernel
theorem dX3_lend_5 : decode cX3_lend 5 = .ok (.ifCond .ne 7, 3) := by decide +kernel
theorem dX3_lend_8 : decode cX3_lend 8 = .ok (.iconst 1, 1) := by decide +kernel
theorem dX3_lend_9 : decode cX3_lend 9 = .ok (.goto 29, 3) := by decide +kernel
theorem dX3_lend_12 : decode cX3_lend 12 = .ok (.iload_n 2, 1) := by decide +kernel
theorem dX3_lend_13 : decode cX3_lend 13 = .ok (.iconst 0, 1) := by decide +kernel
theorem dX3_lend_14 : decode cX3_lend 14 = .ok (.bipush 7, 2) := by decide +kernel
theorem dX3_lend_16 : decode cX3_lend 16 = .ok (.invokestatic 59, 3) := by decide +kernel
theorem dX3_lend_19 : decode cX3_lend 19 = .ok (.ifCond .eq 14, 3) := by decide +kernel
theorem dX3_lend_22 : decode cX3_lend 22 = .ok (.iload_n 3, 1) := by decide +kernel
theorem dX3_lend_23 : decode cX3_lend 23 = .ok (.iconst 1, 1) := by decide +kernel
theorem dX3_lend_24 : decode cX3_lend 24 = .ok (.sipush 5000, 3) := by decide +kernel
theorem dX3_lend_27 : decode cX3_lend 27 = .ok (.invokestatic 59, 3) := by decide +kernel
theorem dX3_lend_30 : decode cX3_lend 30 = .ok (.ifCond .ne 7, 3) := by decide +kernel
theorem dX3_lend_33 : decode cX3_lend 33 = .ok (.iconst 2, 1) := by decide +kernel
theorem dX3_lend_34 : decode cX3_lend 34 = .ok (.goto 4, 3) := by decide +kernel
theorem dX3_lend_37 : decode cX3_lend 37 = .ok (.iconst 0, 1) := by decide +kernel
theorem dX3_lend_38 : decode cX3_lend 38 = .ok (.istore 4, 2) := by decide +kernel
theorem dX3_lend_40 : decode cX3_lend 40 = .ok (.iload 4, 2) := by decide +kernel
theorem dX3_lend_42 : decode cX3_lend 42 = .ok (.ifCond .ne 45, 3) := by decide +kernel
theorem dX3_lend_45 : decode cX3_lend 45 = .ok (.aload_n 0, 1) := by decide +kernel
theorem dX3_lend_46 : decode cX3_lend 46 = .ok (.iload_n 1, 1) := by decide +kernel
theorem dX3_lend_47 : decode cX3_lend 47 = .ok (.invokevirtual 86, 3) := by decide +kernel
theorem dX3_lend_50 : decode cX3_lend 50 = .ok (.ifCond .eq 34, 3) := by decide +kernel
theorem dX3_lend_53 : decode cX3_lend 53 = .ok (.aload_n 0, 1) := by decide +kernel
theorem dX3_lend_54 : decode cX3_lend 54 = .ok (.getfield 20, 3) := by decide +kernel
theorem dX3_lend_57 : decode cX3_lend 57 = .ok (.iload_n 1, 1) := by decide +kernel
theorem dX3_lend_58 : decode cX3_lend 58 = .ok (.iaload, 1) := by decide +kernel
theorem dX3_lend_59 : decode cX3_lend 59 = .ok (.iload_n 2, 1) := by decide +kernel
theorem dX3_lend_60 : decode cX3_lend 60 = .ok (.if_icmp .eq 24, 3) := by decide +kernel
theorem dX3_lend_63 : decode cX3_lend 63 = .ok (.aload_n 0, 1) := by decide +kernel
theorem dX3_lend_64 : decode cX3_lend 64 = .ok (.getfield 38, 3) := by decide +kernel
theorem dX3_lend_67 : decode cX3_lend 67 = .ok (.iload_n 1, 1) := by decide +kernel
theorem dX3_lend_68 : decode cX3_lend 68 = .ok (.iaload, 1) := by decide +kernel
theorem dX3_lend_69 : decode cX3_lend 69 = .ok (.ifCond .gt 15, 3) := by decide +kernel
theorem dX3_lend_72 : decode cX3_lend 72 = .ok (.iload_n 3, 1) := by decide +kernel
theorem dX3_lend_73 : decode cX3_lend 73 = .ok (.aload_n 0, 1) := by decide +kernel
theorem dX3_lend_74 : decode cX3_lend 74 = .ok (.getfield 26, 3) := by decide +kernel
theorem dX3_lend_77 : decode cX3_lend 77 = .ok (.iload_n 1, 1) := by decide +kernel
theorem dX3_lend_78 : decode cX3_lend 78 = .ok (.iaload, 1) := by decide +kernel
theorem dX3_lend_79 : decode cX3_lend 79 = .ok (.iconst 2, 1) := by decide +kernel
theorem dX3_lend_80 : decode cX3_lend 80 = .ok (.idiv, 1) := by decide +kernel
theorem dX3_lend_81 : decode cX3_lend 81 = .ok (.if_icmp .le 6, 3) := by decide +kernel
theorem dX3_lend_84 : decode cX3_lend 84 = .ok (.iconst 3, 1) := by decide +kernel
theorem dX3_lend_85 : decode cX3_lend 85 = .ok (.istore 4, 2) := by decide +kernel
theorem dX3_lend_87 : decode cX3_lend 87 = .ok (.aload_n 0, 1) := by decide +kernel
theorem dX3_lend_88 : decode cX3_lend 88 = .ok (.iload 4, 2) := by decide +kernel
theorem dX3_lend_90 : decode cX3_lend 90 = .ok (.invokevirtual 70, 3) := by decide +kernel
theorem dX3_lend_93 : decode cX3_lend 93 = .ok (.ifCond .eq 39, 3) := by decide +kernel
theorem dX3_lend_96 : decode cX3_lend 96 = .ok (.aload_n 0, 1) := by decide +kernel
theorem dX3_lend_97 : decode cX3_lend 97 = .ok (.getfield 38, 3) := by decide +kernel
theorem dX3_lend_100 : decode cX3_lend 100 = .ok (.iload_n 1, 1) := by decide +kernel
theorem dX3_lend_101 : decode cX3_lend 101 = .ok (.iload_n 3, 1) := by decide +kernel
theorem dX3_lend_102 : decode cX3_lend 102 = .ok (.iastore, 1) := by decide +kernel
theorem dX3_lend_103 : decode cX3_lend 103 = .ok (.aload_n 0, 1) := by decide +kernel
theorem dX3_lend_104 : decode cX3_lend 104 = .ok (.getfield 41, 3) := by decide +kernel
theorem dX3_lend_107 : decode cX3_lend 107 = .ok (.iload_n 1, 1) := by decide +kernel
theorem dX3_lend_108 : decode cX3_lend 108 = .ok (.iload_n 2, 1) := by decide +kernel
theorem dX3_lend_109 : decode cX3_lend 109 = .ok (.iastore, 1) := by decide +kernel
theorem dX3_lend_110 : decode cX3_lend 110 = .ok (.aload_n 0, 1) := by decide +kernel
theorem dX3_lend_111 : decode cX3_lend 111 = .ok (.getfield 44, 3) := by decide +kernel
theorem dX3_lend_114 : decode cX3_lend 114 = .ok (.iload_n 1, 1) := by decide +kernel
theorem dX3_lend_115 : decode cX3_lend 115 = .ok (.iconst (-1), 1) := by decide +kernel
theorem dX3_lend_116 : decode cX3_lend 116 = .ok (.iastore, 1) := by decide +kernel
theorem dX3_lend_117 : decode cX3_lend 117 = .ok (.aload_n 0, 1) := by decide +kernel
theorem dX3_lend_118 : decode cX3_lend 118 = .ok (.getfield 17, 3) := by decide +kernel
theorem dX3_lend_121 : decode cX3_lend 121 = .ok (.aload_n 0, 1) := by decide +kernel
theorem dX3_lend_122 : decode cX3_lend 122 = .ok (.getfield 20, 3) := by decide +kernel
theorem dX3_lend_125 : decode cX3_lend 125 = .ok (.iload_n 1, 1) := by decide +kernel
theorem dX3_lend_126 : decode cX3_lend 126 = .ok (.iaload, 1) := by decide +kernel
theorem dX3_lend_127 : decode cX3_lend 127 = .ok (.dup2, 1) := by decide +kernel
theorem dX3_lend_128 : decode cX3_lend 128 = .ok (.iaload, 1) := by decide +kernel
theorem dX3_lend_129 : decode cX3_lend 129 = .ok (.iload_n 3, 1) := by decide +kernel
theorem dX3_lend_130 : decode cX3_lend 130 = .ok (.iadd, 1) := by decide +kernel
theorem dX3_lend_131 : decode cX3_lend 131 = .ok (.iastore, 1) := by decide +kernel
theorem dX3_lend_132 : decode cX3_lend 132 = .ok (.return_, 1) := by decide +kernel
theorem dX3_repay_0 : decode cX3_repay 0 = .ok (.aload_n 0, 1) := by decide +kernel
theorem dX3_repay_1 : decode cX3_repay 1 = .ok (.aload_n 0, 1) := by decide +kernel
theorem dX3_repay_2 : decode cX3_repay 2 = .ok (.iload_n 1, 1) := by decide +kernel
theorem dX3_repay_3 : decode cX3_repay 3 = .ok (.invokevirtual 83, 3) := by decide +kernel
theorem dX3_repay_6 : decode cX3_repay 6 = .ok (.ifCond .ne 7, 3) := by decide +kernel
theorem dX3_repay_9 : decode cX3_repay 9 = .ok (.iconst 1, 1) := by decide +kernel
theorem dX3_repay_10 : decode cX3_repay 10 = .ok (.goto 17, 3) := by decide +kernel
theorem dX3_repay_13 : decode cX3_repay 13 = .ok (.aload_n 0, 1) := by decide +kernel
theorem dX3_repay_14 : decode cX3_repay 14 = .ok (.getfield 38, 3) := by decide +kernel
theorem dX3_repay_17 : decode cX3_repay 17 = .ok (.iload_n 1, 1) := by decide +kernel
theorem dX3_repay_18 : decode cX3_repay 18 = .ok (.iaload, 1) := by decide +kernel
theorem dX3_repay_19 : decode cX3_repay 19 = .ok (.ifCond .ne 7, 3) := by decide +kernel
theorem dX3_repay_22 : decode cX3_repay 22 = .ok (.iconst 2, 1) := by decide +kernel
theorem dX3_repay_23 : decode cX3_repay 23 = .ok (.goto 4, 3) := by decide +kernel
theorem dX3_repay_26 : decode cX3_repay 26 = .ok (.iconst 0, 1) := by decide +kernel
theorem dX3_repay_27 : decode cX3_repay 27 = .ok (.invokevirtual 70, 3) := by decide +kernel
theorem dX3_repay_30 : decode cX3_repay 30 = .ok (.ifCond .ne 5, 3) := by decide +kernel
theorem dX3_repay_33 : decode cX3_repay 33 = .ok (.iconst 0, 1) := by decide +kernel
theorem dX3_repay_34 : decode cX3_repay 34 = .ok (.ireturn, 1) := by decide +kernel
theorem dX3_repay_35 : decode cX3_repay 35 = .ok (.aload_n 0, 1) := by decide +kernel
theorem dX3_repay_36 : decode cX3_repay 36 = .ok (.getfield 38, 3) := by decide +kernel
theorem dX3_repay_39 : decode cX3_repay 39 = .ok (.iload_n 1, 1) := by decide +kernel
theorem dX3_repay_40 : decode cX3_repay 40 = .ok (.iaload, 1) := by decide +kernel
theorem dX3_repay_41 : decode cX3_repay 41 = .ok (.istore_n 2, 1) := by decide +kernel
theorem dX3_repay_42 : decode cX3_repay 42 = .ok (.aload_n 0, 1) := by decide +kernel
theorem dX3_repay_43 : decode cX3_repay 43 = .ok (.getfield 17, 3) := by decide +kernel
theorem dX3_repay_46 : decode cX3_repay 46 = .ok (.aload_n 0, 1) := by decide +kernel
theorem dX3_repay_47 : decode cX3_repay 47 = .ok (.getfield 41, 3) := by decide +kernel
theorem dX3_repay_50 : decode cX3_repay 50 = .ok (.iload_n 1, 1) := by decide +kernel
theorem dX3_repay_51 : decode cX3_repay 51 = .ok (.iaload, 1) := by decide +kernel
theorem dX3_repay_52 : decode cX3_repay 52 = .ok (.dup2, 1) := by decide +kernel
theorem dX3_repay_53 : decode cX3_repay 53 = .ok (.iaload, 1) := by decide +kernel
theorem dX3_repay_54 : decode cX3_repay 54 = .ok (.iload_n 2, 1) := by decide +kernel
theorem dX3_repay_55 : decode cX3_repay 55 = .ok (.iadd, 1) := by decide +kernel
theorem dX3_repay_56 : decode cX3_repay 56 = .ok (.iastore, 1) := by decide +kernel
theorem dX3_repay_57 : decode cX3_repay 57 = .ok (.aload_n 0, 1) := by decide +kernel
theorem dX3_repay_58 : decode cX3_repay 58 = .ok (.getfield 38, 3) := by decide +kernel
theorem dX3_repay_61 : decode cX3_repay 61 = .ok (.iload_n 1, 1) := by decide +kernel
theorem dX3_repay_62 : decode cX3_repay 62 = .ok (.iconst 0, 1) := by decide +kernel
theorem dX3_repay_63 : decode cX3_repay 63 = .ok (.iastore, 1) := by decide +kernel
theorem dX3_repay_64 : decode cX3_repay 64 = .ok (.aload_n 0, 1) := by decide +kernel
theorem dX3_repay_65 : decode cX3_repay 65 = .ok (.getfield 44, 3) := by decide +kernel
theorem dX3_repay_68 : decode cX3_repay 68 = .ok (.iload_n 1, 1) := by decide +kernel
theorem dX3_repay_69 : decode cX3_repay 69 = .ok (.iconst (-1), 1) := by decide +kernel
theorem dX3_repay_70 : decode cX3_repay 70 = .ok (.iastore, 1) := by decide +kernel
theorem dX3_repay_71 : decode cX3_repay 71 = .ok (.iload_n 2, 1) := by decide +kernel
theorem dX3_repay_72 : decode cX3_repay 72 = .ok (.ireturn, 1) := by decide +kernel
theorem dX3_doubt_0 : decode cX3_doubt 0 = .ok (.aload_n 0, 1) := by decide +kernel
theorem dX3_doubt_1 : decode cX3_doubt 1 = .ok (.aload_n 0, 1) := by decide +kernel
theorem dX3_doubt_2 : decode cX3_doubt 2 = .ok (.iload_n 1, 1) := by decide +kernel
theorem dX3_doubt_3 : decode cX3_doubt 3 = .ok (.invokevirtual 83, 3) := by decide +kernel
theorem dX3_doubt_6 : decode cX3_doubt 6 = .ok (.ifCond .ne 7, 3) := by decide +kernel
theorem dX3_doubt_9 : decode cX3_doubt 9 = .ok (.iconst 1, 1) := by decide +kernel
theorem dX3_doubt_10 : decode cX3_doubt 10 = .ok (.goto 27, 3) := by decide +kernel
theorem dX3_doubt_13 : decode cX3_doubt 13 = .ok (.aload_n 0, 1) := by decide +kernel
theorem dX3_doubt_14 : decode cX3_doubt 14 = .ok (.getfield 38, 3) := by decide +kernel
theorem dX3_doubt_17 : decode cX3_doubt 17 = .ok (.iload_n 1, 1) := by decide +kernel
theorem dX3_doubt_18 : decode cX3_doubt 18 = .ok (.iaload, 1) := by decide +kernel
theorem dX3_doubt_19 : decode cX3_doubt 19 = .ok (.ifCond .eq 13, 3) := by decide +kernel
theorem dX3_doubt_22 : decode cX3_doubt 22 = .ok (.aload_n 0, 1) := by decide +kernel
theorem dX3_doubt_23 : decode cX3_doubt 23 = .ok (.getfield 44, 3) := by decide +kernel
theorem dX3_doubt_26 : decode cX3_doubt 26 = .ok (.iload_n 1, 1) := by decide +kernel
theorem dX3_doubt_27 : decode cX3_doubt 27 = .ok (.iaload, 1) := by decide +kernel
theorem dX3_doubt_28 : decode cX3_doubt 28 = .ok (.iconst (-1), 1) := by decide +kernel
theorem dX3_doubt_29 : decode cX3_doubt 29 = .ok (.if_icmp .eq 7, 3) := by decide +kernel
theorem dX3_doubt_32 : decode cX3_doubt 32 = .ok (.iconst 2, 1) := by decide +kernel
theorem dX3_doubt_33 : decode cX3_doubt 33 = .ok (.goto 4, 3) := by decide +kernel
theorem dX3_doubt_36 : decode cX3_doubt 36 = .ok (.iconst 0, 1) := by decide +kernel
theorem dX3_doubt_37 : decode cX3_doubt 37 = .ok (.invokevirtual 70, 3) := by decide +kernel
theorem dX3_doubt_40 : decode cX3_doubt 40 = .ok (.ifCond .ne 5, 3) := by decide +kernel
theorem dX3_doubt_43 : decode cX3_doubt 43 = .ok (.iconst 0, 1) := by decide +kernel
theorem dX3_doubt_44 : decode cX3_doubt 44 = .ok (.ireturn, 1) := by decide +kernel
theorem dX3_doubt_45 : decode cX3_doubt 45 = .ok (.aload_n 0, 1) := by decide +kernel
theorem dX3_doubt_46 : decode cX3_doubt 46 = .ok (.getfield 44, 3) := by decide +kernel
theorem dX3_doubt_49 : decode cX3_doubt 49 = .ok (.iload_n 1, 1) := by decide +kernel
theorem dX3_doubt_50 : decode cX3_doubt 50 = .ok (.aload_n 0, 1) := by decide +kernel
theorem dX3_doubt_51 : decode cX3_doubt 51 = .ok (.getfield 77, 3) := by decide +kernel
theorem dX3_doubt_54 : decode cX3_doubt 54 = .ok (.iconst 3, 1) := by decide +kernel
theorem dX3_doubt_55 : decode cX3_doubt 55 = .ok (.iadd, 1) := by decide +kernel
theorem dX3_doubt_56 : decode cX3_doubt 56 = .ok (.iastore, 1) := by decide +kernel
theorem dX3_doubt_57 : decode cX3_doubt 57 = .ok (.aload_n 0, 1) := by decide +kernel
theorem dX3_doubt_58 : decode cX3_doubt 58 = .ok (.getfield 44, 3) := by decide +kernel
theorem dX3_doubt_61 : decode cX3_doubt 61 = .ok (.iload_n 1, 1) := by decide +kernel
theorem dX3_doubt_62 : decode cX3_doubt 62 = .ok (.iaload, 1) := by decide +kernel
theorem dX3_doubt_63 : decode cX3_doubt 63 = .ok (.ireturn, 1) := by decide +kernel
theorem dX3_sells_0 : decode cX3_sells 0 = .ok (.aload_n 0, 1) := by decide +kernel
theorem dX3_sells_1 : decode cX3_sells 1 = .ok (.getfield 26, 3) := by decide +kernel
theorem dX3_sells_4 : decode cX3_sells 4 = .ok (.iload_n 1, 1) := by decide +kernel
theorem dX3_sells_5 : decode cX3_sells 5 = .ok (.iaload, 1) := by decide +kernel
theorem dX3_sells_6 : decode cX3_sells 6 = .ok (.istore_n 2, 1) := by decide +kernel
theorem dX3_sells_7 : decode cX3_sells 7 = .ok (.aload_n 0, 1) := by decide +kernel
theorem dX3_sells_8 : decode cX3_sells 8 = .ok (.getfield 38, 3) := by decide +kernel
theorem dX3_sells_11 : decode cX3_sells 11 = .ok (.iload_n 1, 1) := by decide +kernel
theorem dX3_sells_12 : decode cX3_sells 12 = .ok (.iaload, 1) := by decide +kernel
theorem dX3_sells_13 : decode cX3_sells 13 = .ok (.iload_n 2, 1) := by decide +kernel
theorem dX3_sells_14 : decode cX3_sells 14 = .ok (.if_icmp .ge 12, 3) := by decide +kernel
theorem dX3_sells_17 : decode cX3_sells 17 = .ok (.aload_n 0, 1) := by decide +kernel
theorem dX3_sells_18 : decode cX3_sells 18 = .ok (.getfield 38, 3) := by decide +kernel
theorem dX3_sells_21 : decode cX3_sells 21 = .ok (.iload_n 1, 1) := by decide +kernel
theorem dX3_sells_22 : decode cX3_sells 22 = .ok (.iaload, 1) := by decide +kernel
theorem dX3_sells_23 : decode cX3_sells 23 = .ok (.goto 4, 3) := by decide +kernel
theorem dX3_sells_26 : decode cX3_sells 26 = .ok (.iload_n 2, 1) := by decide +kernel
theorem dX3_sells_27 : decode cX3_sells 27 = .ok (.istore_n 3, 1) := by decide +kernel
theorem dX3_sells_28 : decode cX3_sells 28 = .ok (.iload_n 3, 1) := by decide +kernel
theorem dX3_sells_29 : decode cX3_sells 29 = .ok (.ifCond .le 18, 3) := by decide +kernel
theorem dX3_sells_32 : decode cX3_sells 32 = .ok (.aload_n 0, 1) := by decide +kernel
theorem dX3_sells_33 : decode cX3_sells 33 = .ok (.getfield 17, 3) := by decide +kernel
theorem dX3_sells_36 : decode cX3_sells 36 = .ok (.aload_n 0, 1) := by decide +kernel
theorem dX3_sells_37 : decode cX3_sells 37 = .ok (.getfield 41, 3) := by decide +kernel
theorem dX3_sells_40 : decode cX3_sells 40 = .ok (.iload_n 1, 1) := by decide +kernel
theorem dX3_sells_41 : decode cX3_sells 41 = .ok (.iaload, 1) := by decide +kernel
theorem dX3_sells_42 : decode cX3_sells 42 = .ok (.dup2, 1) := by decide +kernel
theorem dX3_sells_43 : decode cX3_sells 43 = .ok (.iaload, 1) := by decide +kernel
theorem dX3_sells_44 : decode cX3_sells 44 = .ok (.iload_n 3, 1) := by decide +kernel
theorem dX3_sells_45 : decode cX3_sells 45 = .ok (.iadd, 1) := by decide +kernel
theorem dX3_sells_46 : decode cX3_sells 46 = .ok (.iastore, 1) := by decide +kernel
theorem dX3_sells_47 : decode cX3_sells 47 = .ok (.iload_n 2, 1) := by decide +kernel
theorem dX3_sells_48 : decode cX3_sells 48 = .ok (.iload_n 3, 1) := by decide +kernel
theorem dX3_sells_49 : decode cX3_sells 49 = .ok (.isub, 1) := by decide +kernel
theorem dX3_sells_50 : decode cX3_sells 50 = .ok (.istore_n 2, 1) := by decide +kernel
theorem dX3_sells_51 : decode cX3_sells 51 = .ok (.aload_n 0, 1) := by decide +kernel
theorem dX3_sells_52 : decode cX3_sells 52 = .ok (.getfield 35, 3) := by decide +kernel
theorem dX3_sells_55 : decode cX3_sells 55 = .ok (.iload_n 1, 1) := by decide +kernel
theorem dX3_sells_56 : decode cX3_sells 56 = .ok (.aload_n 0, 1) := by decide +kernel
theorem dX3_sells_57 : decode cX3_sells 57 = .ok (.getfield 35, 3) := by decide +kernel
theorem dX3_sells_60 : decode cX3_sells 60 = .ok (.iload_n 1, 1) := by decide +kernel
theorem dX3_sells_61 : decode cX3_sells 61 = .ok (.iaload, 1) := by decide +kernel
theorem dX3_sells_62 : decode cX3_sells 62 = .ok (.iload_n 2, 1) := by decide +kernel
theorem dX3_sells_63 : decode cX3_sells 63 = .ok (.if_icmp .ge 12, 3) := by decide +kernel
theorem dX3_sells_66 : decode cX3_sells 66 = .ok (.aload_n 0, 1) := by decide +kernel
theorem dX3_sells_67 : decode cX3_sells 67 = .ok (.getfield 35, 3) := by decide +kernel
theorem dX3_sells_70 : decode cX3_sells 70 = .ok (.iload_n 1, 1) := by decide +kernel
theorem dX3_sells_71 : decode cX3_sells 71 = .ok (.iaload, 1) := by decide +kernel
theorem dX3_sells_72 : decode cX3_sells 72 = .ok (.goto 4, 3) := by decide +kernel
theorem dX3_sells_75 : decode cX3_sells 75 = .ok (.iload_n 2, 1) := by decide +kernel
theorem dX3_sells_76 : decode cX3_sells 76 = .ok (.iastore, 1) := by decide +kernel
theorem dX3_sells_77 : decode cX3_sells 77 = .ok (.aload_n 0, 1) := by decide +kernel
theorem dX3_sells_78 : decode cX3_sells 78 = .ok (.dup, 1) := by decide +kernel
theorem dX3_sells_79 : decode cX3_sells 79 = .ok (.getfield 89, 3) := by decide +kernel
theorem dX3_sells_82 : decode cX3_sells 82 = .ok (.aload_n 0, 1) := by decide +kernel
theorem dX3_sells_83 : decode cX3_sells 83 = .ok (.getfield 35, 3) := by decide +kernel
theorem dX3_sells_86 : decode cX3_sells 86 = .ok (.iload_n 1, 1) := by decide +kernel
theorem dX3_sells_87 : decode cX3_sells 87 = .ok (.iaload, 1) := by decide +kernel
theorem dX3_sells_88 : decode cX3_sells 88 = .ok (.iadd, 1) := by decide +kernel
theorem dX3_sells_89 : decode cX3_sells 89 = .ok (.putfield 89, 3) := by decide +kernel
theorem dX3_sells_92 : decode cX3_sells 92 = .ok (.aload_n 0, 1) := by decide +kernel
theorem dX3_sells_93 : decode cX3_sells 93 = .ok (.getfield 17, 3) := by decide +kernel
theorem dX3_sells_96 : decode cX3_sells 96 = .ok (.aload_n 0, 1) := by decide +kernel
theorem dX3_sells_97 : decode cX3_sells 97 = .ok (.getfield 20, 3) := by decide +kernel
theorem dX3_sells_100 : decode cX3_sells 100 = .ok (.iload_n 1, 1) := by decide +kernel
theorem dX3_sells_101 : decode cX3_sells 101 = .ok (.iaload, 1) := by decide +kernel
theorem dX3_sells_102 : decode cX3_sells 102 = .ok (.dup2, 1) := by decide +kernel
theorem dX3_sells_103 : decode cX3_sells 103 = .ok (.iaload, 1) := by decide +kernel
theorem dX3_sells_104 : decode cX3_sells 104 = .ok (.iload_n 2, 1) := by decide +kernel
theorem dX3_sells_105 : decode cX3_sells 105 = .ok (.aload_n 0, 1) := by decide +kernel
theorem dX3_sells_106 : decode cX3_sells 106 = .ok (.getfield 35, 3) := by decide +kernel
theorem dX3_sells_109 : decode cX3_sells 109 = .ok (.iload_n 1, 1) := by decide +kernel
theorem dX3_sells_110 : decode cX3_sells 110 = .ok (.iaload, 1) := by decide +kernel
theorem dX3_sells_111 : decode cX3_sells 111 = .ok (.isub, 1) := by decide +kernel
theorem dX3_sells_112 : decode cX3_sells 112 = .ok (.iadd, 1) := by decide +kernel
theorem dX3_sells_113 : decode cX3_sells 113 = .ok (.iastore, 1) := by decide +kernel
theorem dX3_sells_114 : decode cX3_sells 114 = .ok (.aload_n 0, 1) := by decide +kernel
theorem dX3_sells_115 : decode cX3_sells 115 = .ok (.getfield 38, 3) := by decide +kernel
theorem dX3_sells_118 : decode cX3_sells 118 = .ok (.iload_n 1, 1) := by decide +kernel
theorem dX3_sells_119 : decode cX3_sells 119 = .ok (.iconst 0, 1) := by decide +kernel
theorem dX3_sells_120 : decode cX3_sells 120 = .ok (.iastore, 1) := by decide +kernel
theorem dX3_sells_121 : decode cX3_sells 121 = .ok (.aload_n 0, 1) := by decide +kernel
theorem dX3_sells_122 : decode cX3_sells 122 = .ok (.getfield 44, 3) := by decide +kernel
theorem dX3_sells_125 : decode cX3_sells 125 = .ok (.iload_n 1, 1) := by decide +kernel
theorem dX3_sells_126 : decode cX3_sells 126 = .ok (.iconst (-1), 1) := by decide +kernel
theorem dX3_sells_127 : decode cX3_sells 127 = .ok (.iastore, 1) := by decide +kernel
theorem dX3_sells_128 : decode cX3_sells 128 = .ok (.aload_n 0, 1) := by decide +kernel
theorem dX3_sells_129 : decode cX3_sells 129 = .ok (.getfield 29, 3) := by decide +kernel
theorem dX3_sells_132 : decode cX3_sells 132 = .ok (.iload_n 1, 1) := by decide +kernel
theorem dX3_sells_133 : decode cX3_sells 133 = .ok (.bipush 11, 2) := by decide +kernel
theorem dX3_sells_135 : decode cX3_sells 135 = .ok (.iastore, 1) := by decide +kernel
theorem dX3_sells_136 : decode cX3_sells 136 = .ok (.aload_n 0, 1) := by decide +kernel
theorem dX3_sells_137 : decode cX3_sells 137 = .ok (.iload_n 1, 1) := by decide +kernel
theorem dX3_sells_138 : decode cX3_sells 138 = .ok (.invokevirtual 92, 3) := by decide +kernel
theorem dX3_sells_141 : decode cX3_sells 141 = .ok (.return_, 1) := by decide +kernel
theorem dX3_drives_0 : decode cX3_drives 0 = .ok (.aload_n 0, 1) := by decide +kernel
theorem dX3_drives_1 : decode cX3_drives 1 = .ok (.getfield 13, 3) := by decide +kernel
theorem dX3_drives_4 : decode cX3_drives 4 = .ok (.istore_n 1, 1) := by decide +kernel
theorem dX3_drives_5 : decode cX3_drives 5 = .ok (.iconst 0, 1) := by decide +kernel
theorem dX3_drives_6 : decode cX3_drives 6 = .ok (.istore_n 2, 1) := by decide +kernel
theorem dX3_drives_7 : decode cX3_drives 7 = .ok (.iload_n 2, 1) := by decide +kernel
theorem dX3_drives_8 : decode cX3_drives 8 = .ok (.aload_n 0, 1) := by decide +kernel
theorem dX3_drives_9 : decode cX3_drives 9 = .ok (.getfield 80, 3) := by decide +kernel
theorem dX3_drives_12 : decode cX3_drives 12 = .ok (.if_icmp .ge 91, 3) := by decide +kernel
theorem dX3_drives_15 : decode cX3_drives 15 = .ok (.aload_n 0, 1) := by decide +kernel
theorem dX3_drives_16 : decode cX3_drives 16 = .ok (.getfield 50, 3) := by decide +kernel
theorem dX3_drives_19 : decode cX3_drives 19 = .ok (.iload_n 2, 1) := by decide +kernel
theorem dX3_drives_20 : decode cX3_drives 20 = .ok (.iaload, 1) := by decide +kernel
theorem dX3_drives_21 : decode cX3_drives 21 = .ok (.istore_n 3, 1) := by decide +kernel
theorem dX3_drives_22 : decode cX3_drives 22 = .ok (.aload_n 0, 1) := by decide +kernel
theorem dX3_drives_23 : decode cX3_drives 23 = .ok (.getfield 47, 3) := by decide +kernel
theorem dX3_drives_26 : decode cX3_drives 26 = .ok (.iload_n 3, 1) := by decide +kernel
theorem dX3_drives_27 : decode cX3_drives 27 = .ok (.iaload, 1) := by decide +kernel
theorem dX3_drives_28 : decode cX3_drives 28 = .ok (.istore 4, 2) := by decide +kernel
theorem dX3_drives_30 : decode cX3_drives 30 = .ok (.aload_n 0, 1) := by decide +kernel
theorem dX3_drives_31 : decode cX3_drives 31 = .ok (.getfield 38, 3) := by decide +kernel
theorem dX3_drives_34 : decode cX3_drives 34 = .ok (.iload_n 3, 1) := by decide +kernel
theorem dX3_drives_35 : decode cX3_drives 35 = .ok (.iaload, 1) := by decide +kernel
theorem dX3_drives_36 : decode cX3_drives 36 = .ok (.ifCond .ne 61, 3) := by decide +kernel
theorem dX3_drives_39 : decode cX3_drives 39 = .ok (.aload_n 0, 1) := by decide +kernel
theorem dX3_drives_40 : decode cX3_drives 40 = .ok (.getfield 23, 3) := by decide +kernel
theorem dX3_drives_43 : decode cX3_drives 43 = .ok (.iload_n 3, 1) := by decide +kernel
theorem dX3_drives_44 : decode cX3_drives 44 = .ok (.iaload, 1) := by decide +kernel
theorem dX3_drives_45 : decode cX3_drives 45 = .ok (.iload_n 1, 1) := by decide +kernel
theorem dX3_drives_46 : decode cX3_drives 46 = .ok (.if_icmp .gt 51, 3) := by decide +kernel
theorem dX3_drives_49 : decode cX3_drives 49 = .ok (.aload_n 0, 1) := by decide +kernel
theorem dX3_drives_50 : decode cX3_drives 50 = .ok (.iload 4, 2) := by decide +kernel
theorem dX3_drives_52 : decode cX3_drives 52 = .ok (.invokevirtual 73, 3) := by decide +kernel
theorem dX3_drives_55 : decode cX3_drives 55 = .ok (.aload_n 0, 1) := by decide +kernel
theorem dX3_drives_56 : decode cX3_drives 56 = .ok (.getfield 23, 3) := by decide +kernel
theorem dX3_drives_59 : decode cX3_drives 59 = .ok (.iload_n 3, 1) := by decide +kernel
theorem dX3_drives_60 : decode cX3_drives 60 = .ok (.iaload, 1) := by decide +kernel
theorem dX3_drives_61 : decode cX3_drives 61 = .ok (.iadd, 1) := by decide +kernel
theorem dX3_drives_62 : decode cX3_drives 62 = .ok (.aload_n 0, 1) := by decide +kernel
theorem dX3_drives_63 : decode cX3_drives 63 = .ok (.getfield 7, 3) := by decide +kernel
theorem dX3_drives_66 : decode cX3_drives 66 = .ok (.iload 4, 2) := by decide +kernel
theorem dX3_drives_68 : decode cX3_drives 68 = .ok (.iaload, 1) := by decide +kernel
theorem dX3_drives_69 : decode cX3_drives 69 = .ok (.if_icmp .gt 28, 3) := by decide +kernel
theorem dX3_drives_72 : decode cX3_drives 72 = .ok (.iload_n 1, 1) := by decide +kernel
theorem dX3_drives_73 : decode cX3_drives 73 = .ok (.aload_n 0, 1) := by decide +kernel
theorem dX3_drives_74 : decode cX3_drives 74 = .ok (.getfield 23, 3) := by decide +kernel
theorem dX3_drives_77 : decode cX3_drives 77 = .ok (.iload_n 3, 1) := by decide +kernel
theorem dX3_drives_78 : decode cX3_drives 78 = .ok (.iaload, 1) := by decide +kernel
theorem dX3_drives_79 : decode cX3_drives 79 = .ok (.isub, 1) := by decide +kernel
theorem dX3_drives_80 : decode cX3_drives 80 = .ok (.istore_n 1, 1) := by decide +kernel
theorem dX3_drives_81 : decode cX3_drives 81 = .ok (.aload_n 0, 1) := by decide +kernel
theorem dX3_drives_82 : decode cX3_drives 82 = .ok (.getfield 29, 3) := by decide +kernel
theorem dX3_drives_85 : decode cX3_drives 85 = .ok (.iload_n 3, 1) := by decide +kernel
theorem dX3_drives_86 : decode cX3_drives 86 = .ok (.iload 4, 2) := by decide +kernel
theorem dX3_drives_88 : decode cX3_drives 88 = .ok (.iastore, 1) := by decide +kernel
theorem dX3_drives_89 : decode cX3_drives 89 = .ok (.aload_n 0, 1) := by decide +kernel
theorem dX3_drives_90 : decode cX3_drives 90 = .ok (.iload_n 3, 1) := by decide +kernel
theorem dX3_drives_91 : decode cX3_drives 91 = .ok (.invokevirtual 92, 3) := by decide +kernel
theorem dX3_drives_94 : decode cX3_drives 94 = .ok (.goto 6, 3) := by decide +kernel
theorem dX3_drives_97 : decode cX3_drives 97 = .ok (.iinc 2 1, 3) := by decide +kernel
theorem dX3_drives_100 : decode cX3_drives 100 = .ok (.goto (-93), 3) := by decide +kernel
theorem dX3_drives_103 : decode cX3_drives 103 = .ok (.return_, 1) := by decide +kernel
theorem dX3_endsDay_0 : decode cX3_endsDay 0 = .ok (.iconst 0, 1) := by decide +kernel
theorem dX3_endsDay_1 : decode cX3_endsDay 1 = .ok (.istore_n 1, 1) := by decide +kernel
theorem dX3_endsDay_2 : decode cX3_endsDay 2 = .ok (.iconst 0, 1) := by decide +kernel
theorem dX3_endsDay_3 : decode cX3_endsDay 3 = .ok (.istore_n 2, 1) := by decide +kernel
theorem dX3_endsDay_4 : decode cX3_endsDay 4 = .ok (.iload_n 2, 1) := by decide +kernel
theorem dX3_endsDay_5 : decode cX3_endsDay 5 = .ok (.aload_n 0, 1) := by decide +kernel
theorem dX3_endsDay_6 : decode cX3_endsDay 6 = .ok (.getfield 63, 3) := by decide +kernel
theorem dX3_endsDay_9 : decode cX3_endsDay 9 = .ok (.if_icmp .ge 56, 3) := by decide +kernel
theorem dX3_endsDay_12 : decode cX3_endsDay 12 = .ok (.aload_n 0, 1) := by decide +kernel
theorem dX3_endsDay_13 : decode cX3_endsDay 13 = .ok (.getfield 35, 3) := by decide +kernel
theorem dX3_endsDay_16 : decode cX3_endsDay 16 = .ok (.iload_n 2, 1) := by decide +kernel
theorem dX3_endsDay_17 : decode cX3_endsDay 17 = .ok (.dup2, 1) := by decide +kernel
theorem dX3_endsDay_18 : decode cX3_endsDay 18 = .ok (.iaload, 1) := by decide +kernel
theorem dX3_endsDay_19 : decode cX3_endsDay 19 = .ok (.aload_n 0, 1) := by decide +kernel
theorem dX3_endsDay_20 : decode cX3_endsDay 20 = .ok (.iload_n 2, 1) := by decide +kernel
theorem dX3_endsDay_21 : decode cX3_endsDay 21 = .ok (.invokevirtual 86, 3) := by decide +kernel
theorem dX3_endsDay_24 : decode cX3_endsDay 24 = .ok (.ifCond .ne 7, 3) := by decide +kernel
theorem dX3_endsDay_27 : decode cX3_endsDay 27 = .ok (.iconst 0, 1) := by decide +kernel
theorem dX3_endsDay_28 : decode cX3_endsDay 28 = .ok (.goto 29, 3) := by decide +kernel
theorem dX3_endsDay_31 : decode cX3_endsDay 31 = .ok (.aload_n 0, 1) := by decide +kernel
theorem dX3_endsDay_32 : decode cX3_endsDay 32 = .ok (.getfield 38, 3) := by decide +kernel
theorem dX3_endsDay_35 : decode cX3_endsDay 35 = .ok (.iload_n 2, 1) := by decide +kernel
theorem dX3_endsDay_36 : decode cX3_endsDay 36 = .ok (.iaload, 1) := by decide +kernel
theorem dX3_endsDay_37 : decode cX3_endsDay 37 = .ok (.ifCond .le 12, 3) := by decide +kernel
theorem dX3_endsDay_40 : decode cX3_endsDay 40 = .ok (.aload_n 0, 1) := by decide +kernel
theorem dX3_endsDay_41 : decode cX3_endsDay 41 = .ok (.getfield 23, 3) := by decide +kernel
theorem dX3_endsDay_44 : decode cX3_endsDay 44 = .ok (.iload_n 2, 1) := by decide +kernel
theorem dX3_endsDay_45 : decode cX3_endsDay 45 = .ok (.iaload, 1) := by decide +kernel
theorem dX3_endsDay_46 : decode cX3_endsDay 46 = .ok (.goto 11, 3) := by decide +kernel
theorem dX3_endsDay_49 : decode cX3_endsDay 49 = .ok (.iconst 2, 1) := by decide +kernel
theorem dX3_endsDay_50 : decode cX3_endsDay 50 = .ok (.aload_n 0, 1) := by decide +kernel
theorem dX3_endsDay_51 : decode cX3_endsDay 51 = .ok (.getfield 23, 3) := by decide +kernel
theorem dX3_endsDay_54 : decode cX3_endsDay 54 = .ok (.iload_n 2, 1) := by decide +kernel
theorem dX3_endsDay_55 : decode cX3_endsDay 55 = .ok (.iaload, 1) := by decide +kernel
theorem dX3_endsDay_56 : decode cX3_endsDay 56 = .ok (.imul, 1) := by decide +kernel
theorem dX3_endsDay_57 : decode cX3_endsDay 57 = .ok (.iadd, 1) := by decide +kernel
theorem dX3_endsDay_58 : decode cX3_endsDay 58 = .ok (.iastore, 1) := by decide +kernel
theorem dX3_endsDay_59 : decode cX3_endsDay 59 = .ok (.iinc 2 1, 3) := by decide +kernel
theorem dX3_endsDay_62 : decode cX3_endsDay 62 = .ok (.goto (-58), 3) := by decide +kernel
theorem dX3_endsDay_65 : decode cX3_endsDay 65 = .ok (.iconst 0, 1) := by decide +kernel
theorem dX3_endsDay_66 : decode cX3_endsDay 66 = .ok (.istore_n 2, 1) := by decide +kernel
theorem dX3_endsDay_67 : decode cX3_endsDay 67 = .ok (.iload_n 2, 1) := by decide +kernel
theorem dX3_endsDay_68 : decode cX3_endsDay 68 = .ok (.aload_n 0, 1) := by decide +kernel
theorem dX3_endsDay_69 : decode cX3_endsDay 69 = .ok (.getfield 63, 3) := by decide +kernel
theorem dX3_endsDay_72 : decode cX3_endsDay 72 = .ok (.if_icmp .ge 47, 3) := by decide +kernel
theorem dX3_endsDay_75 : decode cX3_endsDay 75 = .ok (.aload_n 0, 1) := by decide +kernel
theorem dX3_endsDay_76 : decode cX3_endsDay 76 = .ok (.iload_n 2, 1) := by decide +kernel
theorem dX3_endsDay_77 : decode cX3_endsDay 77 = .ok (.invokevirtual 86, 3) := by decide +kernel
theorem dX3_endsDay_80 : decode cX3_endsDay 80 = .ok (.ifCond .eq 33, 3) := by decide +kernel
theorem dX3_endsDay_83 : decode cX3_endsDay 83 = .ok (.aload_n 0, 1) := by decide +kernel
theorem dX3_endsDay_84 : decode cX3_endsDay 84 = .ok (.getfield 38, 3) := by decide +kernel
theorem dX3_endsDay_87 : decode cX3_endsDay 87 = .ok (.iload_n 2, 1) := by decide +kernel
theorem dX3_endsDay_88 : decode cX3_endsDay 88 = .ok (.iaload, 1) := by decide +kernel
theorem dX3_endsDay_89 : decode cX3_endsDay 89 = .ok (.ifCond .le 24, 3) := by decide +kernel
theorem dX3_endsDay_92 : decode cX3_endsDay 92 = .ok (.aload_n 0, 1) := by decide +kernel
theorem dX3_endsDay_93 : decode cX3_endsDay 93 = .ok (.getfield 44, 3) := by decide +kernel
theorem dX3_endsDay_96 : decode cX3_endsDay 96 = .ok (.iload_n 2, 1) := by decide +kernel
theorem dX3_endsDay_97 : decode cX3_endsDay 97 = .ok (.iaload, 1) := by decide +kernel
theorem dX3_endsDay_98 : decode cX3_endsDay 98 = .ok (.aload_n 0, 1) := by decide +kernel
theorem dX3_endsDay_99 : decode cX3_endsDay 99 = .ok (.getfield 77, 3) := by decide +kernel
theorem dX3_endsDay_102 : decode cX3_endsDay 102 = .ok (.if_icmp .ne 11, 3) := by decide +kernel
theorem dX3_endsDay_105 : decode cX3_endsDay 105 = .ok (.aload_n 0, 1) := by decide +kernel
theorem dX3_endsDay_106 : decode cX3_endsDay 106 = .ok (.iload_n 2, 1) := by decide +kernel
theorem dX3_endsDay_107 : decode cX3_endsDay 107 = .ok (.invokevirtual 96, 3) := by decide +kernel
theorem dX3_endsDay_110 : decode cX3_endsDay 110 = .ok (.iinc 1 1, 3) := by decide +kernel
theorem dX3_endsDay_113 : decode cX3_endsDay 113 = .ok (.iinc 2 1, 3) := by decide +kernel
theorem dX3_endsDay_116 : decode cX3_endsDay 116 = .ok (.goto (-49), 3) := by decide +kernel
theorem dX3_endsDay_119 : decode cX3_endsDay 119 = .ok (.iconst 0, 1) := by decide +kernel
theorem dX3_endsDay_120 : decode cX3_endsDay 120 = .ok (.istore_n 2, 1) := by decide +kernel
theorem dX3_endsDay_121 : decode cX3_endsDay 121 = .ok (.iload_n 2, 1) := by decide +kernel
theorem dX3_endsDay_122 : decode cX3_endsDay 122 = .ok (.aload_n 0, 1) := by decide +kernel
theorem dX3_endsDay_123 : decode cX3_endsDay 123 = .ok (.getfield 63, 3) := by decide +kernel
theorem dX3_endsDay_126 : decode cX3_endsDay 126 = .ok (.if_icmp .ge 52, 3) := by decide +kernel
theorem dX3_endsDay_129 : decode cX3_endsDay 129 = .ok (.aload_n 0, 1) := by decide +kernel
theorem dX3_endsDay_130 : decode cX3_endsDay 130 = .ok (.iload_n 2, 1) := by decide +kernel
theorem dX3_endsDay_131 : decode cX3_endsDay 131 = .ok (.invokevirtual 86, 3) := by decide +kernel
theorem dX3_endsDay_134 : decode cX3_endsDay 134 = .ok (.ifCond .eq 38, 3) := by decide +kernel
theorem dX3_endsDay_137 : decode cX3_endsDay 137 = .ok (.aload_n 0, 1) := by decide +kernel
theorem dX3_endsDay_138 : decode cX3_endsDay 138 = .ok (.getfield 38, 3) := by decide +kernel
theorem dX3_endsDay_141 : decode cX3_endsDay 141 = .ok (.iload_n 2, 1) := by decide +kernel
theorem dX3_endsDay_142 : decode cX3_endsDay 142 = .ok (.iaload, 1) := by decide +kernel
theorem dX3_endsDay_143 : decode cX3_endsDay 143 = .ok (.ifCond .ne 29, 3) := by decide +kernel
theorem dX3_endsDay_146 : decode cX3_endsDay 146 = .ok (.aload_n 0, 1) := by decide +kernel
theorem dX3_endsDay_147 : decode cX3_endsDay 147 = .ok (.getfield 77, 3) := by decide +kernel
theorem dX3_endsDay_150 : decode cX3_endsDay 150 = .ok (.aload_n 0, 1) := by decide +kernel
theorem dX3_endsDay_151 : decode cX3_endsDay 151 = .ok (.getfield 32, 3) := by decide +kernel
theorem dX3_endsDay_154 : decode cX3_endsDay 154 = .ok (.iload_n 2, 1) := by decide +kernel
theorem dX3_endsDay_155 : decode cX3_endsDay 155 = .ok (.iaload, 1) := by decide +kernel
theorem dX3_endsDay_156 : decode cX3_endsDay 156 = .ok (.isub, 1) := by decide +kernel
theorem dX3_endsDay_157 : decode cX3_endsDay 157 = .ok (.iconst 1, 1) := by decide +kernel
theorem dX3_endsDay_158 : decode cX3_endsDay 158 = .ok (.iadd, 1) := by decide +kernel
theorem dX3_endsDay_159 : decode cX3_endsDay 159 = .ok (.bipush 30, 2) := by decide +kernel
theorem dX3_endsDay_161 : decode cX3_endsDay 161 = .ok (.if_icmp .lt 11, 3) := by decide +kernel
theorem dX3_endsDay_164 : decode cX3_endsDay 164 = .ok (.aload_n 0, 1) := by decide +kernel
theorem dX3_endsDay_165 : decode cX3_endsDay 165 = .ok (.iload_n 2, 1) := by decide +kernel
theorem dX3_endsDay_166 : decode cX3_endsDay 166 = .ok (.invokevirtual 96, 3) := by decide +kernel
theorem dX3_endsDay_169 : decode cX3_endsDay 169 = .ok (.iinc 1 1, 3) := by decide +kernel
theorem dX3_endsDay_172 : decode cX3_endsDay 172 = .ok (.iinc 2 1, 3) := by decide +kernel
theorem dX3_endsDay_175 : decode cX3_endsDay 175 = .ok (.goto (-54), 3) := by decide +kernel
theorem dX3_endsDay_178 : decode cX3_endsDay 178 = .ok (.aload_n 0, 1) := by decide +kernel
theorem dX3_endsDay_179 : decode cX3_endsDay 179 = .ok (.invokevirtual 99, 3) := by decide +kernel
theorem dX3_endsDay_182 : decode cX3_endsDay 182 = .ok (.aload_n 0, 1) := by decide +kernel
theorem dX3_endsDay_183 : decode cX3_endsDay 183 = .ok (.dup, 1) := by decide +kernel
theorem dX3_endsDay_184 : decode cX3_endsDay 184 = .ok (.getfield 77, 3) := by decide +kernel
theorem dX3_endsDay_187 : decode cX3_endsDay 187 = .ok (.iconst 1, 1) := by decide +kernel
theorem dX3_endsDay_188 : decode cX3_endsDay 188 = .ok (.iadd, 1) := by decide +kernel
theorem dX3_endsDay_189 : decode cX3_endsDay 189 = .ok (.putfield 77, 3) := by decide +kernel
theorem dX3_endsDay_192 : decode cX3_endsDay 192 = .ok (.iconst 0, 1) := by decide +kernel
theorem dX3_endsDay_193 : decode cX3_endsDay 193 = .ok (.istore_n 2, 1) := by decide +kernel
theorem dX3_endsDay_194 : decode cX3_endsDay 194 = .ok (.iload_n 2, 1) := by decide +kernel
theorem dX3_endsDay_195 : decode cX3_endsDay 195 = .ok (.aload_n 0, 1) := by decide +kernel
theorem dX3_endsDay_196 : decode cX3_endsDay 196 = .ok (.getfield 63, 3) := by decide +kernel
theorem dX3_endsDay_199 : decode cX3_endsDay 199 = .ok (.if_icmp .ge 29, 3) := by decide +kernel
theorem dX3_endsDay_202 : decode cX3_endsDay 202 = .ok (.aload_n 0, 1) := by decide +kernel
theorem dX3_endsDay_203 : decode cX3_endsDay 203 = .ok (.getfield 53, 3) := by decide +kernel
theorem dX3_endsDay_206 : decode cX3_endsDay 206 = .ok (.bipush 24, 2) := by decide +kernel
theorem dX3_endsDay_208 : decode cX3_endsDay 208 = .ok (.aload_n 0, 1) := by decide +kernel
theorem dX3_endsDay_209 : decode cX3_endsDay 209 = .ok (.getfield 77, 3) := by decide +kernel
theorem dX3_endsDay_212 : decode cX3_endsDay 212 = .ok (.imul, 1) := by decide +kernel
theorem dX3_endsDay_213 : decode cX3_endsDay 213 = .ok (.iload_n 2, 1) := by decide +kernel
theorem dX3_endsDay_214 : decode cX3_endsDay 214 = .ok (.iadd, 1) := by decide +kernel
theorem dX3_endsDay_215 : decode cX3_endsDay 215 = .ok (.aload_n 0, 1) := by decide +kernel
theorem dX3_endsDay_216 : decode cX3_endsDay 216 = .ok (.getfield 29, 3) := by decide +kernel
theorem dX3_endsDay_219 : decode cX3_endsDay 219 = .ok (.iload_n 2, 1) := by decide +kernel
theorem dX3_endsDay_220 : decode cX3_endsDay 220 = .ok (.iaload, 1) := by decide +kernel
theorem dX3_endsDay_221 : decode cX3_endsDay 221 = .ok (.iastore, 1) := by decide +kernel
theorem dX3_endsDay_222 : decode cX3_endsDay 222 = .ok (.iinc 2 1, 3) := by decide +kernel
theorem dX3_endsDay_225 : decode cX3_endsDay 225 = .ok (.goto (-31), 3) := by decide +kernel
theorem dX3_endsDay_228 : decode cX3_endsDay 228 = .ok (.iload_n 1, 1) := by decide +kernel
theorem dX3_endsDay_229 : decode cX3_endsDay 229 = .ok (.ireturn, 1) := by decide +kernel
theorem dX3_pass_0 : decode cX3_pass 0 = .ok (.aload_n 0, 1) := by decide +kernel
theorem dX3_pass_1 : decode cX3_pass 1 = .ok (.iload_n 1, 1) := by decide +kernel
theorem dX3_pass_2 : decode cX3_pass 2 = .ok (.iconst 1, 1) := by decide +kernel
theorem dX3_pass_3 : decode cX3_pass 3 = .ok (.bipush 40, 2) := by decide +kernel
theorem dX3_pass_5 : decode cX3_pass 5 = .ok (.invokestatic 59, 3) := by decide +kernel
theorem dX3_pass_8 : decode cX3_pass 8 = .ok (.ifCond .ne 7, 3) := by decide +kernel
theorem dX3_pass_11 : decode cX3_pass 11 = .ok (.iconst 1, 1) := by decide +kernel
theorem dX3_pass_12 : decode cX3_pass 12 = .ok (.goto 20, 3) := by decide +kernel
theorem dX3_pass_15 : decode cX3_pass 15 = .ok (.aload_n 0, 1) := by decide +kernel
theorem dX3_pass_16 : decode cX3_pass 16 = .ok (.getfield 77, 3) := by decide +kernel
theorem dX3_pass_19 : decode cX3_pass 19 = .ok (.iload_n 1, 1) := by decide +kernel
theorem dX3_pass_20 : decode cX3_pass 20 = .ok (.iadd, 1) := by decide +kernel
theorem dX3_pass_21 : decode cX3_pass 21 = .ok (.sipush 1000, 3) := by decide +kernel
theorem dX3_pass_24 : decode cX3_pass 24 = .ok (.if_icmp .le 7, 3) := by decide +kernel
theorem dX3_pass_27 : decode cX3_pass 27 = .ok (.iconst 2, 1) := by decide +kernel
theorem dX3_pass_28 : decode cX3_pass 28 = .ok (.goto 4, 3) := by decide +kernel
theorem dX3_pass_31 : decode cX3_pass 31 = .ok (.iconst 0, 1) := by decide +kernel
theorem dX3_pass_32 : decode cX3_pass 32 = .ok (.invokevirtual 70, 3) := by decide +kernel
theorem dX3_pass_35 : decode cX3_pass 35 = .ok (.ifCond .ne 5, 3) := by decide +kernel
theorem dX3_pass_38 : decode cX3_pass 38 = .ok (.iconst 0, 1) := by decide +kernel
theorem dX3_pass_39 : decode cX3_pass 39 = .ok (.ireturn, 1) := by decide +kernel
theorem dX3_pass_40 : decode cX3_pass 40 = .ok (.iconst 0, 1) := by decide +kernel
theorem dX3_pass_41 : decode cX3_pass 41 = .ok (.istore_n 2, 1) := by decide +kernel
theorem dX3_pass_42 : decode cX3_pass 42 = .ok (.iconst 0, 1) := by decide +kernel
theorem dX3_pass_43 : decode cX3_pass 43 = .ok (.istore_n 3, 1) := by decide +kernel
theorem dX3_pass_44 : decode cX3_pass 44 = .ok (.iload_n 3, 1) := by decide +kernel
theorem dX3_pass_45 : decode cX3_pass 45 = .ok (.iload_n 1, 1) := by decide +kernel
theorem dX3_pass_46 : decode cX3_pass 46 = .ok (.if_icmp .ge 16, 3) := by decide +kernel
theorem dX3_pass_49 : decode cX3_pass 49 = .ok (.iload_n 2, 1) := by decide +kernel
theorem dX3_pass_50 : decode cX3_pass 50 = .ok (.aload_n 0, 1) := by decide +kernel
theorem dX3_pass_51 : decode cX3_pass 51 = .ok (.invokevirtual 102, 3) := by decide +kernel
theorem dX3_pass_54 : decode cX3_pass 54 = .ok (.iadd, 1) := by decide +kernel
theorem dX3_pass_55 : decode cX3_pass 55 = .ok (.istore_n 2, 1) := by decide +kernel
theorem dX3_pass_56 : decode cX3_pass 56 = .ok (.iinc 3 1, 3) := by decide +kernel
theorem dX3_pass_59 : decode cX3_pass 59 = .ok (.goto (-15), 3) := by decide +kernel
theorem dX3_pass_62 : decode cX3_pass 62 = .ok (.iload_n 2, 1) := by decide +kernel
theorem dX3_pass_63 : decode cX3_pass 63 = .ok (.ireturn, 1) := by decide +kernel
theorem dX3_day_0 : decode cX3_day 0 = .ok (.aload_n 0, 1) := by decide +kernel
theorem dX3_day_1 : decode cX3_day 1 = .ok (.iconst 0, 1) := by decide +kernel
theorem dX3_day_2 : decode cX3_day 2 = .ok (.putfield 56, 3) := by decide +kernel
theorem dX3_day_5 : decode cX3_day 5 = .ok (.aload_n 0, 1) := by decide +kernel
theorem dX3_day_6 : decode cX3_day 6 = .ok (.getfield 77, 3) := by decide +kernel
theorem dX3_day_9 : decode cX3_day 9 = .ok (.ireturn, 1) := by decide +kernel
theorem dX3_things_0 : decode cX3_things 0 = .ok (.aload_n 0, 1) := by decide +kernel
theorem dX3_things_1 : decode cX3_things 1 = .ok (.iconst 0, 1) := by decide +kernel
theorem dX3_things_2 : decode cX3_things 2 = .ok (.putfield 56, 3) := by decide +kernel
theorem dX3_things_5 : decode cX3_things 5 = .ok (.aload_n 0, 1) := by decide +kernel
theorem dX3_things_6 : decode cX3_things 6 = .ok (.getfield 63, 3) := by decide +kernel
theorem dX3_things_9 : decode cX3_things 9 = .ok (.ireturn, 1) := by decide +kernel
theorem dX3_where_0 : decode cX3_where 0 = .ok (.aload_n 0, 1) := by decide +kernel
theorem dX3_where_1 : decode cX3_where 1 = .ok (.aload_n 0, 1) := by decide +kernel
theorem dX3_where_2 : decode cX3_where 2 = .ok (.iload_n 1, 1) := by decide +kernel
theorem dX3_where_3 : decode cX3_where 3 = .ok (.invokevirtual 83, 3) := by decide +kernel
theorem dX3_where_6 : decode cX3_where 6 = .ok (.ifCond .eq 7, 3) := by decide +kernel
theorem dX3_where_9 : decode cX3_where 9 = .ok (.iconst 0, 1) := by decide +kernel
theorem dX3_where_10 : decode cX3_where 10 = .ok (.goto 4, 3) := by decide +kernel
theorem dX3_where_13 : decode cX3_where 13 = .ok (.iconst 1, 1) := by decide +kernel
theorem dX3_where_14 : decode cX3_where 14 = .ok (.invokevirtual 70, 3) := by decide +kernel
theorem dX3_where_17 : decode cX3_where 17 = .ok (.ifCond .eq 12, 3) := by decide +kernel
theorem dX3_where_20 : decode cX3_where 20 = .ok (.aload_n 0, 1) := by decide +kernel
theorem dX3_where_21 : decode cX3_where 21 = .ok (.getfield 29, 3) := by decide +kernel
theorem dX3_where_24 : decode cX3_where 24 = .ok (.iload_n 1, 1) := by decide +kernel
theorem dX3_where_25 : decode cX3_where 25 = .ok (.iaload, 1) := by decide +kernel
theorem dX3_where_26 : decode cX3_where 26 = .ok (.goto 4, 3) := by decide +kernel
theorem dX3_where_29 : decode cX3_where 29 = .ok (.iconst 0, 1) := by decide +kernel
theorem dX3_where_30 : decode cX3_where 30 = .ok (.ireturn, 1) := by decide +kernel
theorem dX3_whereOn_0 : decode cX3_whereOn 0 = .ok (.aload_n 0, 1) := by decide +kernel
theorem dX3_whereOn_1 : decode cX3_whereOn 1 = .ok (.aload_n 0, 1) := by decide +kernel
theorem dX3_whereOn_2 : decode cX3_whereOn 2 = .ok (.iload_n 1, 1) := by decide +kernel
theorem dX3_whereOn_3 : decode cX3_whereOn 3 = .ok (.invokevirtual 83, 3) := by decide +kernel
theorem dX3_whereOn_6 : decode cX3_whereOn 6 = .ok (.ifCond .ne 7, 3) := by decide +kernel
theorem dX3_whereOn_9 : decode cX3_whereOn 9 = .ok (.iconst 1, 1) := by decide +kernel
theorem dX3_whereOn_10 : decode cX3_whereOn 10 = .ok (.goto 20, 3) := by decide +kernel
theorem dX3_whereOn_13 : decode cX3_whereOn 13 = .ok (.iload_n 2, 1) := by decide +kernel
theorem dX3_whereOn_14 : decode cX3_whereOn 14 = .ok (.iconst 0, 1) := by decide +kernel
theorem dX3_whereOn_15 : decode cX3_whereOn 15 = .ok (.aload_n 0, 1) := by decide +kernel
theorem dX3_whereOn_16 : decode cX3_whereOn 16 = .ok (.getfield 77, 3) := by decide +kernel
theorem dX3_whereOn_19 : decode cX3_whereOn 19 = .ok (.invokestatic 59, 3) := by decide +kernel
theorem dX3_whereOn_22 : decode cX3_whereOn 22 = .ok (.ifCond .ne 7, 3) := by decide +kernel
theorem dX3_whereOn_25 : decode cX3_whereOn 25 = .ok (.iconst 2, 1) := by decide +kernel
theorem dX3_whereOn_26 : decode cX3_whereOn 26 = .ok (.goto 4, 3) := by decide +kernel
theorem dX3_whereOn_29 : decode cX3_whereOn 29 = .ok (.iconst 0, 1) := by decide +kernel
theorem dX3_whereOn_30 : decode cX3_whereOn 30 = .ok (.invokevirtual 70, 3) := by decide +kernel
theorem dX3_whereOn_33 : decode cX3_whereOn 33 = .ok (.ifCond .ne 5, 3) := by decide +kernel
theorem dX3_whereOn_36 : decode cX3_whereOn 36 = .ok (.iconst 0, 1) := by decide +kernel
theorem dX3_whereOn_37 : decode cX3_whereOn 37 = .ok (.ireturn, 1) := by decide +kernel
theorem dX3_whereOn_38 : decode cX3_whereOn 38 = .ok (.iload_n 2, 1) := by decide +kernel
theorem dX3_whereOn_39 : decode cX3_whereOn 39 = .ok (.aload_n 0, 1) := by decide +kernel
theorem dX3_whereOn_40 : decode cX3_whereOn 40 = .ok (.getfield 77, 3) := by decide +kernel
theorem dX3_whereOn_43 : decode cX3_whereOn 43 = .ok (.if_icmp .ne 12, 3) := by decide +kernel
theorem dX3_whereOn_46 : decode cX3_whereOn 46 = .ok (.aload_n 0, 1) := by decide +kernel
theorem dX3_whereOn_47 : decode cX3_whereOn 47 = .ok (.getfield 29, 3) := by decide +kernel
theorem dX3_whereOn_50 : decode cX3_whereOn 50 = .ok (.iload_n 1, 1) := by decide +kernel
theorem dX3_whereOn_51 : decode cX3_whereOn 51 = .ok (.iaload, 1) := by decide +kernel
theorem dX3_whereOn_52 : decode cX3_whereOn 52 = .ok (.goto 14, 3) := by decide +kernel
theorem dX3_whereOn_55 : decode cX3_whereOn 55 = .ok (.aload_n 0, 1) := by decide +kernel
theorem dX3_whereOn_56 : decode cX3_whereOn 56 = .ok (.getfield 53, 3) := by decide +kernel
theorem dX3_whereOn_59 : decode cX3_whereOn 59 = .ok (.bipush 24, 2) := by decide +kernel
theorem dX3_whereOn_61 : decode cX3_whereOn 61 = .ok (.iload_n 2, 1) := by decide +kernel
theorem dX3_whereOn_62 : decode cX3_whereOn 62 = .ok (.imul, 1) := by decide +kernel
theorem dX3_whereOn_63 : decode cX3_whereOn 63 = .ok (.iload_n 1, 1) := by decide +kernel
theorem dX3_whereOn_64 : decode cX3_whereOn 64 = .ok (.iadd, 1) := by decide +kernel
theorem dX3_whereOn_65 : decode cX3_whereOn 65 = .ok (.iaload, 1) := by decide +kernel
theorem dX3_whereOn_66 : decode cX3_whereOn 66 = .ok (.ireturn, 1) := by decide +kernel
theorem dX3_load_0 : decode cX3_load 0 = .ok (.aload_n 0, 1) := by decide +kernel
theorem dX3_load_1 : decode cX3_load 1 = .ok (.iload_n 1, 1) := by decide +kernel
theorem dX3_load_2 : decode cX3_load 2 = .ok (.invokestatic 66, 3) := by decide +kernel
theorem dX3_load_5 : decode cX3_load 5 = .ok (.ifCond .eq 7, 3) := by decide +kernel
theorem dX3_load_8 : decode cX3_load 8 = .ok (.iconst 0, 1) := by decide +kernel
theorem dX3_load_9 : decode cX3_load 9 = .ok (.goto 4, 3) := by decide +kernel
theorem dX3_load_12 : decode cX3_load 12 = .ok (.iconst 1, 1) := by decide +kernel
theorem dX3_load_13 : decode cX3_load 13 = .ok (.invokevirtual 70, 3) := by decide +kernel
theorem dX3_load_16 : decode cX3_load 16 = .ok (.ifCond .eq 11, 3) := by decide +kernel
theorem dX3_load_19 : decode cX3_load 19 = .ok (.aload_n 0, 1) := by decide +kernel
theorem dX3_load_20 : decode cX3_load 20 = .ok (.iload_n 1, 1) := by decide +kernel
theorem dX3_load_21 : decode cX3_load 21 = .ok (.invokevirtual 73, 3) := by decide +kernel
theorem dX3_load_24 : decode cX3_load 24 = .ok (.goto 4, 3) := by decide +kernel
theorem dX3_load_27 : decode cX3_load 27 = .ok (.iconst 0, 1) := by decide +kernel
theorem dX3_load_28 : decode cX3_load 28 = .ok (.ireturn, 1) := by decide +kernel
theorem dX3_fees_0 : decode cX3_fees 0 = .ok (.aload_n 0, 1) := by decide +kernel
theorem dX3_fees_1 : decode cX3_fees 1 = .ok (.aload_n 0, 1) := by decide +kernel
theorem dX3_fees_2 : decode cX3_fees 2 = .ok (.iload_n 1, 1) := by decide +kernel
theorem dX3_fees_3 : decode cX3_fees 3 = .ok (.invokevirtual 83, 3) := by decide +kernel
theorem dX3_fees_6 : decode cX3_fees 6 = .ok (.ifCond .eq 7, 3) := by decide +kernel
theorem dX3_fees_9 : decode cX3_fees 9 = .ok (.iconst 0, 1) := by decide +kernel
theorem dX3_fees_10 : decode cX3_fees 10 = .ok (.goto 4, 3) := by decide +kernel
theorem dX3_fees_13 : decode cX3_fees 13 = .ok (.iconst 1, 1) := by decide +kernel
theorem dX3_fees_14 : decode cX3_fees 14 = .ok (.invokevirtual 70, 3) := by decide +kernel
theorem dX3_fees_17 : decode cX3_fees 17 = .ok (.ifCond .eq 12, 3) := by decide +kernel
theorem dX3_fees_20 : decode cX3_fees 20 = .ok (.aload_n 0, 1) := by decide +kernel
theorem dX3_fees_21 : decode cX3_fees 21 = .ok (.getfield 35, 3) := by decide +kernel
theorem dX3_fees_24 : decode cX3_fees 24 = .ok (.iload_n 1, 1) := by decide +kernel
theorem dX3_fees_25 : decode cX3_fees 25 = .ok (.iaload, 1) := by decide +kernel
theorem dX3_fees_26 : decode cX3_fees 26 = .ok (.goto 4, 3) := by decide +kernel
theorem dX3_fees_29 : decode cX3_fees 29 = .ok (.iconst 0, 1) := by decide +kernel
theorem dX3_fees_30 : decode cX3_fees 30 = .ok (.ireturn, 1) := by decide +kernel
theorem dX3_loan_0 : decode cX3_loan 0 = .ok (.aload_n 0, 1) := by decide +kernel
theorem dX3_loan_1 : decode cX3_loan 1 = .ok (.aload_n 0, 1) := by decide +kernel
theorem dX3_loan_2 : decode cX3_loan 2 = .ok (.iload_n 1, 1) := by decide +kernel
theorem dX3_loan_3 : decode cX3_loan 3 = .ok (.invokevirtual 83, 3) := by decide +kernel
theorem dX3_loan_6 : decode cX3_loan 6 = .ok (.ifCond .eq 7, 3) := by decide +kernel
theorem dX3_loan_9 : decode cX3_loan 9 = .ok (.iconst 0, 1) := by decide +kernel
theorem dX3_loan_10 : decode cX3_loan 10 = .ok (.goto 4, 3) := by decide +kernel
theorem dX3_loan_13 : decode cX3_loan 13 = .ok (.iconst 1, 1) := by decide +kernel
theorem dX3_loan_14 : decode cX3_loan 14 = .ok (.invokevirtual 70, 3) := by decide +kernel
theorem dX3_loan_17 : decode cX3_loan 17 = .ok (.ifCond .eq 12, 3) := by decide +kernel
theorem dX3_loan_20 : decode cX3_loan 20 = .ok (.aload_n 0, 1) := by decide +kernel
theorem dX3_loan_21 : decode cX3_loan 21 = .ok (.getfield 38, 3) := by decide +kernel
theorem dX3_loan_24 : decode cX3_loan 24 = .ok (.iload_n 1, 1) := by decide +kernel
theorem dX3_loan_25 : decode cX3_loan 25 = .ok (.iaload, 1) := by decide +kernel
theorem dX3_loan_26 : decode cX3_loan 26 = .ok (.goto 4, 3) := by decide +kernel
theorem dX3_loan_29 : decode cX3_loan 29 = .ok (.iconst 0, 1) := by decide +kernel
theorem dX3_loan_30 : decode cX3_loan 30 = .ok (.ireturn, 1) := by decide +kernel
theorem dX3_purse_0 : decode cX3_purse 0 = .ok (.aload_n 0, 1) := by decide +kernel
theorem dX3_purse_1 : decode cX3_purse 1 = .ok (.iload_n 1, 1) := by decide +kernel
theorem dX3_purse_2 : decode cX3_purse 2 = .ok (.iconst 0, 1) := by decide +kernel
theorem dX3_purse_3 : decode cX3_purse 3 = .ok (.bipush 7, 2) := by decide +kernel
theorem dX3_purse_5 : decode cX3_purse 5 = .ok (.invokestatic 59, 3) := by decide +kernel
theorem dX3_purse_8 : decode cX3_purse 8 = .ok (.ifCond .eq 7, 3) := by decide +kernel
theorem dX3_purse_11 : decode cX3_purse 11 = .ok (.iconst 0, 1) := by decide +kernel
theorem dX3_purse_12 : decode cX3_purse 12 = .ok (.goto 4, 3) := by decide +kernel
theorem dX3_purse_15 : decode cX3_purse 15 = .ok (.iconst 1, 1) := by decide +kernel
theorem dX3_purse_16 : decode cX3_purse 16 = .ok (.invokevirtual 70, 3) := by decide +kernel
theorem dX3_purse_19 : decode cX3_purse 19 = .ok (.ifCond .eq 12, 3) := by decide +kernel
theorem dX3_purse_22 : decode cX3_purse 22 = .ok (.aload_n 0, 1) := by decide +kernel
theorem dX3_purse_23 : decode cX3_purse 23 = .ok (.getfield 17, 3) := by decide +kernel
theorem dX3_purse_26 : decode cX3_purse 26 = .ok (.iload_n 1, 1) := by decide +kernel
theorem dX3_purse_27 : decode cX3_purse 27 = .ok (.iaload, 1) := by decide +kernel
theorem dX3_purse_28 : decode cX3_purse 28 = .ok (.goto 4, 3) := by decide +kernel
theorem dX3_purse_31 : decode cX3_purse 31 = .ok (.iconst 0, 1) := by decide +kernel
theorem dX3_purse_32 : decode cX3_purse 32 = .ok (.ireturn, 1) := by decide +kernel
theorem dX3_taken_0 : decode cX3_taken 0 = .ok (.aload_n 0, 1) := by decide +kernel
theorem dX3_taken_1 : decode cX3_taken 1 = .ok (.iconst 0, 1) := by decide +kernel
theorem dX3_taken_2 : decode cX3_taken 2 = .ok (.putfield 56, 3) := by decide +kernel
theorem dX3_taken_5 : decode cX3_taken 5 = .ok (.aload_n 0, 1) := by decide +kernel
theorem dX3_taken_6 : decode cX3_taken 6 = .ok (.getfield 89, 3) := by decide +kernel
theorem dX3_taken_9 : decode cX3_taken 9 = .ok (.ireturn, 1) := by decide +kernel
theorem dX3_wish_0 : decode cX3_wish 0 = .ok (.aload_n 0, 1) := by decide +kernel
theorem dX3_wish_1 : decode cX3_wish 1 = .ok (.iload_n 1, 1) := by decide +kernel
theorem dX3_wish_2 : decode cX3_wish 2 = .ok (.iconst 0, 1) := by decide +kernel
theorem dX3_wish_3 : decode cX3_wish 3 = .ok (.aload_n 0, 1) := by decide +kernel
theorem dX3_wish_4 : decode cX3_wish 4 = .ok (.getfield 80, 3) := by decide +kernel
theorem dX3_wish_7 : decode cX3_wish 7 = .ok (.iconst 1, 1) := by decide +kernel
theorem dX3_wish_8 : decode cX3_wish 8 = .ok (.isub, 1) := by decide +kernel
theorem dX3_wish_9 : decode cX3_wish 9 = .ok (.invokestatic 59, 3) := by decide +kernel
theorem dX3_wish_12 : decode cX3_wish 12 = .ok (.ifCond .eq 7, 3) := by decide +kernel
theorem dX3_wish_15 : decode cX3_wish 15 = .ok (.iconst 0, 1) := by decide +kernel
theorem dX3_wish_16 : decode cX3_wish 16 = .ok (.goto 4, 3) := by decide +kernel
theorem dX3_wish_19 : decode cX3_wish 19 = .ok (.iconst 1, 1) := by decide +kernel
theorem dX3_wish_20 : decode cX3_wish 20 = .ok (.invokevirtual 70, 3) := by decide +kernel
theorem dX3_wish_23 : decode cX3_wish 23 = .ok (.ifCond .eq 12, 3) := by decide +kernel
theorem dX3_wish_26 : decode cX3_wish 26 = .ok (.aload_n 0, 1) := by decide +kernel
theorem dX3_wish_27 : decode cX3_wish 27 = .ok (.getfield 50, 3) := by decide +kernel
theorem dX3_wish_30 : decode cX3_wish 30 = .ok (.iload_n 1, 1) := by decide +kernel
theorem dX3_wish_31 : decode cX3_wish 31 = .ok (.iaload, 1) := by decide +kernel
theorem dX3_wish_32 : decode cX3_wish 32 = .ok (.goto 4, 3) := by decide +kernel
theorem dX3_wish_35 : decode cX3_wish 35 = .ok (.iconst 0, 1) := by decide +kernel
theorem dX3_wish_36 : decode cX3_wish 36 = .ok (.ireturn, 1) := by decide +kernel
end
section
theorem dJ9_max_7cf53_0 : decode cJ9_max_7cf53 0 = .ok (.iload_n 0, 1) := by decide +kernel
theorem dJ9_max_7cf53_1 : decode cJ9_max_7cf53 1 = .ok (.iload_n 1, 1) := by decide +kernel
theorem dJ9_max_7cf53_2 : decode cJ9_max_7cf53 2 = .ok (.if_icmp .lt 7, 3) := by decide +kernel
theorem dJ9_max_7cf53_5 : decode cJ9_max_7cf53 5 = .ok (.iload_n 0, 1) := by decide +kernel
theorem dJ9_max_7cf53_6 : decode cJ9_max_7cf53 6 = .ok (.goto 4, 3) := by decide +kernel
theorem dJ9_max_7cf53_9 : decode cJ9_max_7cf53 9 = .ok (.iload_n 1, 1) := by decide +kernel
theorem dJ9_max_7cf53_10 : decode cJ9_max_7cf53 10 = .ok (.ireturn, 1) := by decide +kernel
theorem dJ9_min_7cf53_0 : decode cJ9_min_7cf53 0 = .ok (.iload_n 0, 1) := by decide +kernel
theorem dJ9_min_7cf53_1 : decode cJ9_min_7cf53 1 = .ok (.iload_n 1, 1) := by decide +kernel
theorem dJ9_min_7cf53_2 : decode cJ9_min_7cf53 2 = .ok (.if_icmp .gt 7, 3) := by decide +kernel
theorem dJ9_min_7cf53_5 : decode cJ9_min_7cf53 5 = .ok (.iload_n 0, 1) := by decide +kernel
theorem dJ9_min_7cf53_6 : decode cJ9_min_7cf53 6 = .ok (.goto 4, 3) := by decide +kernel
theorem dJ9_min_7cf53_9 : decode cJ9_min_7cf53 9 = .ok (.iload_n 1, 1) := by decide +kernel
theorem dJ9_min_7cf53_10 : decode cJ9_min_7cf53 10 = .ok (.ireturn, 1) := by decide +kernel
theorem dJxa1e45_init_da8c8_0 : decode cJxa1e45_init_da8c8 0 = .ok (.aload_n 0, 1) := by decide +kernel
theorem dJxa1e45_init_da8c8_1 : decode cJxa1e45_init_da8c8 1 = .ok (.invokespecial 1, 3) := by decide +kernel
theorem dJxa1e45_init_da8c8_4 : decode cJxa1e45_init_da8c8 4 = .ok (.return_, 1) := by decide +kernel
theorem dJxc12de_init_da8c8_0 : decode cJxc12de_init_da8c8 0 = .ok (.aload_n 0, 1) := by decide +kernel
theorem dJxc12de_init_da8c8_1 : decode cJxc12de_init_da8c8 1 = .ok (.invokespecial 1, 3) := by decide +kernel
theorem dJxc12de_init_da8c8_4 : decode cJxc12de_init_da8c8 4 = .ok (.aload_n 0, 1) := by decide +kernel
theorem dJxc12de_init_da8c8_5 : decode cJxc12de_init_da8c8 5 = .ok (.iconst 0, 1) := by decide +kernel
theorem dJxc12de_init_da8c8_6 : decode cJxc12de_init_da8c8 6 = .ok (.putfield 7, 3) := by decide +kernel
theorem dJxc12de_init_da8c8_9 : decode cJxc12de_init_da8c8 9 = .ok (.return_, 1) := by decide +kernel
theorem dJx4a65c_init_da8c8_0 : decode cJx4a65c_init_da8c8 0 = .ok (.aload_n 0, 1) := by decide +kernel
theorem dJx4a65c_init_da8c8_1 : decode cJx4a65c_init_da8c8 1 = .ok (.invokespecial 1, 3) := by decide +kernel
theorem dJx4a65c_init_da8c8_4 : decode cJx4a65c_init_da8c8 4 = .ok (.aload_n 0, 1) := by decide +kernel
theorem dJx4a65c_init_da8c8_5 : decode cJx4a65c_init_da8c8 5 = .ok (.getstatic 39, 3) := by decide +kernel
theorem dJx4a65c_init_da8c8_8 : decode cJx4a65c_init_da8c8 8 = .ok (.putfield 9, 3) := by decide +kernel
theorem dJx4a65c_init_da8c8_11 : decode cJx4a65c_init_da8c8 11 = .ok (.return_, 1) := by decide +kernel
theorem dJx4a65c_grow_92f84_0 : decode cJx4a65c_grow_92f84 0 = .ok (.aload_n 0, 1) := by decide +kernel
theorem dJx4a65c_grow_92f84_1 : decode cJx4a65c_grow_92f84 1 = .ok (.getfield 9, 3) := by decide +kernel
theorem dJx4a65c_grow_92f84_4 : decode cJx4a65c_grow_92f84 4 = .ok (.arraylength, 1) := by decide +kernel
theorem dJx4a65c_grow_92f84_5 : decode cJx4a65c_grow_92f84 5 = .ok (.istore_n 2, 1) := by decide +kernel
theorem dJx4a65c_grow_92f84_6 : decode cJx4a65c_grow_92f84 6 = .ok (.iload_n 2, 1) := by decide +kernel
theorem dJx4a65c_grow_92f84_7 : decode cJx4a65c_grow_92f84 7 = .ok (.ifCond .gt 13, 3) := by decide +kernel
theorem dJx4a65c_grow_92f84_10 : decode cJx4a65c_grow_92f84 10 = .ok (.aload_n 0, 1) := by decide +kernel
theorem dJx4a65c_grow_92f84_11 : decode cJx4a65c_grow_92f84 11 = .ok (.getfield 9, 3) := by decide +kernel
theorem dJx4a65c_grow_92f84_14 : decode cJx4a65c_grow_92f84 14 = .ok (.getstatic 39, 3) := by decide +kernel
theorem dJx4a65c_grow_92f84_17 : decode cJx4a65c_grow_92f84 17 = .ok (.if_acmp .eq 28, 3) := by decide +kernel
theorem dJx4a65c_grow_92f84_20 : decode cJx4a65c_grow_92f84 20 = .ok (.iload_n 2, 1) := by decide +kernel
theorem dJx4a65c_grow_92f84_21 : decode cJx4a65c_grow_92f84 21 = .ok (.iload_n 1, 1) := by decide +kernel
theorem dJx4a65c_grow_92f84_22 : decode cJx4a65c_grow_92f84 22 = .ok (.iload_n 2, 1) := by decide +kernel
theorem dJx4a65c_grow_92f84_23 : decode cJx4a65c_grow_92f84 23 = .ok (.isub, 1) := by decide +kernel
theorem dJx4a65c_grow_92f84_24 : decode cJx4a65c_grow_92f84 24 = .ok (.iload_n 2, 1) := by decide +kernel
theorem dJx4a65c_grow_92f84_25 : decode cJx4a65c_grow_92f84 25 = .ok (.iconst 1, 1) := by decide +kernel
theorem dJx4a65c_grow_92f84_26 : decode cJx4a65c_grow_92f84 26 = .ok (.ishr, 1) := by decide +kernel
theorem dJx4a65c_grow_92f84_27 : decode cJx4a65c_grow_92f84 27 = .ok (.invokestatic 73, 3) := by decide +kernel
theorem dJx4a65c_grow_92f84_30 : decode cJx4a65c_grow_92f84 30 = .ok (.istore_n 3, 1) := by decide +kernel
theorem dJx4a65c_grow_92f84_31 : decode cJx4a65c_grow_92f84 31 = .ok (.aload_n 0, 1) := by decide +kernel
theorem dJx4a65c_grow_92f84_32 : decode cJx4a65c_grow_92f84 32 = .ok (.aload_n 0, 1) := by decide +kernel
theorem dJx4a65c_grow_92f84_33 : decode cJx4a65c_grow_92f84 33 = .ok (.getfield 9, 3) := by decide +kernel
theorem dJx4a65c_grow_92f84_36 : decode cJx4a65c_grow_92f84 36 = .ok (.iload_n 3, 1) := by decide +kernel
theorem dJx4a65c_grow_92f84_37 : decode cJx4a65c_grow_92f84 37 = .ok (.invokestatic 66, 3) := by decide +kernel
theorem dJx4a65c_grow_92f84_40 : decode cJx4a65c_grow_92f84 40 = .ok (.dup_x1, 1) := by decide +kernel
theorem dJx4a65c_grow_92f84_41 : decode cJx4a65c_grow_92f84 41 = .ok (.putfield 9, 3) := by decide +kernel
theorem dJx4a65c_grow_92f84_44 : decode cJx4a65c_grow_92f84 44 = .ok (.areturn, 1) := by decide +kernel
theorem dJx4a65c_grow_92f84_45 : decode cJx4a65c_grow_92f84 45 = .ok (.aload_n 0, 1) := by decide +kernel
theorem dJx4a65c_grow_92f84_46 : decode cJx4a65c_grow_92f84 46 = .ok (.bipush 10, 2) := by decide +kernel
theorem dJx4a65c_grow_92f84_48 : decode cJx4a65c_grow_92f84 48 = .ok (.iload_n 1, 1) := by decide +kernel
theorem dJx4a65c_grow_92f84_49 : decode cJx4a65c_grow_92f84 49 = .ok (.invokestatic 79, 3) := by decide +kernel
theorem dJx4a65c_grow_92f84_52 : decode cJx4a65c_grow_92f84 52 = .ok (.anewarray 7, 3) := by decide +kernel
theorem dJx4a65c_grow_92f84_55 : decode cJx4a65c_grow_92f84 55 = .ok (.dup_x1, 1) := by decide +kernel
theorem dJx4a65c_grow_92f84_56 : decode cJx4a65c_grow_92f84 56 = .ok (.putfield 9, 3) := by decide +kernel
theorem dJx4a65c_grow_92f84_59 : decode cJx4a65c_grow_92f84 59 = .ok (.areturn, 1) := by decide +kernel
theorem dJx4a65c_grow_d5877_0 : decode cJx4a65c_grow_d5877 0 = .ok (.aload_n 0, 1) := by decide +kernel
theorem dJx4a65c_grow_d5877_1 : decode cJx4a65c_grow_d5877 1 = .ok (.aload_n 0, 1) := by decide +kernel
theorem dJx4a65c_grow_d5877_2 : decode cJx4a65c_grow_d5877 2 = .ok (.getfield 48, 3) := by decide +kernel
theorem dJx4a65c_grow_d5877_5 : decode cJx4a65c_grow_d5877 5 = .ok (.iconst 1, 1) := by decide +kernel
theorem dJx4a65c_grow_d5877_6 : decode cJx4a65c_grow_d5877 6 = .ok (.iadd, 1) := by decide +kernel
theorem dJx4a65c_grow_d5877_7 : decode cJx4a65c_grow_d5877 7 = .ok (.invokevirtual 69, 3) := by decide +kernel
theorem dJx4a65c_grow_d5877_10 : decode cJx4a65c_grow_d5877 10 = .ok (.areturn, 1) := by decide +kernel
theorem dJx4a65c_size_8abf5_0 : decode cJx4a65c_size_8abf5 0 = .ok (.aload_n 0, 1) := by decide +kernel
theorem dJx4a65c_size_8abf5_1 : decode cJx4a65c_size_8abf5 1 = .ok (.getfield 48, 3) := by decide +kernel
theorem dJx4a65c_size_8abf5_4 : decode cJx4a65c_size_8abf5 4 = .ok (.ireturn, 1) := by decide +kernel
theorem dJx4a65c_elementData_915e3_0 : decode cJx4a65c_elementData_915e3 0 = .ok (.aload_n 0, 1) := by decide +kernel
theorem dJx4a65c_elementData_915e3_1 : decode cJx4a65c_elementData_915e3 1 = .ok (.getfield 9, 3) := by decide +kernel
theorem dJx4a65c_elementData_915e3_4 : decode cJx4a65c_elementData_915e3 4 = .ok (.iload_n 1, 1) := by decide +kernel
theorem dJx4a65c_elementData_915e3_5 : decode cJx4a65c_elementData_915e3 5 = .ok (.aaload, 1) := by decide +kernel
theorem dJx4a65c_elementData_915e3_6 : decode cJx4a65c_elementData_915e3 6 = .ok (.areturn, 1) := by decide +kernel
theorem dJx4a65c_get_915e3_0 : decode cJx4a65c_get_915e3 0 = .ok (.iload_n 1, 1) := by decide +kernel
theorem dJx4a65c_get_915e3_1 : decode cJx4a65c_get_915e3 1 = .ok (.aload_n 0, 1) := by decide +kernel
theorem dJx4a65c_get_915e3_2 : decode cJx4a65c_get_915e3 2 = .ok (.getfield 48, 3) := by decide +kernel
theorem dJx4a65c_get_915e3_5 : decode cJx4a65c_get_915e3 5 = .ok (.invokestatic 118, 3) := by decide +kernel
theorem dJx4a65c_get_915e3_8 : decode cJx4a65c_get_915e3 8 = .ok (.pop, 1) := by decide +kernel
theorem dJx4a65c_get_915e3_9 : decode cJx4a65c_get_915e3 9 = .ok (.aload_n 0, 1) := by decide +kernel
theorem dJx4a65c_get_915e3_10 : decode cJx4a65c_get_915e3 10 = .ok (.iload_n 1, 1) := by decide +kernel
theorem dJx4a65c_get_915e3_11 : decode cJx4a65c_get_915e3 11 = .ok (.invokevirtual 123, 3) := by decide +kernel
theorem dJx4a65c_get_915e3_14 : decode cJx4a65c_get_915e3 14 = .ok (.areturn, 1) := by decide +kernel
theorem dJx4a65c_add_72be8_0 : decode cJx4a65c_add_72be8 0 = .ok (.iload_n 3, 1) := by decide +kernel
theorem dJx4a65c_add_72be8_1 : decode cJx4a65c_add_72be8 1 = .ok (.aload_n 2, 1) := by decide +kernel
theorem dJx4a65c_add_72be8_2 : decode cJx4a65c_add_72be8 2 = .ok (.arraylength, 1) := by decide +kernel
theorem dJx4a65c_add_72be8_3 : decode cJx4a65c_add_72be8 3 = .ok (.if_icmp .ne 8, 3) := by decide +kernel
theorem dJx4a65c_add_72be8_6 : decode cJx4a65c_add_72be8 6 = .ok (.aload_n 0, 1) := by decide +kernel
theorem dJx4a65c_add_72be8_7 : decode cJx4a65c_add_72be8 7 = .ok (.invokevirtual 129, 3) := by decide +kernel
theorem dJx4a65c_add_72be8_10 : decode cJx4a65c_add_72be8 10 = .ok (.astore_n 2, 1) := by decide +kernel
theorem dJx4a65c_add_72be8_11 : decode cJx4a65c_add_72be8 11 = .ok (.aload_n 2, 1) := by decide +kernel
theorem dJx4a65c_add_72be8_12 : decode cJx4a65c_add_72be8 12 = .ok (.iload_n 3, 1) := by decide +kernel
theorem dJx4a65c_add_72be8_13 : decode cJx4a65c_add_72be8 13 = .ok (.aload_n 1, 1) := by decide +kernel
theorem dJx4a65c_add_72be8_14 : decode cJx4a65c_add_72be8 14 = .ok (.aastore, 1) := by decide +kernel
theorem dJx4a65c_add_72be8_15 : decode cJx4a65c_add_72be8 15 = .ok (.aload_n 0, 1) := by decide +kernel
theorem dJx4a65c_add_72be8_16 : decode cJx4a65c_add_72be8 16 = .ok (.iload_n 3, 1) := by decide +kernel
theorem dJx4a65c_add_72be8_17 : decode cJx4a65c_add_72be8 17 = .ok (.iconst 1, 1) := by decide +kernel
theorem dJx4a65c_add_72be8_18 : decode cJx4a65c_add_72be8 18 = .ok (.iadd, 1) := by decide +kernel
theorem dJx4a65c_add_72be8_19 : decode cJx4a65c_add_72be8 19 = .ok (.putfield 48, 3) := by decide +kernel
theorem dJx4a65c_add_72be8_22 : decode cJx4a65c_add_72be8 22 = .ok (.return_, 1) := by decide +kernel
theorem dJx4a65c_add_9ea2d_0 : decode cJx4a65c_add_9ea2d 0 = .ok (.aload_n 0, 1) := by decide +kernel
theorem dJx4a65c_add_9ea2d_1 : decode cJx4a65c_add_9ea2d 1 = .ok (.dup, 1) := by decide +kernel
theorem dJx4a65c_add_9ea2d_2 : decode cJx4a65c_add_9ea2d 2 = .ok (.getfield 63, 3) := by decide +kernel
theorem dJx4a65c_add_9ea2d_5 : decode cJx4a65c_add_9ea2d 5 = .ok (.iconst 1, 1) := by decide +kernel
theorem dJx4a65c_add_9ea2d_6 : decode cJx4a65c_add_9ea2d 6 = .ok (.iadd, 1) := by decide +kernel
theorem dJx4a65c_add_9ea2d_7 : decode cJx4a65c_add_9ea2d 7 = .ok (.putfield 63, 3) := by decide +kernel
theorem dJx4a65c_add_9ea2d_10 : decode cJx4a65c_add_9ea2d 10 = .ok (.aload_n 0, 1) := by decide +kernel
theorem dJx4a65c_add_9ea2d_11 : decode cJx4a65c_add_9ea2d 11 = .ok (.aload_n 1, 1) := by decide +kernel
theorem dJx4a65c_add_9ea2d_12 : decode cJx4a65c_add_9ea2d 12 = .ok (.aload_n 0, 1) := by decide +kernel
theorem dJx4a65c_add_9ea2d_13 : decode cJx4a65c_add_9ea2d 13 = .ok (.getfield 9, 3) := by decide +kernel
theorem dJx4a65c_add_9ea2d_16 : decode cJx4a65c_add_9ea2d 16 = .ok (.aload_n 0, 1) := by decide +kernel
theorem dJx4a65c_add_9ea2d_17 : decode cJx4a65c_add_9ea2d 17 = .ok (.getfield 48, 3) := by decide +kernel
theorem dJx4a65c_add_9ea2d_20 : decode cJx4a65c_add_9ea2d 20 = .ok (.invokevirtual 131, 3) := by decide +kernel
theorem dJx4a65c_add_9ea2d_23 : decode cJx4a65c_add_9ea2d 23 = .ok (.iconst 1, 1) := by decide +kernel
theorem dJx4a65c_add_9ea2d_24 : decode cJx4a65c_add_9ea2d 24 = .ok (.ireturn, 1) := by decide +kernel
theorem dJx4a65c_remove_915e3_0 : decode cJx4a65c_remove_915e3 0 = .ok (.iload_n 1, 1) := by decide +kernel
theorem dJx4a65c_remove_915e3_1 : decode cJx4a65c_remove_915e3 1 = .ok (.aload_n 0, 1) := by decide +kernel
theorem dJx4a65c_remove_915e3_2 : decode cJx4a65c_remove_915e3 2 = .ok (.getfield 48, 3) := by decide +kernel
theorem dJx4a65c_remove_915e3_5 : decode cJx4a65c_remove_915e3 5 = .ok (.invokestatic 118, 3) := by decide +kernel
theorem dJx4a65c_remove_915e3_8 : decode cJx4a65c_remove_915e3 8 = .ok (.pop, 1) := by decide +kernel
theorem dJx4a65c_remove_915e3_9 : decode cJx4a65c_remove_915e3 9 = .ok (.aload_n 0, 1) := by decide +kernel
theorem dJx4a65c_remove_915e3_10 : decode cJx4a65c_remove_915e3 10 = .ok (.getfield 9, 3) := by decide +kernel
theorem dJx4a65c_remove_915e3_13 : decode cJx4a65c_remove_915e3 13 = .ok (.astore_n 2, 1) := by decide +kernel
theorem dJx4a65c_remove_915e3_14 : decode cJx4a65c_remove_915e3 14 = .ok (.aload_n 2, 1) := by decide +kernel
theorem dJx4a65c_remove_915e3_15 : decode cJx4a65c_remove_915e3 15 = .ok (.iload_n 1, 1) := by decide +kernel
theorem dJx4a65c_remove_915e3_16 : decode cJx4a65c_remove_915e3 16 = .ok (.aaload, 1) := by decide +kernel
theorem dJx4a65c_remove_915e3_17 : decode cJx4a65c_remove_915e3 17 = .ok (.astore_n 3, 1) := by decide +kernel
theorem dJx4a65c_remove_915e3_18 : decode cJx4a65c_remove_915e3 18 = .ok (.aload_n 0, 1) := by decide +kernel
theorem dJx4a65c_remove_915e3_19 : decode cJx4a65c_remove_915e3 19 = .ok (.aload_n 2, 1) := by decide +kernel
theorem dJx4a65c_remove_915e3_20 : decode cJx4a65c_remove_915e3 20 = .ok (.iload_n 1, 1) := by decide +kernel
theorem dJx4a65c_remove_915e3_21 : decode cJx4a65c_remove_915e3 21 = .ok (.invokevirtual 144, 3) := by decide +kernel
theorem dJx4a65c_remove_915e3_24 : decode cJx4a65c_remove_915e3 24 = .ok (.aload_n 3, 1) := by decide +kernel
theorem dJx4a65c_remove_915e3_25 : decode cJx4a65c_remove_915e3 25 = .ok (.areturn, 1) := by decide +kernel
theorem dJx4a65c_fastRemove_b59b0_0 : decode cJx4a65c_fastRemove_b59b0 0 = .ok (.aload_n 0, 1) := by decide +kernel
theorem dJx4a65c_fastRemove_b59b0_1 : decode cJx4a65c_fastRemove_b59b0 1 = .ok (.dup, 1) := by decide +kernel
theorem dJx4a65c_fastRemove_b59b0_2 : decode cJx4a65c_fastRemove_b59b0 2 = .ok (.getfield 63, 3) := by decide +kernel
theorem dJx4a65c_fastRemove_b59b0_5 : decode cJx4a65c_fastRemove_b59b0 5 = .ok (.iconst 1, 1) := by decide +kernel
theorem dJx4a65c_fastRemove_b59b0_6 : decode cJx4a65c_fastRemove_b59b0 6 = .ok (.iadd, 1) := by decide +kernel
theorem dJx4a65c_fastRemove_b59b0_7 : decode cJx4a65c_fastRemove_b59b0 7 = .ok (.putfield 63, 3) := by decide +kernel
theorem dJx4a65c_fastRemove_b59b0_10 : decode cJx4a65c_fastRemove_b59b0 10 = .ok (.aload_n 0, 1) := by decide +kernel
theorem dJx4a65c_fastRemove_b59b0_11 : decode cJx4a65c_fastRemove_b59b0 11 = .ok (.getfield 48, 3) := by decide +kernel
theorem dJx4a65c_fastRemove_b59b0_14 : decode cJx4a65c_fastRemove_b59b0 14 = .ok (.iconst 1, 1) := by decide +kernel
theorem dJx4a65c_fastRemove_b59b0_15 : decode cJx4a65c_fastRemove_b59b0 15 = .ok (.isub, 1) := by decide +kernel
theorem dJx4a65c_fastRemove_b59b0_16 : decode cJx4a65c_fastRemove_b59b0 16 = .ok (.dup, 1) := by decide +kernel
theorem dJx4a65c_fastRemove_b59b0_17 : decode cJx4a65c_fastRemove_b59b0 17 = .ok (.istore_n 3, 1) := by decide +kernel
theorem dJx4a65c_fastRemove_b59b0_18 : decode cJx4a65c_fastRemove_b59b0 18 = .ok (.iload_n 2, 1) := by decide +kernel
theorem dJx4a65c_fastRemove_b59b0_19 : decode cJx4a65c_fastRemove_b59b0 19 = .ok (.if_icmp .le 15, 3) := by decide +kernel
theorem dJx4a65c_fastRemove_b59b0_22 : decode cJx4a65c_fastRemove_b59b0 22 = .ok (.aload_n 1, 1) := by decide +kernel
theorem dJx4a65c_fastRemove_b59b0_23 : decode cJx4a65c_fastRemove_b59b0 23 = .ok (.iload_n 2, 1) := by decide +kernel
theorem dJx4a65c_fastRemove_b59b0_24 : decode cJx4a65c_fastRemove_b59b0 24 = .ok (.iconst 1, 1) := by decide +kernel
theorem dJx4a65c_fastRemove_b59b0_25 : decode cJx4a65c_fastRemove_b59b0 25 = .ok (.iadd, 1) := by decide +kernel
theorem dJx4a65c_fastRemove_b59b0_26 : decode cJx4a65c_fastRemove_b59b0 26 = .ok (.aload_n 1, 1) := by decide +kernel
theorem dJx4a65c_fastRemove_b59b0_27 : decode cJx4a65c_fastRemove_b59b0 27 = .ok (.iload_n 2, 1) := by decide +kernel
theorem dJx4a65c_fastRemove_b59b0_28 : decode cJx4a65c_fastRemove_b59b0 28 = .ok (.iload_n 3, 1) := by decide +kernel
theorem dJx4a65c_fastRemove_b59b0_29 : decode cJx4a65c_fastRemove_b59b0 29 = .ok (.iload_n 2, 1) := by decide +kernel
theorem dJx4a65c_fastRemove_b59b0_30 : decode cJx4a65c_fastRemove_b59b0 30 = .ok (.isub, 1) := by decide +kernel
theorem dJx4a65c_fastRemove_b59b0_31 : decode cJx4a65c_fastRemove_b59b0 31 = .ok (.invokestatic 112, 3) := by decide +kernel
theorem dJx4a65c_fastRemove_b59b0_34 : decode cJx4a65c_fastRemove_b59b0 34 = .ok (.aload_n 1, 1) := by decide +kernel
theorem dJx4a65c_fastRemove_b59b0_35 : decode cJx4a65c_fastRemove_b59b0 35 = .ok (.aload_n 0, 1) := by decide +kernel
theorem dJx4a65c_fastRemove_b59b0_36 : decode cJx4a65c_fastRemove_b59b0 36 = .ok (.iload_n 3, 1) := by decide +kernel
theorem dJx4a65c_fastRemove_b59b0_37 : decode cJx4a65c_fastRemove_b59b0 37 = .ok (.dup_x1, 1) := by decide +kernel
theorem dJx4a65c_fastRemove_b59b0_38 : decode cJx4a65c_fastRemove_b59b0 38 = .ok (.putfield 48, 3) := by decide +kernel
theorem dJx4a65c_fastRemove_b59b0_41 : decode cJx4a65c_fastRemove_b59b0 41 = .ok (.aconst_null, 1) := by decide +kernel
theorem dJx4a65c_fastRemove_b59b0_42 : decode cJx4a65c_fastRemove_b59b0 42 = .ok (.aastore, 1) := by decide +kernel
theorem dJx4a65c_fastRemove_b59b0_43 : decode cJx4a65c_fastRemove_b59b0 43 = .ok (.return_, 1) := by decide +kernel
theorem dJ7_fill_53178_0 : decode cJ7_fill_53178 0 = .ok (.iconst 0, 1) := by decide +kernel
theorem dJ7_fill_53178_1 : decode cJ7_fill_53178 1 = .ok (.istore_n 2, 1) := by decide +kernel
theorem dJ7_fill_53178_2 : decode cJ7_fill_53178 2 = .ok (.aload_n 0, 1) := by decide +kernel
theorem dJ7_fill_53178_3 : decode cJ7_fill_53178 3 = .ok (.arraylength, 1) := by decide +kernel
theorem dJ7_fill_53178_4 : decode cJ7_fill_53178 4 = .ok (.istore_n 3, 1) := by decide +kernel
theorem dJ7_fill_53178_5 : decode cJ7_fill_53178 5 = .ok (.iload_n 2, 1) := by decide +kernel
theorem dJ7_fill_53178_6 : decode cJ7_fill_53178 6 = .ok (.iload_n 3, 1) := by decide +kernel
theorem dJ7_fill_53178_7 : decode cJ7_fill_53178 7 = .ok (.if_icmp .ge 13, 3) := by decide +kernel
theorem dJ7_fill_53178_10 : decode cJ7_fill_53178 10 = .ok (.aload_n 0, 1) := by decide +kernel
theorem dJ7_fill_53178_11 : decode cJ7_fill_53178 11 = .ok (.iload_n 2, 1) := by decide +kernel
theorem dJ7_fill_53178_12 : decode cJ7_fill_53178 12 = .ok (.iload_n 1, 1) := by decide +kernel
theorem dJ7_fill_53178_13 : decode cJ7_fill_53178 13 = .ok (.iastore, 1) := by decide +kernel
theorem dJ7_fill_53178_14 : decode cJ7_fill_53178 14 = .ok (.iinc 2 1, 3) := by decide +kernel
theorem dJ7_fill_53178_17 : decode cJ7_fill_53178 17 = .ok (.goto (-12), 3) := by decide +kernel
theorem dJ7_fill_53178_20 : decode cJ7_fill_53178 20 = .ok (.return_, 1) := by decide +kernel
theorem dJ7_copyOf_1904c_0 : decode cJ7_copyOf_1904c 0 = .ok (.aload_n 0, 1) := by decide +kernel
theorem dJ7_copyOf_1904c_1 : decode cJ7_copyOf_1904c 1 = .ok (.iload_n 1, 1) := by decide +kernel
theorem dJ7_copyOf_1904c_2 : decode cJ7_copyOf_1904c 2 = .ok (.aload_n 0, 1) := by decide +kernel
theorem dJ7_copyOf_1904c_3 : decode cJ7_copyOf_1904c 3 = .ok (.invokevirtual 86, 3) := by decide +kernel
theorem dJ7_copyOf_1904c_6 : decode cJ7_copyOf_1904c 6 = .ok (.invokestatic 300, 3) := by decide +kernel
theorem dJ7_copyOf_1904c_9 : decode cJ7_copyOf_1904c 9 = .ok (.areturn, 1) := by decide +kernel
theorem dJ7_copyOf_6403c_0 : decode cJ7_copyOf_6403c 0 = .ok (.aload_n 2, 1) := by decide +kernel
theorem dJ7_copyOf_6403c_1 : decode cJ7_copyOf_6403c 1 = .ok (.ldc 110, 2) := by decide +kernel
theorem dJ7_copyOf_6403c_3 : decode cJ7_copyOf_6403c 3 = .ok (.if_acmp .ne 10, 3) := by decide +kernel
theorem dJ7_copyOf_6403c_6 : decode cJ7_copyOf_6403c 6 = .ok (.iload_n 1, 1) := by decide +kernel
theorem dJ7_copyOf_6403c_7 : decode cJ7_copyOf_6403c 7 = .ok (.anewarray 2, 3) := by decide +kernel
theorem dJ7_copyOf_6403c_10 : decode cJ7_copyOf_6403c 10 = .ok (.goto 14, 3) := by decide +kernel
theorem dJ7_copyOf_6403c_13 : decode cJ7_copyOf_6403c 13 = .ok (.aload_n 2, 1) := by decide +kernel
theorem dJ7_copyOf_6403c_14 : decode cJ7_copyOf_6403c 14 = .ok (.invokevirtual 90, 3) := by decide +kernel
theorem dJ7_copyOf_6403c_17 : decode cJ7_copyOf_6403c 17 = .ok (.iload_n 1, 1) := by decide +kernel
theorem dJ7_copyOf_6403c_18 : decode cJ7_copyOf_6403c 18 = .ok (.invokestatic 95, 3) := by decide +kernel
theorem dJ7_copyOf_6403c_21 : decode cJ7_copyOf_6403c 21 = .ok (.checkcast 110, 3) := by decide +kernel
theorem dJ7_copyOf_6403c_24 : decode cJ7_copyOf_6403c 24 = .ok (.astore_n 3, 1) := by decide +kernel
theorem dJ7_copyOf_6403c_25 : decode cJ7_copyOf_6403c 25 = .ok (.aload_n 0, 1) := by decide +kernel
theorem dJ7_copyOf_6403c_26 : decode cJ7_copyOf_6403c 26 = .ok (.iconst 0, 1) := by decide +kernel
theorem dJ7_copyOf_6403c_27 : decode cJ7_copyOf_6403c 27 = .ok (.aload_n 3, 1) := by decide +kernel
theorem dJ7_copyOf_6403c_28 : decode cJ7_copyOf_6403c 28 = .ok (.iconst 0, 1) := by decide +kernel
theorem dJ7_copyOf_6403c_29 : decode cJ7_copyOf_6403c 29 = .ok (.aload_n 0, 1) := by decide +kernel
theorem dJ7_copyOf_6403c_30 : decode cJ7_copyOf_6403c 30 = .ok (.arraylength, 1) := by decide +kernel
theorem dJ7_copyOf_6403c_31 : decode cJ7_copyOf_6403c 31 = .ok (.iload_n 1, 1) := by decide +kernel
theorem dJ7_copyOf_6403c_32 : decode cJ7_copyOf_6403c 32 = .ok (.invokestatic 304, 3) := by decide +kernel
theorem dJ7_copyOf_6403c_35 : decode cJ7_copyOf_6403c 35 = .ok (.invokestatic 150, 3) := by decide +kernel
theorem dJ7_copyOf_6403c_38 : decode cJ7_copyOf_6403c 38 = .ok (.aload_n 3, 1) := by decide +kernel
theorem dJ7_copyOf_6403c_39 : decode cJ7_copyOf_6403c 39 = .ok (.areturn, 1) := by decide +kernel
theorem dJ15_checkIndex_7cf53_0 : decode cJ15_checkIndex_7cf53 0 = .ok (.iload_n 0, 1) := by decide +kernel
theorem dJ15_checkIndex_7cf53_1 : decode cJ15_checkIndex_7cf53 1 = .ok (.iload_n 1, 1) := by decide +kernel
theorem dJ15_checkIndex_7cf53_2 : decode cJ15_checkIndex_7cf53 2 = .ok (.aconst_null, 1) := by decide +kernel
theorem dJ15_checkIndex_7cf53_3 : decode cJ15_checkIndex_7cf53 3 = .ok (.invokestatic 105, 3) := by decide +kernel
theorem dJ15_checkIndex_7cf53_6 : decode cJ15_checkIndex_7cf53 6 = .ok (.ireturn, 1) := by decide +kernel
theorem dJ8_newLength_cabcc_0 : decode cJ8_newLength_cabcc 0 = .ok (.iload_n 0, 1) := by decide +kernel
theorem dJ8_newLength_cabcc_1 : decode cJ8_newLength_cabcc 1 = .ok (.iload_n 1, 1) := by decide +kernel
theorem dJ8_newLength_cabcc_2 : decode cJ8_newLength_cabcc 2 = .ok (.iload_n 2, 1) := by decide +kernel
theorem dJ8_newLength_cabcc_3 : decode cJ8_newLength_cabcc 3 = .ok (.invokestatic 194, 3) := by decide +kernel
theorem dJ8_newLength_cabcc_6 : decode cJ8_newLength_cabcc 6 = .ok (.iadd, 1) := by decide +kernel
theorem dJ8_newLength_cabcc_7 : decode cJ8_newLength_cabcc 7 = .ok (.istore_n 3, 1) := by decide +kernel
theorem dJ8_newLength_cabcc_8 : decode cJ8_newLength_cabcc 8 = .ok (.iconst 0, 1) := by decide +kernel
theorem dJ8_newLength_cabcc_9 : decode cJ8_newLength_cabcc 9 = .ok (.iload_n 3, 1) := by decide +kernel
theorem dJ8_newLength_cabcc_10 : decode cJ8_newLength_cabcc 10 = .ok (.if_icmp .ge 11, 3) := by decide +kernel
theorem dJ8_newLength_cabcc_13 : decode cJ8_newLength_cabcc 13 = .ok (.iload_n 3, 1) := by decide +kernel
theorem dJ8_newLength_cabcc_14 : decode cJ8_newLength_cabcc 14 = .ok (.ldc 200, 2) := by decide +kernel
theorem dJ8_newLength_cabcc_16 : decode cJ8_newLength_cabcc 16 = .ok (.if_icmp .gt 5, 3) := by decide +kernel
theorem dJ8_newLength_cabcc_19 : decode cJ8_newLength_cabcc 19 = .ok (.iload_n 3, 1) := by decide +kernel
theorem dJ8_newLength_cabcc_20 : decode cJ8_newLength_cabcc 20 = .ok (.ireturn, 1) := by decide +kernel
theorem dJ8_newLength_cabcc_21 : decode cJ8_newLength_cabcc 21 = .ok (.iload_n 0, 1) := by decide +kernel
theorem dJ8_newLength_cabcc_22 : decode cJ8_newLength_cabcc 22 = .ok (.iload_n 1, 1) := by decide +kernel
theorem dJ8_newLength_cabcc_23 : decode cJ8_newLength_cabcc 23 = .ok (.invokestatic 201, 3) := by decide +kernel
theorem dJ8_newLength_cabcc_26 : decode cJ8_newLength_cabcc 26 = .ok (.ireturn, 1) := by decide +kernel
theorem dJ8_hugeLength_7cf53_0 : decode cJ8_hugeLength_7cf53 0 = .ok (.iload_n 0, 1) := by decide +kernel
theorem dJ8_hugeLength_7cf53_1 : decode cJ8_hugeLength_7cf53 1 = .ok (.iload_n 1, 1) := by decide +kernel
theorem dJ8_hugeLength_7cf53_2 : decode cJ8_hugeLength_7cf53 2 = .ok (.iadd, 1) := by decide +kernel
theorem dJ8_hugeLength_7cf53_3 : decode cJ8_hugeLength_7cf53 3 = .ok (.istore_n 2, 1) := by decide +kernel
theorem dJ8_hugeLength_7cf53_4 : decode cJ8_hugeLength_7cf53 4 = .ok (.iload_n 2, 1) := by decide +kernel
theorem dJ8_hugeLength_7cf53_5 : decode cJ8_hugeLength_7cf53 5 = .ok (.ifCond .ge 44, 3) := by decide +kernel
theorem dJ8_hugeLength_7cf53_8 : decode cJ8_hugeLength_7cf53 8 = .ok (.new 204, 3) := by decide +kernel
theorem dJ8_hugeLength_7cf53_11 : decode cJ8_hugeLength_7cf53 11 = .ok (.dup, 1) := by decide +kernel
theorem dJ8_hugeLength_7cf53_12 : decode cJ8_hugeLength_7cf53 12 = .ok (.new 89, 3) := by decide +kernel
theorem dJ8_hugeLength_7cf53_15 : decode cJ8_hugeLength_7cf53 15 = .ok (.dup, 1) := by decide +kernel
theorem dJ8_hugeLength_7cf53_16 : decode cJ8_hugeLength_7cf53 16 = .ok (.invokespecial 91, 3) := by decide +kernel
theorem dJ8_hugeLength_7cf53_19 : decode cJ8_hugeLength_7cf53 19 = .ok (.ldc 206, 2) := by decide +kernel
theorem dJ8_hugeLength_7cf53_21 : decode cJ8_hugeLength_7cf53 21 = .ok (.invokevirtual 94, 3) := by decide +kernel
theorem dJ8_hugeLength_7cf53_24 : decode cJ8_hugeLength_7cf53 24 = .ok (.iload_n 0, 1) := by decide +kernel
theorem dJ8_hugeLength_7cf53_25 : decode cJ8_hugeLength_7cf53 25 = .ok (.invokevirtual 98, 3) := by decide +kernel
theorem dJ8_hugeLength_7cf53_28 : decode cJ8_hugeLength_7cf53 28 = .ok (.ldc 208, 2) := by decide +kernel
theorem dJ8_hugeLength_7cf53_30 : decode cJ8_hugeLength_7cf53 30 = .ok (.invokevirtual 94, 3) := by decide +kernel
theorem dJ8_hugeLength_7cf53_33 : decode cJ8_hugeLength_7cf53 33 = .ok (.iload_n 1, 1) := by decide +kernel
theorem dJ8_hugeLength_7cf53_34 : decode cJ8_hugeLength_7cf53 34 = .ok (.invokevirtual 98, 3) := by decide +kernel
theorem dJ8_hugeLength_7cf53_37 : decode cJ8_hugeLength_7cf53 37 = .ok (.ldc 210, 2) := by decide +kernel
theorem dJ8_hugeLength_7cf53_39 : decode cJ8_hugeLength_7cf53 39 = .ok (.invokevirtual 94, 3) := by decide +kernel
theorem dJ8_hugeLength_7cf53_42 : decode cJ8_hugeLength_7cf53 42 = .ok (.invokevirtual 101, 3) := by decide +kernel
theorem dJ8_hugeLength_7cf53_45 : decode cJ8_hugeLength_7cf53 45 = .ok (.invokespecial 212, 3) := by decide +kernel
theorem dJ8_hugeLength_7cf53_48 : decode cJ8_hugeLength_7cf53 48 = .ok (.athrow, 1) := by decide +kernel
theorem dJ8_hugeLength_7cf53_49 : decode cJ8_hugeLength_7cf53 49 = .ok (.iload_n 2, 1) := by decide +kernel
theorem dJ8_hugeLength_7cf53_50 : decode cJ8_hugeLength_7cf53 50 = .ok (.ldc 200, 2) := by decide +kernel
theorem dJ8_hugeLength_7cf53_52 : decode cJ8_hugeLength_7cf53 52 = .ok (.if_icmp .gt 6, 3) := by decide +kernel
theorem dJ8_hugeLength_7cf53_55 : decode cJ8_hugeLength_7cf53 55 = .ok (.ldc 200, 2) := by decide +kernel
theorem dJ8_hugeLength_7cf53_57 : decode cJ8_hugeLength_7cf53 57 = .ok (.ireturn, 1) := by decide +kernel
theorem dJ8_hugeLength_7cf53_58 : decode cJ8_hugeLength_7cf53 58 = .ok (.iload_n 2, 1) := by decide +kernel
theorem dJ8_hugeLength_7cf53_59 : decode cJ8_hugeLength_7cf53 59 = .ok (.ireturn, 1) := by decide +kernel
theorem dJ3_checkIndex_8e157_0 : decode cJ3_checkIndex_8e157 0 = .ok (.iload_n 0, 1) := by decide +kernel
theorem dJ3_checkIndex_8e157_1 : decode cJ3_checkIndex_8e157 1 = .ok (.ifCond .lt 8, 3) := by decide +kernel
theorem dJ3_checkIndex_8e157_4 : decode cJ3_checkIndex_8e157 4 = .ok (.iload_n 0, 1) := by decide +kernel
theorem dJ3_checkIndex_8e157_5 : decode cJ3_checkIndex_8e157 5 = .ok (.iload_n 1, 1) := by decide +kernel
theorem dJ3_checkIndex_8e157_6 : decode cJ3_checkIndex_8e157 6 = .ok (.if_icmp .lt 10, 3) := by decide +kernel
theorem dJ3_checkIndex_8e157_9 : decode cJ3_checkIndex_8e157 9 = .ok (.aload_n 2, 1) := by decide +kernel
theorem dJ3_checkIndex_8e157_10 : decode cJ3_checkIndex_8e157 10 = .ok (.iload_n 0, 1) := by decide +kernel
theorem dJ3_checkIndex_8e157_11 : decode cJ3_checkIndex_8e157 11 = .ok (.iload_n 1, 1) := by decide +kernel
theorem dJ3_checkIndex_8e157_12 : decode cJ3_checkIndex_8e157 12 = .ok (.invokestatic 95, 3) := by decide +kernel
theorem dJ3_checkIndex_8e157_15 : decode cJ3_checkIndex_8e157 15 = .ok (.athrow, 1) := by decide +kernel
theorem dJ3_checkIndex_8e157_16 : decode cJ3_checkIndex_8e157 16 = .ok (.iload_n 0, 1) := by decide +kernel
theorem dJ3_checkIndex_8e157_17 : decode cJ3_checkIndex_8e157 17 = .ok (.ireturn, 1) := by decide +kernel
theorem dL_setRoom_0 : decode cL_setRoom 0 = .ok (.aload_n 3, 1) := by decide +kernel
theorem dL_setRoom_1 : decode cL_setRoom 1 = .ok (.iconst 0, 1) := by decide +kernel
theorem dL_setRoom_2 : decode cL_setRoom 2 = .ok (.aload_n 0, 1) := by decide +kernel
theorem dL_setRoom_3 : decode cL_setRoom 3 = .ok (.iload_n 1, 1) := by decide +kernel
theorem dL_setRoom_4 : decode cL_setRoom 4 = .ok (.iload_n 2, 1) := by decide +kernel
theorem dL_setRoom_5 : decode cL_setRoom 5 = .ok (.invokevirtual 7, 3) := by decide +kernel
theorem dL_setRoom_8 : decode cL_setRoom 8 = .ok (.i2l, 1) := by decide +kernel
theorem dL_setRoom_9 : decode cL_setRoom 9 = .ok (.lastore, 1) := by decide +kernel
theorem dL_setRoom_10 : decode cL_setRoom 10 = .ok (.goto 7, 3) := by decide +kernel
theorem dL_setRoom_13 : decode cL_setRoom 13 = .ok (.astore 4, 2) := by decide +kernel
theorem dL_setRoom_15 : decode cL_setRoom 15 = .ok (.iconst 1, 1) := by decide +kernel
theorem dL_setRoom_16 : decode cL_setRoom 16 = .ok (.ireturn, 1) := by decide +kernel
theorem dL_setRoom_17 : decode cL_setRoom 17 = .ok (.iconst 0, 1) := by decide +kernel
theorem dL_setRoom_18 : decode cL_setRoom 18 = .ok (.ireturn, 1) := by decide +kernel
theorem dL_setVan_0 : decode cL_setVan 0 = .ok (.aload_n 2, 1) := by decide +kernel
theorem dL_setVan_1 : decode cL_setVan 1 = .ok (.iconst 0, 1) := by decide +kernel
theorem dL_setVan_2 : decode cL_setVan 2 = .ok (.aload_n 0, 1) := by decide +kernel
theorem dL_setVan_3 : decode cL_setVan 3 = .ok (.iload_n 1, 1) := by decide +kernel
theorem dL_setVan_4 : decode cL_setVan 4 = .ok (.invokevirtual 15, 3) := by decide +kernel
theorem dL_setVan_7 : decode cL_setVan 7 = .ok (.i2l, 1) := by decide +kernel
theorem dL_setVan_8 : decode cL_setVan 8 = .ok (.lastore, 1) := by decide +kernel
theorem dL_setVan_9 : decode cL_setVan 9 = .ok (.goto 6, 3) := by decide +kernel
theorem dL_setVan_12 : decode cL_setVan 12 = .ok (.astore_n 3, 1) := by decide +kernel
theorem dL_setVan_13 : decode cL_setVan 13 = .ok (.iconst 1, 1) := by decide +kernel
theorem dL_setVan_14 : decode cL_setVan 14 = .ok (.ireturn, 1) := by decide +kernel
theorem dL_setVan_15 : decode cL_setVan 15 = .ok (.iconst 0, 1) := by decide +kernel
theorem dL_setVan_16 : decode cL_setVan 16 = .ok (.ireturn, 1) := by decide +kernel
theorem dL_leave_0 : decode cL_leave 0 = .ok (.aload 4, 2) := by decide +kernel
theorem dL_leave_2 : decode cL_leave 2 = .ok (.iconst 0, 1) := by decide +kernel
theorem dL_leave_3 : decode cL_leave 3 = .ok (.aload_n 0, 1) := by decide +kernel
theorem dL_leave_4 : decode cL_leave 4 = .ok (.iload_n 1, 1) := by decide +kernel
theorem dL_leave_5 : decode cL_leave 5 = .ok (.iload_n 2, 1) := by decide +kernel
theorem dL_leave_6 : decode cL_leave 6 = .ok (.iload_n 3, 1) := by decide +kernel
theorem dL_leave_7 : decode cL_leave 7 = .ok (.invokevirtual 19, 3) := by decide +kernel
theorem dL_leave_10 : decode cL_leave 10 = .ok (.i2l, 1) := by decide +kernel
theorem dL_leave_11 : decode cL_leave 11 = .ok (.lastore, 1) := by decide +kernel
theorem dL_leave_12 : decode cL_leave 12 = .ok (.goto 11, 3) := by decide +kernel
theorem dL_leave_15 : decode cL_leave 15 = .ok (.astore 5, 2) := by decide +kernel
theorem dL_leave_17 : decode cL_leave 17 = .ok (.iconst 1, 1) := by decide +kernel
theorem dL_leave_18 : decode cL_leave 18 = .ok (.ireturn, 1) := by decide +kernel
theorem dL_leave_19 : decode cL_leave 19 = .ok (.astore 5, 2) := by decide +kernel
theorem dL_leave_21 : decode cL_leave 21 = .ok (.iconst 2, 1) := by decide +kernel
theorem dL_leave_22 : decode cL_leave 22 = .ok (.ireturn, 1) := by decide +kernel
theorem dL_leave_23 : decode cL_leave 23 = .ok (.iconst 0, 1) := by decide +kernel
theorem dL_leave_24 : decode cL_leave 24 = .ok (.ireturn, 1) := by decide +kernel
theorem dL_fetch_0 : decode cL_fetch 0 = .ok (.aload_n 2, 1) := by decide +kernel
theorem dL_fetch_1 : decode cL_fetch 1 = .ok (.iconst 0, 1) := by decide +kernel
theorem dL_fetch_2 : decode cL_fetch 2 = .ok (.aload_n 0, 1) := by decide +kernel
theorem dL_fetch_3 : decode cL_fetch 3 = .ok (.iload_n 1, 1) := by decide +kernel
theorem dL_fetch_4 : decode cL_fetch 4 = .ok (.invokevirtual 25, 3) := by decide +kernel
theorem dL_fetch_7 : decode cL_fetch 7 = .ok (.i2l, 1) := by decide +kernel
theorem dL_fetch_8 : decode cL_fetch 8 = .ok (.lastore, 1) := by decide +kernel
theorem dL_fetch_9 : decode cL_fetch 9 = .ok (.goto 9, 3) := by decide +kernel
theorem dL_fetch_12 : decode cL_fetch 12 = .ok (.astore_n 3, 1) := by decide +kernel
theorem dL_fetch_13 : decode cL_fetch 13 = .ok (.iconst 1, 1) := by decide +kernel
theorem dL_fetch_14 : decode cL_fetch 14 = .ok (.ireturn, 1) := by decide +kernel
theorem dL_fetch_15 : decode cL_fetch 15 = .ok (.astore_n 3, 1) := by decide +kernel
theorem dL_fetch_16 : decode cL_fetch 16 = .ok (.iconst 2, 1) := by decide +kernel
theorem dL_fetch_17 : decode cL_fetch 17 = .ok (.ireturn, 1) := by decide +kernel
theorem dL_fetch_18 : decode cL_fetch 18 = .ok (.iconst 0, 1) := by decide +kernel
theorem dL_fetch_19 : decode cL_fetch 19 = .ok (.ireturn, 1) := by decide +kernel
theorem dL_want_0 : decode cL_want 0 = .ok (.aload_n 3, 1) := by decide +kernel
theorem dL_want_1 : decode cL_want 1 = .ok (.iconst 0, 1) := by decide +kernel
theorem dL_want_2 : decode cL_want 2 = .ok (.aload_n 0, 1) := by decide +kernel
theorem dL_want_3 : decode cL_want 3 = .ok (.iload_n 1, 1) := by decide +kernel
theorem dL_want_4 : decode cL_want 4 = .ok (.iload_n 2, 1) := by decide +kernel
theorem dL_want_5 : decode cL_want 5 = .ok (.invokevirtual 30, 3) := by decide +kernel
theorem dL_want_8 : decode cL_want 8 = .ok (.i2l, 1) := by decide +kernel
theorem dL_want_9 : decode cL_want 9 = .ok (.lastore, 1) := by decide +kernel
theorem dL_want_10 : decode cL_want 10 = .ok (.goto 15, 3) := by decide +kernel
theorem dL_want_13 : decode cL_want 13 = .ok (.astore 4, 2) := by decide +kernel
theorem dL_want_15 : decode cL_want 15 = .ok (.iconst 1, 1) := by decide +kernel
theorem dL_want_16 : decode cL_want 16 = .ok (.ireturn, 1) := by decide +kernel
theorem dL_want_17 : decode cL_want 17 = .ok (.astore 4, 2) := by decide +kernel
theorem dL_want_19 : decode cL_want 19 = .ok (.iconst 2, 1) := by decide +kernel
theorem dL_want_20 : decode cL_want 20 = .ok (.ireturn, 1) := by decide +kernel
theorem dL_want_21 : decode cL_want 21 = .ok (.astore 4, 2) := by decide +kernel
theorem dL_want_23 : decode cL_want 23 = .ok (.iconst 3, 1) := by decide +kernel
theorem dL_want_24 : decode cL_want 24 = .ok (.ireturn, 1) := by decide +kernel
theorem dL_want_25 : decode cL_want 25 = .ok (.iconst 0, 1) := by decide +kernel
theorem dL_want_26 : decode cL_want 26 = .ok (.ireturn, 1) := by decide +kernel
theorem dL_value_0 : decode cL_value 0 = .ok (.aload_n 3, 1) := by decide +kernel
theorem dL_value_1 : decode cL_value 1 = .ok (.iconst 0, 1) := by decide +kernel
theorem dL_value_2 : decode cL_value 2 = .ok (.aload_n 0, 1) := by decide +kernel
theorem dL_value_3 : decode cL_value 3 = .ok (.iload_n 1, 1) := by decide +kernel
theorem dL_value_4 : decode cL_value 4 = .ok (.iload_n 2, 1) := by decide +kernel
theorem dL_value_5 : decode cL_value 5 = .ok (.invokevirtual 33, 3) := by decide +kernel
theorem dL_value_8 : decode cL_value 8 = .ok (.i2l, 1) := by decide +kernel
theorem dL_value_9 : decode cL_value 9 = .ok (.lastore, 1) := by decide +kernel
theorem dL_value_10 : decode cL_value 10 = .ok (.goto 15, 3) := by decide +kernel
theorem dL_value_13 : decode cL_value 13 = .ok (.astore 4, 2) := by decide +kernel
theorem dL_value_15 : decode cL_value 15 = .ok (.iconst 1, 1) := by decide +kernel
theorem dL_value_16 : decode cL_value 16 = .ok (.ireturn, 1) := by decide +kernel
theorem dL_value_17 : decode cL_value 17 = .ok (.astore 4, 2) := by decide +kernel
theorem dL_value_19 : decode cL_value 19 = .ok (.iconst 2, 1) := by decide +kernel
theorem dL_value_20 : decode cL_value 20 = .ok (.ireturn, 1) := by decide +kernel
theorem dL_value_21 : decode cL_value 21 = .ok (.astore 4, 2) := by decide +kernel
theorem dL_value_23 : decode cL_value 23 = .ok (.iconst 3, 1) := by decide +kernel
theorem dL_value_24 : decode cL_value 24 = .ok (.ireturn, 1) := by decide +kernel
theorem dL_value_25 : decode cL_value 25 = .ok (.iconst 0, 1) := by decide +kernel
theorem dL_value_26 : decode cL_value 26 = .ok (.ireturn, 1) := by decide +kernel
theorem dL_lend_0 : decode cL_lend 0 = .ok (.aload_n 0, 1) := by decide +kernel
theorem dL_lend_1 : decode cL_lend 1 = .ok (.iload_n 1, 1) := by decide +kernel
theorem dL_lend_2 : decode cL_lend 2 = .ok (.iload_n 2, 1) := by decide +kernel
theorem dL_lend_3 : decode cL_lend 3 = .ok (.iload_n 3, 1) := by decide +kernel
theorem dL_lend_4 : decode cL_lend 4 = .ok (.invokevirtual 36, 3) := by decide +kernel
theorem dL_lend_7 : decode cL_lend 7 = .ok (.goto 15, 3) := by decide +kernel
theorem dL_lend_10 : decode cL_lend 10 = .ok (.astore 4, 2) := by decide +kernel
theorem dL_lend_12 : decode cL_lend 12 = .ok (.iconst 1, 1) := by decide +kernel
theorem dL_lend_13 : decode cL_lend 13 = .ok (.ireturn, 1) := by decide +kernel
theorem dL_lend_14 : decode cL_lend 14 = .ok (.astore 4, 2) := by decide +kernel
theorem dL_lend_16 : decode cL_lend 16 = .ok (.iconst 2, 1) := by decide +kernel
theorem dL_lend_17 : decode cL_lend 17 = .ok (.ireturn, 1) := by decide +kernel
theorem dL_lend_18 : decode cL_lend 18 = .ok (.astore 4, 2) := by decide +kernel
theorem dL_lend_20 : decode cL_lend 20 = .ok (.iconst 3, 1) := by decide +kernel
theorem dL_lend_21 : decode cL_lend 21 = .ok (.ireturn, 1) := by decide +kernel
theorem dL_lend_22 : decode cL_lend 22 = .ok (.iconst 0, 1) := by decide +kernel
theorem dL_lend_23 : decode cL_lend 23 = .ok (.ireturn, 1) := by decide +kernel
theorem dL_repay_0 : decode cL_repay 0 = .ok (.aload_n 2, 1) := by decide +kernel
theorem dL_repay_1 : decode cL_repay 1 = .ok (.iconst 0, 1) := by decide +kernel
theorem dL_repay_2 : decode cL_repay 2 = .ok (.aload_n 0, 1) := by decide +kernel
theorem dL_repay_3 : decode cL_repay 3 = .ok (.iload_n 1, 1) := by decide +kernel
theorem dL_repay_4 : decode cL_repay 4 = .ok (.invokevirtual 40, 3) := by decide +kernel
theorem dL_repay_7 : decode cL_repay 7 = .ok (.i2l, 1) := by decide +kernel
theorem dL_repay_8 : decode cL_repay 8 = .ok (.lastore, 1) := by decide +kernel
theorem dL_repay_9 : decode cL_repay 9 = .ok (.goto 9, 3) := by decide +kernel
theorem dL_repay_12 : decode cL_repay 12 = .ok (.astore_n 3, 1) := by decide +kernel
theorem dL_repay_13 : decode cL_repay 13 = .ok (.iconst 1, 1) := by decide +kernel
theorem dL_repay_14 : decode cL_repay 14 = .ok (.ireturn, 1) := by decide +kernel
theorem dL_repay_15 : decode cL_repay 15 = .ok (.astore_n 3, 1) := by decide +kernel
theorem dL_repay_16 : decode cL_repay 16 = .ok (.iconst 2, 1) := by decide +kernel
theorem dL_repay_17 : decode cL_repay 17 = .ok (.ireturn, 1) := by decide +kernel
theorem dL_repay_18 : decode cL_repay 18 = .ok (.iconst 0, 1) := by decide +kernel
theorem dL_repay_19 : decode cL_repay 19 = .ok (.ireturn, 1) := by decide +kernel
theorem dL_doubt_0 : decode cL_doubt 0 = .ok (.aload_n 2, 1) := by decide +kernel
theorem dL_doubt_1 : decode cL_doubt 1 = .ok (.iconst 0, 1) := by decide +kernel
theorem dL_doubt_2 : decode cL_doubt 2 = .ok (.aload_n 0, 1) := by decide +kernel
theorem dL_doubt_3 : decode cL_doubt 3 = .ok (.iload_n 1, 1) := by decide +kernel
theorem dL_doubt_4 : decode cL_doubt 4 = .ok (.invokevirtual 43, 3) := by decide +kernel
theorem dL_doubt_7 : decode cL_doubt 7 = .ok (.i2l, 1) := by decide +kernel
theorem dL_doubt_8 : decode cL_doubt 8 = .ok (.lastore, 1) := by decide +kernel
theorem dL_doubt_9 : decode cL_doubt 9 = .ok (.goto 9, 3) := by decide +kernel
theorem dL_doubt_12 : decode cL_doubt 12 = .ok (.astore_n 3, 1) := by decide +kernel
theorem dL_doubt_13 : decode cL_doubt 13 = .ok (.iconst 1, 1) := by decide +kernel
theorem dL_doubt_14 : decode cL_doubt 14 = .ok (.ireturn, 1) := by decide +kernel
theorem dL_doubt_15 : decode cL_doubt 15 = .ok (.astore_n 3, 1) := by decide +kernel
theorem dL_doubt_16 : decode cL_doubt 16 = .ok (.iconst 2, 1) := by decide +kernel
theorem dL_doubt_17 : decode cL_doubt 17 = .ok (.ireturn, 1) := by decide +kernel
theorem dL_doubt_18 : decode cL_doubt 18 = .ok (.iconst 0, 1) := by decide +kernel
theorem dL_doubt_19 : decode cL_doubt 19 = .ok (.ireturn, 1) := by decide +kernel
theorem dL_pass_0 : decode cL_pass 0 = .ok (.aload_n 2, 1) := by decide +kernel
theorem dL_pass_1 : decode cL_pass 1 = .ok (.iconst 0, 1) := by decide +kernel
theorem dL_pass_2 : decode cL_pass 2 = .ok (.aload_n 0, 1) := by decide +kernel
theorem dL_pass_3 : decode cL_pass 3 = .ok (.iload_n 1, 1) := by decide +kernel
theorem dL_pass_4 : decode cL_pass 4 = .ok (.invokevirtual 46, 3) := by decide +kernel
theorem dL_pass_7 : decode cL_pass 7 = .ok (.i2l, 1) := by decide +kernel
theorem dL_pass_8 : decode cL_pass 8 = .ok (.lastore, 1) := by decide +kernel
theorem dL_pass_9 : decode cL_pass 9 = .ok (.goto 9, 3) := by decide +kernel
theorem dL_pass_12 : decode cL_pass 12 = .ok (.astore_n 3, 1) := by decide +kernel
theorem dL_pass_13 : decode cL_pass 13 = .ok (.iconst 1, 1) := by decide +kernel
theorem dL_pass_14 : decode cL_pass 14 = .ok (.ireturn, 1) := by decide +kernel
theorem dL_pass_15 : decode cL_pass 15 = .ok (.astore_n 3, 1) := by decide +kernel
theorem dL_pass_16 : decode cL_pass 16 = .ok (.iconst 2, 1) := by decide +kernel
theorem dL_pass_17 : decode cL_pass 17 = .ok (.ireturn, 1) := by decide +kernel
theorem dL_pass_18 : decode cL_pass 18 = .ok (.iconst 0, 1) := by decide +kernel
theorem dL_pass_19 : decode cL_pass 19 = .ok (.ireturn, 1) := by decide +kernel
theorem dL_where_0 : decode cL_where 0 = .ok (.aload_n 2, 1) := by decide +kernel
theorem dL_where_1 : decode cL_where 1 = .ok (.iconst 0, 1) := by decide +kernel
theorem dL_where_2 : decode cL_where 2 = .ok (.aload_n 0, 1) := by decide +kernel
theorem dL_where_3 : decode cL_where 3 = .ok (.iload_n 1, 1) := by decide +kernel
theorem dL_where_4 : decode cL_where 4 = .ok (.invokevirtual 49, 3) := by decide +kernel
theorem dL_where_7 : decode cL_where 7 = .ok (.i2l, 1) := by decide +kernel
theorem dL_where_8 : decode cL_where 8 = .ok (.lastore, 1) := by decide +kernel
theorem dL_where_9 : decode cL_where 9 = .ok (.goto 6, 3) := by decide +kernel
theorem dL_where_12 : decode cL_where 12 = .ok (.astore_n 3, 1) := by decide +kernel
theorem dL_where_13 : decode cL_where 13 = .ok (.iconst 1, 1) := by decide +kernel
theorem dL_where_14 : decode cL_where 14 = .ok (.ireturn, 1) := by decide +kernel
theorem dL_where_15 : decode cL_where 15 = .ok (.iconst 0, 1) := by decide +kernel
theorem dL_where_16 : decode cL_where 16 = .ok (.ireturn, 1) := by decide +kernel
theorem dL_whereOn_0 : decode cL_whereOn 0 = .ok (.aload_n 3, 1) := by decide +kernel
theorem dL_whereOn_1 : decode cL_whereOn 1 = .ok (.iconst 0, 1) := by decide +kernel
theorem dL_whereOn_2 : decode cL_whereOn 2 = .ok (.aload_n 0, 1) := by decide +kernel
theorem dL_whereOn_3 : decode cL_whereOn 3 = .ok (.iload_n 1, 1) := by decide +kernel
theorem dL_whereOn_4 : decode cL_whereOn 4 = .ok (.iload_n 2, 1) := by decide +kernel
theorem dL_whereOn_5 : decode cL_whereOn 5 = .ok (.invokevirtual 52, 3) := by decide +kernel
theorem dL_whereOn_8 : decode cL_whereOn 8 = .ok (.i2l, 1) := by decide +kernel
theorem dL_whereOn_9 : decode cL_whereOn 9 = .ok (.lastore, 1) := by decide +kernel
theorem dL_whereOn_10 : decode cL_whereOn 10 = .ok (.goto 11, 3) := by decide +kernel
theorem dL_whereOn_13 : decode cL_whereOn 13 = .ok (.astore 4, 2) := by decide +kernel
theorem dL_whereOn_15 : decode cL_whereOn 15 = .ok (.iconst 1, 1) := by decide +kernel
theorem dL_whereOn_16 : decode cL_whereOn 16 = .ok (.ireturn, 1) := by decide +kernel
theorem dL_whereOn_17 : decode cL_whereOn 17 = .ok (.astore 4, 2) := by decide +kernel
theorem dL_whereOn_19 : decode cL_whereOn 19 = .ok (.iconst 2, 1) := by decide +kernel
theorem dL_whereOn_20 : decode cL_whereOn 20 = .ok (.ireturn, 1) := by decide +kernel
theorem dL_whereOn_21 : decode cL_whereOn 21 = .ok (.iconst 0, 1) := by decide +kernel
theorem dL_whereOn_22 : decode cL_whereOn 22 = .ok (.ireturn, 1) := by decide +kernel
theorem dL_load_0 : decode cL_load 0 = .ok (.aload_n 2, 1) := by decide +kernel
theorem dL_load_1 : decode cL_load 1 = .ok (.iconst 0, 1) := by decide +kernel
theorem dL_load_2 : decode cL_load 2 = .ok (.aload_n 0, 1) := by decide +kernel
theorem dL_load_3 : decode cL_load 3 = .ok (.iload_n 1, 1) := by decide +kernel
theorem dL_load_4 : decode cL_load 4 = .ok (.invokevirtual 55, 3) := by decide +kernel
theorem dL_load_7 : decode cL_load 7 = .ok (.i2l, 1) := by decide +kernel
theorem dL_load_8 : decode cL_load 8 = .ok (.lastore, 1) := by decide +kernel
theorem dL_load_9 : decode cL_load 9 = .ok (.goto 6, 3) := by decide +kernel
theorem dL_load_12 : decode cL_load 12 = .ok (.astore_n 3, 1) := by decide +kernel
theorem dL_load_13 : decode cL_load 13 = .ok (.iconst 1, 1) := by decide +kernel
theorem dL_load_14 : decode cL_load 14 = .ok (.ireturn, 1) := by decide +kernel
theorem dL_load_15 : decode cL_load 15 = .ok (.iconst 0, 1) := by decide +kernel
theorem dL_load_16 : decode cL_load 16 = .ok (.ireturn, 1) := by decide +kernel
theorem dL_fees_0 : decode cL_fees 0 = .ok (.aload_n 2, 1) := by decide +kernel
theorem dL_fees_1 : decode cL_fees 1 = .ok (.iconst 0, 1) := by decide +kernel
theorem dL_fees_2 : decode cL_fees 2 = .ok (.aload_n 0, 1) := by decide +kernel
theorem dL_fees_3 : decode cL_fees 3 = .ok (.iload_n 1, 1) := by decide +kernel
theorem dL_fees_4 : decode cL_fees 4 = .ok (.invokevirtual 58, 3) := by decide +kernel
theorem dL_fees_7 : decode cL_fees 7 = .ok (.i2l, 1) := by decide +kernel
theorem dL_fees_8 : decode cL_fees 8 = .ok (.lastore, 1) := by decide +kernel
theorem dL_fees_9 : decode cL_fees 9 = .ok (.goto 6, 3) := by decide +kernel
theorem dL_fees_12 : decode cL_fees 12 = .ok (.astore_n 3, 1) := by decide +kernel
theorem dL_fees_13 : decode cL_fees 13 = .ok (.iconst 1, 1) := by decide +kernel
theorem dL_fees_14 : decode cL_fees 14 = .ok (.ireturn, 1) := by decide +kernel
theorem dL_fees_15 : decode cL_fees 15 = .ok (.iconst 0, 1) := by decide +kernel
theorem dL_fees_16 : decode cL_fees 16 = .ok (.ireturn, 1) := by decide +kernel
theorem dL_loan_0 : decode cL_loan 0 = .ok (.aload_n 2, 1) := by decide +kernel
theorem dL_loan_1 : decode cL_loan 1 = .ok (.iconst 0, 1) := by decide +kernel
theorem dL_loan_2 : decode cL_loan 2 = .ok (.aload_n 0, 1) := by decide +kernel
theorem dL_loan_3 : decode cL_loan 3 = .ok (.iload_n 1, 1) := by decide +kernel
theorem dL_loan_4 : decode cL_loan 4 = .ok (.invokevirtual 61, 3) := by decide +kernel
theorem dL_loan_7 : decode cL_loan 7 = .ok (.i2l, 1) := by decide +kernel
theorem dL_loan_8 : decode cL_loan 8 = .ok (.lastore, 1) := by decide +kernel
theorem dL_loan_9 : decode cL_loan 9 = .ok (.goto 6, 3) := by decide +kernel
theorem dL_loan_12 : decode cL_loan 12 = .ok (.astore_n 3, 1) := by decide +kernel
theorem dL_loan_13 : decode cL_loan 13 = .ok (.iconst 1, 1) := by decide +kernel
theorem dL_loan_14 : decode cL_loan 14 = .ok (.ireturn, 1) := by decide +kernel
theorem dL_loan_15 : decode cL_loan 15 = .ok (.iconst 0, 1) := by decide +kernel
theorem dL_loan_16 : decode cL_loan 16 = .ok (.ireturn, 1) := by decide +kernel
theorem dL_purse_0 : decode cL_purse 0 = .ok (.aload_n 2, 1) := by decide +kernel
theorem dL_purse_1 : decode cL_purse 1 = .ok (.iconst 0, 1) := by decide +kernel
theorem dL_purse_2 : decode cL_purse 2 = .ok (.aload_n 0, 1) := by decide +kernel
theorem dL_purse_3 : decode cL_purse 3 = .ok (.iload_n 1, 1) := by decide +kernel
theorem dL_purse_4 : decode cL_purse 4 = .ok (.invokevirtual 64, 3) := by decide +kernel
theorem dL_purse_7 : decode cL_purse 7 = .ok (.i2l, 1) := by decide +kernel
theorem dL_purse_8 : decode cL_purse 8 = .ok (.lastore, 1) := by decide +kernel
theorem dL_purse_9 : decode cL_purse 9 = .ok (.goto 6, 3) := by decide +kernel
theorem dL_purse_12 : decode cL_purse 12 = .ok (.astore_n 3, 1) := by decide +kernel
theorem dL_purse_13 : decode cL_purse 13 = .ok (.iconst 1, 1) := by decide +kernel
theorem dL_purse_14 : decode cL_purse 14 = .ok (.ireturn, 1) := by decide +kernel
theorem dL_purse_15 : decode cL_purse 15 = .ok (.iconst 0, 1) := by decide +kernel
theorem dL_purse_16 : decode cL_purse 16 = .ok (.ireturn, 1) := by decide +kernel
theorem dL_wish_0 : decode cL_wish 0 = .ok (.aload_n 2, 1) := by decide +kernel
theorem dL_wish_1 : decode cL_wish 1 = .ok (.iconst 0, 1) := by decide +kernel
theorem dL_wish_2 : decode cL_wish 2 = .ok (.aload_n 0, 1) := by decide +kernel
theorem dL_wish_3 : decode cL_wish 3 = .ok (.iload_n 1, 1) := by decide +kernel
theorem dL_wish_4 : decode cL_wish 4 = .ok (.invokevirtual 67, 3) := by decide +kernel
theorem dL_wish_7 : decode cL_wish 7 = .ok (.i2l, 1) := by decide +kernel
theorem dL_wish_8 : decode cL_wish 8 = .ok (.lastore, 1) := by decide +kernel
theorem dL_wish_9 : decode cL_wish 9 = .ok (.goto 6, 3) := by decide +kernel
theorem dL_wish_12 : decode cL_wish 12 = .ok (.astore_n 3, 1) := by decide +kernel
theorem dL_wish_13 : decode cL_wish 13 = .ok (.iconst 1, 1) := by decide +kernel
theorem dL_wish_14 : decode cL_wish 14 = .ok (.ireturn, 1) := by decide +kernel
theorem dL_wish_15 : decode cL_wish 15 = .ok (.iconst 0, 1) := by decide +kernel
theorem dL_wish_16 : decode cL_wish 16 = .ok (.ireturn, 1) := by decide +kernel
theorem dL_law_0 : decode cL_law 0 = .ok (.new 8, 3) := by decide +kernel
theorem dL_law_3 : decode cL_law 3 = .ok (.dup, 1) := by decide +kernel
theorem dL_law_4 : decode cL_law 4 = .ok (.invokespecial 70, 3) := by decide +kernel
theorem dL_law_7 : decode cL_law 7 = .ok (.astore_n 1, 1) := by decide +kernel
theorem dL_law_8 : decode cL_law 8 = .ok (.new 71, 3) := by decide +kernel
theorem dL_law_11 : decode cL_law 11 = .ok (.dup, 1) := by decide +kernel
theorem dL_law_12 : decode cL_law 12 = .ok (.invokespecial 73, 3) := by decide +kernel
theorem dL_law_15 : decode cL_law 15 = .ok (.astore_n 2, 1) := by decide +kernel
theorem dL_law_16 : decode cL_law 16 = .ok (.iconst 1, 1) := by decide +kernel
theorem dL_law_17 : decode cL_law 17 = .ok (.newarray .long, 2) := by decide +kernel
theorem dL_law_19 : decode cL_law 19 = .ok (.astore_n 3, 1) := by decide +kernel
theorem dL_law_20 : decode cL_law 20 = .ok (.iconst 0, 1) := by decide +kernel
theorem dL_law_21 : decode cL_law 21 = .ok (.istore 4, 2) := by decide +kernel
theorem dL_law_23 : decode cL_law 23 = .ok (.iload 4, 2) := by decide +kernel
theorem dL_law_25 : decode cL_law 25 = .ok (.aload_n 0, 1) := by decide +kernel
theorem dL_law_26 : decode cL_law 26 = .ok (.arraylength, 1) := by decide +kernel
theorem dL_law_27 : decode cL_law 27 = .ok (.iconst 4, 1) := by decide +kernel
theorem dL_law_28 : decode cL_law 28 = .ok (.isub, 1) := by decide +kernel
theorem dL_law_29 : decode cL_law 29 = .ok (.if_icmp .gt 1176, 3) := by decide +kernel
theorem dL_law_32 : decode cL_law 32 = .ok (.aload_n 0, 1) := by decide +kernel
theorem dL_law_33 : decode cL_law 33 = .ok (.iload 4, 2) := by decide +kernel
theorem dL_law_35 : decode cL_law 35 = .ok (.iaload, 1) := by decide +kernel
theorem dL_law_36 : decode cL_law 36 = .ok (.bipush 31, 2) := by decide +kernel
theorem dL_law_38 : decode cL_law 38 = .ok (.iand, 1) := by decide +kernel
theorem dL_law_39 : decode cL_law 39 = .ok (.tableswitch 1160 0 19 #[93, 161, 217, 297, 353, 421, 489, 549, 605, 661, 717, 730, 743, 799, 867, 923, 979, 1035, 1091, 1104], 93) := by decide +kernel
theorem dL_law_132 : decode cL_law 132 = .ok (.aload_n 1, 1) := by decide +kernel
theorem dL_law_133 : decode cL_law 133 = .ok (.aload_n 0, 1) := by decide +kernel
theorem dL_law_134 : decode cL_law 134 = .ok (.iload 4, 2) := by decide +kernel
theorem dL_law_136 : decode cL_law 136 = .ok (.iconst 1, 1) := by decide +kernel
theorem dL_law_137 : decode cL_law 137 = .ok (.iadd, 1) := by decide +kernel
theorem dL_law_138 : decode cL_law 138 = .ok (.iaload, 1) := by decide +kernel
theorem dL_law_139 : decode cL_law 139 = .ok (.aload_n 0, 1) := by decide +kernel
theorem dL_law_140 : decode cL_law 140 = .ok (.iload 4, 2) := by decide +kernel
theorem dL_law_142 : decode cL_law 142 = .ok (.iconst 2, 1) := by decide +kernel
theorem dL_law_143 : decode cL_law 143 = .ok (.iadd, 1) := by decide +kernel
theorem dL_law_144 : decode cL_law 144 = .ok (.iaload, 1) := by decide +kernel
theorem dL_law_145 : decode cL_law 145 = .ok (.aload_n 3, 1) := by decide +kernel
theorem dL_law_146 : decode cL_law 146 = .ok (.invokestatic 74, 3) := by decide +kernel
theorem dL_law_149 : decode cL_law 149 = .ok (.istore 5, 2) := by decide +kernel
theorem dL_law_151 : decode cL_law 151 = .ok (.aload_n 2, 1) := by decide +kernel
theorem dL_law_152 : decode cL_law 152 = .ok (.aload_n 0, 1) := by decide +kernel
theorem dL_law_153 : decode cL_law 153 = .ok (.iload 4, 2) := by decide +kernel
theorem dL_law_155 : decode cL_law 155 = .ok (.iconst 1, 1) := by decide +kernel
theorem dL_law_156 : decode cL_law 156 = .ok (.iadd, 1) := by decide +kernel
theorem dL_law_157 : decode cL_law 157 = .ok (.iaload, 1) := by decide +kernel
theorem dL_law_158 : decode cL_law 158 = .ok (.aload_n 0, 1) := by decide +kernel
theorem dL_law_159 : decode cL_law 159 = .ok (.iload 4, 2) := by decide +kernel
theorem dL_law_161 : decode cL_law 161 = .ok (.iconst 2, 1) := by decide +kernel
theorem dL_law_162 : decode cL_law 162 = .ok (.iadd, 1) := by decide +kernel
theorem dL_law_163 : decode cL_law 163 = .ok (.iaload, 1) := by decide +kernel
theorem dL_law_164 : decode cL_law 164 = .ok (.invokevirtual 79, 3) := by decide +kernel
theorem dL_law_167 : decode cL_law 167 = .ok (.istore 6, 2) := by decide +kernel
theorem dL_law_169 : decode cL_law 169 = .ok (.aload_n 2, 1) := by decide +kernel
theorem dL_law_170 : decode cL_law 170 = .ok (.invokevirtual 80, 3) := by decide +kernel
theorem dL_law_173 : decode cL_law 173 = .ok (.iload 5, 2) := by decide +kernel
theorem dL_law_175 : decode cL_law 175 = .ok (.if_icmp .eq 5, 3) := by decide +kernel
theorem dL_law_178 : decode cL_law 178 = .ok (.iconst 0, 1) := by decide +kernel
theorem dL_law_179 : decode cL_law 179 = .ok (.ireturn, 1) := by decide +kernel
theorem dL_law_180 : decode cL_law 180 = .ok (.iload 5, 2) := by decide +kernel
theorem dL_law_182 : decode cL_law 182 = .ok (.ifCond .ne 15, 3) := by decide +kernel
theorem dL_law_185 : decode cL_law 185 = .ok (.aload_n 3, 1) := by decide +kernel
theorem dL_law_186 : decode cL_law 186 = .ok (.iconst 0, 1) := by decide +kernel
theorem dL_law_187 : decode cL_law 187 = .ok (.laload, 1) := by decide +kernel
theorem dL_law_188 : decode cL_law 188 = .ok (.iload 6, 2) := by decide +kernel
theorem dL_law_190 : decode cL_law 190 = .ok (.i2l, 1) := by decide +kernel
theorem dL_law_191 : decode cL_law 191 = .ok (.lcmp, 1) := by decide +kernel
theorem dL_law_192 : decode cL_law 192 = .ok (.ifCond .eq 5, 3) := by decide +kernel
theorem dL_law_195 : decode cL_law 195 = .ok (.iconst 0, 1) := by decide +kernel
theorem dL_law_196 : decode cL_law 196 = .ok (.ireturn, 1) := by decide +kernel
theorem dL_law_197 : decode cL_law 197 = .ok (.goto 1002, 3) := by decide +kernel
theorem dL_law_200 : decode cL_law 200 = .ok (.aload_n 1, 1) := by decide +kernel
theorem dL_law_201 : decode cL_law 201 = .ok (.aload_n 0, 1) := by decide +kernel
theorem dL_law_202 : decode cL_law 202 = .ok (.iload 4, 2) := by decide +kernel
theorem dL_law_204 : decode cL_law 204 = .ok (.iconst 1, 1) := by decide +kernel
theorem dL_law_205 : decode cL_law 205 = .ok (.iadd, 1) := by decide +kernel
theorem dL_law_206 : decode cL_law 206 = .ok (.iaload, 1) := by decide +kernel
theorem dL_law_207 : decode cL_law 207 = .ok (.aload_n 3, 1) := by decide +kernel
theorem dL_law_208 : decode cL_law 208 = .ok (.invokestatic 84, 3) := by decide +kernel
theorem dL_law_211 : decode cL_law 211 = .ok (.istore 5, 2) := by decide +kernel
theorem dL_law_213 : decode cL_law 213 = .ok (.aload_n 2, 1) := by decide +kernel
theorem dL_law_214 : decode cL_law 214 = .ok (.aload_n 0, 1) := by decide +kernel
theorem dL_law_215 : decode cL_law 215 = .ok (.iload 4, 2) := by decide +kernel
theorem dL_law_217 : decode cL_law 217 = .ok (.iconst 1, 1) := by decide +kernel
theorem dL_law_218 : decode cL_law 218 = .ok (.iadd, 1) := by decide +kernel
theorem dL_law_219 : decode cL_law 219 = .ok (.iaload, 1) := by decide +kernel
theorem dL_law_220 : decode cL_law 220 = .ok (.invokevirtual 87, 3) := by decide +kernel
theorem dL_law_223 : decode cL_law 223 = .ok (.istore 6, 2) := by decide +kernel
theorem dL_law_225 : decode cL_law 225 = .ok (.aload_n 2, 1) := by decide +kernel
theorem dL_law_226 : decode cL_law 226 = .ok (.invokevirtual 80, 3) := by decide +kernel
theorem dL_law_229 : decode cL_law 229 = .ok (.iload 5, 2) := by decide +kernel
theorem dL_law_231 : decode cL_law 231 = .ok (.if_icmp .eq 5, 3) := by decide +kernel
theorem dL_law_234 : decode cL_law 234 = .ok (.iconst 0, 1) := by decide +kernel
theorem dL_law_235 : decode cL_law 235 = .ok (.ireturn, 1) := by decide +kernel
theorem dL_law_236 : decode cL_law 236 = .ok (.iload 5, 2) := by decide +kernel
theorem dL_law_238 : decode cL_law 238 = .ok (.ifCond .ne 15, 3) := by decide +kernel
theorem dL_law_241 : decode cL_law 241 = .ok (.aload_n 3, 1) := by decide +kernel
theorem dL_law_242 : decode cL_law 242 = .ok (.iconst 0, 1) := by decide +kernel
theorem dL_law_243 : decode cL_law 243 = .ok (.laload, 1) := by decide +kernel
theorem dL_law_244 : decode cL_law 244 = .ok (.iload 6, 2) := by decide +kernel
theorem dL_law_246 : decode cL_law 246 = .ok (.i2l, 1) := by decide +kernel
theorem dL_law_247 : decode cL_law 247 = .ok (.lcmp, 1) := by decide +kernel
theorem dL_law_248 : decode cL_law 248 = .ok (.ifCond .eq 5, 3) := by decide +kernel
theorem dL_law_251 : decode cL_law 251 = .ok (.iconst 0, 1) := by decide +kernel
theorem dL_law_252 : decode cL_law 252 = .ok (.ireturn, 1) := by decide +kernel
theorem dL_law_253 : decode cL_law 253 = .ok (.goto 946, 3) := by decide +kernel
theorem dL_law_256 : decode cL_law 256 = .ok (.aload_n 1, 1) := by decide +kernel
theorem dL_law_257 : decode cL_law 257 = .ok (.aload_n 0, 1) := by decide +kernel
theorem dL_law_258 : decode cL_law 258 = .ok (.iload 4, 2) := by decide +kernel
theorem dL_law_260 : decode cL_law 260 = .ok (.iconst 1, 1) := by decide +kernel
theorem dL_law_261 : decode cL_law 261 = .ok (.iadd, 1) := by decide +kernel
theorem dL_law_262 : decode cL_law 262 = .ok (.iaload, 1) := by decide +kernel
theorem dL_law_263 : decode cL_law 263 = .ok (.aload_n 0, 1) := by decide +kernel
theorem dL_law_264 : decode cL_law 264 = .ok (.iload 4, 2) := by decide +kernel
theorem dL_law_266 : decode cL_law 266 = .ok (.iconst 2, 1) := by decide +kernel
theorem dL_law_267 : decode cL_law 267 = .ok (.iadd, 1) := by decide +kernel
theorem dL_law_268 : decode cL_law 268 = .ok (.iaload, 1) := by decide +kernel
theorem dL_law_269 : decode cL_law 269 = .ok (.aload_n 0, 1) := by decide +kernel
theorem dL_law_270 : decode cL_law 270 = .ok (.iload 4, 2) := by decide +kernel
theorem dL_law_272 : decode cL_law 272 = .ok (.iconst 3, 1) := by decide +kernel
theorem dL_law_273 : decode cL_law 273 = .ok (.iadd, 1) := by decide +kernel
theorem dL_law_274 : decode cL_law 274 = .ok (.iaload, 1) := by decide +kernel
theorem dL_law_275 : decode cL_law 275 = .ok (.aload_n 3, 1) := by decide +kernel
theorem dL_law_276 : decode cL_law 276 = .ok (.invokestatic 88, 3) := by decide +kernel
theorem dL_law_279 : decode cL_law 279 = .ok (.istore 5, 2) := by decide +kernel
theorem dL_law_281 : decode cL_law 281 = .ok (.aload_n 2, 1) := by decide +kernel
theorem dL_law_282 : decode cL_law 282 = .ok (.aload_n 0, 1) := by decide +kernel
theorem dL_law_283 : decode cL_law 283 = .ok (.iload 4, 2) := by decide +kernel
theorem dL_law_285 : decode cL_law 285 = .ok (.iconst 1, 1) := by decide +kernel
theorem dL_law_286 : decode cL_law 286 = .ok (.iadd, 1) := by decide +kernel
theorem dL_law_287 : decode cL_law 287 = .ok (.iaload, 1) := by decide +kernel
theorem dL_law_288 : decode cL_law 288 = .ok (.aload_n 0, 1) := by decide +kernel
theorem dL_law_289 : decode cL_law 289 = .ok (.iload 4, 2) := by decide +kernel
theorem dL_law_291 : decode cL_law 291 = .ok (.iconst 2, 1) := by decide +kernel
theorem dL_law_292 : decode cL_law 292 = .ok (.iadd, 1) := by decide +kernel
theorem dL_law_293 : decode cL_law 293 = .ok (.iaload, 1) := by decide +kernel
theorem dL_law_294 : decode cL_law 294 = .ok (.aload_n 0, 1) := by decide +kernel
theorem dL_law_295 : decode cL_law 295 = .ok (.iload 4, 2) := by decide +kernel
theorem dL_law_297 : decode cL_law 297 = .ok (.iconst 3, 1) := by decide +kernel
theorem dL_law_298 : decode cL_law 298 = .ok (.iadd, 1) := by decide +kernel
theorem dL_law_299 : decode cL_law 299 = .ok (.iaload, 1) := by decide +kernel
theorem dL_law_300 : decode cL_law 300 = .ok (.invokevirtual 91, 3) := by decide +kernel
theorem dL_law_303 : decode cL_law 303 = .ok (.istore 6, 2) := by decide +kernel
theorem dL_law_305 : decode cL_law 305 = .ok (.aload_n 2, 1) := by decide +kernel
theorem dL_law_306 : decode cL_law 306 = .ok (.invokevirtual 80, 3) := by decide +kernel
theorem dL_law_309 : decode cL_law 309 = .ok (.iload 5, 2) := by decide +kernel
theorem dL_law_311 : decode cL_law 311 = .ok (.if_icmp .eq 5, 3) := by decide +kernel
theorem dL_law_314 : decode cL_law 314 = .ok (.iconst 0, 1) := by decide +kernel
theorem dL_law_315 : decode cL_law 315 = .ok (.ireturn, 1) := by decide +kernel
theorem dL_law_316 : decode cL_law 316 = .ok (.iload 5, 2) := by decide +kernel
theorem dL_law_318 : decode cL_law 318 = .ok (.ifCond .ne 15, 3) := by decide +kernel
theorem dL_law_321 : decode cL_law 321 = .ok (.aload_n 3, 1) := by decide +kernel
theorem dL_law_322 : decode cL_law 322 = .ok (.iconst 0, 1) := by decide +kernel
theorem dL_law_323 : decode cL_law 323 = .ok (.laload, 1) := by decide +kernel
theorem dL_law_324 : decode cL_law 324 = .ok (.iload 6, 2) := by decide +kernel
theorem dL_law_326 : decode cL_law 326 = .ok (.i2l, 1) := by decide +kernel
theorem dL_law_327 : decode cL_law 327 = .ok (.lcmp, 1) := by decide +kernel
theorem dL_law_328 : decode cL_law 328 = .ok (.ifCond .eq 5, 3) := by decide +kernel
theorem dL_law_331 : decode cL_law 331 = .ok (.iconst 0, 1) := by decide +kernel
theorem dL_law_332 : decode cL_law 332 = .ok (.ireturn, 1) := by decide +kernel
theorem dL_law_333 : decode cL_law 333 = .ok (.goto 866, 3) := by decide +kernel
theorem dL_law_336 : decode cL_law 336 = .ok (.aload_n 1, 1) := by decide +kernel
theorem dL_law_337 : decode cL_law 337 = .ok (.aload_n 0, 1) := by decide +kernel
theorem dL_law_338 : decode cL_law 338 = .ok (.iload 4, 2) := by decide +kernel
theorem dL_law_340 : decode cL_law 340 = .ok (.iconst 1, 1) := by decide +kernel
theorem dL_law_341 : decode cL_law 341 = .ok (.iadd, 1) := by decide +kernel
theorem dL_law_342 : decode cL_law 342 = .ok (.iaload, 1) := by decide +kernel
theorem dL_law_343 : decode cL_law 343 = .ok (.aload_n 3, 1) := by decide +kernel
theorem dL_law_344 : decode cL_law 344 = .ok (.invokestatic 92, 3) := by decide +kernel
theorem dL_law_347 : decode cL_law 347 = .ok (.istore 5, 2) := by decide +kernel
theorem dL_law_349 : decode cL_law 349 = .ok (.aload_n 2, 1) := by decide +kernel
theorem dL_law_350 : decode cL_law 350 = .ok (.aload_n 0, 1) := by decide +kernel
theorem dL_law_351 : decode cL_law 351 = .ok (.iload 4, 2) := by decide +kernel
theorem dL_law_353 : decode cL_law 353 = .ok (.iconst 1, 1) := by decide +kernel
theorem dL_law_354 : decode cL_law 354 = .ok (.iadd, 1) := by decide +kernel
theorem dL_law_355 : decode cL_law 355 = .ok (.iaload, 1) := by decide +kernel
theorem dL_law_356 : decode cL_law 356 = .ok (.invokevirtual 94, 3) := by decide +kernel
theorem dL_law_359 : decode cL_law 359 = .ok (.istore 6, 2) := by decide +kernel
theorem dL_law_361 : decode cL_law 361 = .ok (.aload_n 2, 1) := by decide +kernel
theorem dL_law_362 : decode cL_law 362 = .ok (.invokevirtual 80, 3) := by decide +kernel
theorem dL_law_365 : decode cL_law 365 = .ok (.iload 5, 2) := by decide +kernel
theorem dL_law_367 : decode cL_law 367 = .ok (.if_icmp .eq 5, 3) := by decide +kernel
theorem dL_law_370 : decode cL_law 370 = .ok (.iconst 0, 1) := by decide +kernel
theorem dL_law_371 : decode cL_law 371 = .ok (.ireturn, 1) := by decide +kernel
theorem dL_law_372 : decode cL_law 372 = .ok (.iload 5, 2) := by decide +kernel
theorem dL_law_374 : decode cL_law 374 = .ok (.ifCond .ne 15, 3) := by decide +kernel
theorem dL_law_377 : decode cL_law 377 = .ok (.aload_n 3, 1) := by decide +kernel
theorem dL_law_378 : decode cL_law 378 = .ok (.iconst 0, 1) := by decide +kernel
theorem dL_law_379 : decode cL_law 379 = .ok (.laload, 1) := by decide +kernel
theorem dL_law_380 : decode cL_law 380 = .ok (.iload 6, 2) := by decide +kernel
theorem dL_law_382 : decode cL_law 382 = .ok (.i2l, 1) := by decide +kernel
theorem dL_law_383 : decode cL_law 383 = .ok (.lcmp, 1) := by decide +kernel
theorem dL_law_384 : decode cL_law 384 = .ok (.ifCond .eq 5, 3) := by decide +kernel
theorem dL_law_387 : decode cL_law 387 = .ok (.iconst 0, 1) := by decide +kernel
theorem dL_law_388 : decode cL_law 388 = .ok (.ireturn, 1) := by decide +kernel
theorem dL_law_389 : decode cL_law 389 = .ok (.goto 810, 3) := by decide +kernel
theorem dL_law_392 : decode cL_law 392 = .ok (.aload_n 1, 1) := by decide +kernel
theorem dL_law_393 : decode cL_law 393 = .ok (.aload_n 0, 1) := by decide +kernel
theorem dL_law_394 : decode cL_law 394 = .ok (.iload 4, 2) := by decide +kernel
theorem dL_law_396 : decode cL_law 396 = .ok (.iconst 1, 1) := by decide +kernel
theorem dL_law_397 : decode cL_law 397 = .ok (.iadd, 1) := by decide +kernel
theorem dL_law_398 : decode cL_law 398 = .ok (.iaload, 1) := by decide +kernel
theorem dL_law_399 : decode cL_law 399 = .ok (.aload_n 0, 1) := by decide +kernel
theorem dL_law_400 : decode cL_law 400 = .ok (.iload 4, 2) := by decide +kernel
theorem dL_law_402 : decode cL_law 402 = .ok (.iconst 2, 1) := by decide +kernel
theorem dL_law_403 : decode cL_law 403 = .ok (.iadd, 1) := by decide +kernel
theorem dL_law_404 : decode cL_law 404 = .ok (.iaload, 1) := by decide +kernel
theorem dL_law_405 : decode cL_law 405 = .ok (.aload_n 3, 1) := by decide +kernel
theorem dL_law_406 : decode cL_law 406 = .ok (.invokestatic 95, 3) := by decide +kernel
theorem dL_law_409 : decode cL_law 409 = .ok (.istore 5, 2) := by decide +kernel
theorem dL_law_411 : decode cL_law 411 = .ok (.aload_n 2, 1) := by decide +kernel
theorem dL_law_412 : decode cL_law 412 = .ok (.aload_n 0, 1) := by decide +kernel
theorem dL_law_413 : decode cL_law 413 = .ok (.iload 4, 2) := by decide +kernel
theorem dL_law_415 : decode cL_law 415 = .ok (.iconst 1, 1) := by decide +kernel
theorem dL_law_416 : decode cL_law 416 = .ok (.iadd, 1) := by decide +kernel
theorem dL_law_417 : decode cL_law 417 = .ok (.iaload, 1) := by decide +kernel
theorem dL_law_418 : decode cL_law 418 = .ok (.aload_n 0, 1) := by decide +kernel
theorem dL_law_419 : decode cL_law 419 = .ok (.iload 4, 2) := by decide +kernel
theorem dL_law_421 : decode cL_law 421 = .ok (.iconst 2, 1) := by decide +kernel
theorem dL_law_422 : decode cL_law 422 = .ok (.iadd, 1) := by decide +kernel
theorem dL_law_423 : decode cL_law 423 = .ok (.iaload, 1) := by decide +kernel
theorem dL_law_424 : decode cL_law 424 = .ok (.invokevirtual 97, 3) := by decide +kernel
theorem dL_law_427 : decode cL_law 427 = .ok (.istore 6, 2) := by decide +kernel
theorem dL_law_429 : decode cL_law 429 = .ok (.aload_n 2, 1) := by decide +kernel
theorem dL_law_430 : decode cL_law 430 = .ok (.invokevirtual 80, 3) := by decide +kernel
theorem dL_law_433 : decode cL_law 433 = .ok (.iload 5, 2) := by decide +kernel
theorem dL_law_435 : decode cL_law 435 = .ok (.if_icmp .eq 5, 3) := by decide +kernel
theorem dL_law_438 : decode cL_law 438 = .ok (.iconst 0, 1) := by decide +kernel
theorem dL_law_439 : decode cL_law 439 = .ok (.ireturn, 1) := by decide +kernel
theorem dL_law_440 : decode cL_law 440 = .ok (.iload 5, 2) := by decide +kernel
theorem dL_law_442 : decode cL_law 442 = .ok (.ifCond .ne 15, 3) := by decide +kernel
theorem dL_law_445 : decode cL_law 445 = .ok (.aload_n 3, 1) := by decide +kernel
theorem dL_law_446 : decode cL_law 446 = .ok (.iconst 0, 1) := by decide +kernel
theorem dL_law_447 : decode cL_law 447 = .ok (.laload, 1) := by decide +kernel
theorem dL_law_448 : decode cL_law 448 = .ok (.iload 6, 2) := by decide +kernel
theorem dL_law_450 : decode cL_law 450 = .ok (.i2l, 1) := by decide +kernel
theorem dL_law_451 : decode cL_law 451 = .ok (.lcmp, 1) := by decide +kernel
theorem dL_law_452 : decode cL_law 452 = .ok (.ifCond .eq 5, 3) := by decide +kernel
theorem dL_law_455 : decode cL_law 455 = .ok (.iconst 0, 1) := by decide +kernel
theorem dL_law_456 : decode cL_law 456 = .ok (.ireturn, 1) := by decide +kernel
theorem dL_law_457 : decode cL_law 457 = .ok (.goto 742, 3) := by decide +kernel
theorem dL_law_460 : decode cL_law 460 = .ok (.aload_n 1, 1) := by decide +kernel
theorem dL_law_461 : decode cL_law 461 = .ok (.aload_n 0, 1) := by decide +kernel
theorem dL_law_462 : decode cL_law 462 = .ok (.iload 4, 2) := by decide +kernel
theorem dL_law_464 : decode cL_law 464 = .ok (.iconst 1, 1) := by decide +kernel
theorem dL_law_465 : decode cL_law 465 = .ok (.iadd, 1) := by decide +kernel
theorem dL_law_466 : decode cL_law 466 = .ok (.iaload, 1) := by decide +kernel
theorem dL_law_467 : decode cL_law 467 = .ok (.aload_n 0, 1) := by decide +kernel
theorem dL_law_468 : decode cL_law 468 = .ok (.iload 4, 2) := by decide +kernel
theorem dL_law_470 : decode cL_law 470 = .ok (.iconst 2, 1) := by decide +kernel
theorem dL_law_471 : decode cL_law 471 = .ok (.iadd, 1) := by decide +kernel
theorem dL_law_472 : decode cL_law 472 = .ok (.iaload, 1) := by decide +kernel
theorem dL_law_473 : decode cL_law 473 = .ok (.aload_n 3, 1) := by decide +kernel
theorem dL_law_474 : decode cL_law 474 = .ok (.invokestatic 98, 3) := by decide +kernel
theorem dL_law_477 : decode cL_law 477 = .ok (.istore 5, 2) := by decide +kernel
theorem dL_law_479 : decode cL_law 479 = .ok (.aload_n 2, 1) := by decide +kernel
theorem dL_law_480 : decode cL_law 480 = .ok (.aload_n 0, 1) := by decide +kernel
theorem dL_law_481 : decode cL_law 481 = .ok (.iload 4, 2) := by decide +kernel
theorem dL_law_483 : decode cL_law 483 = .ok (.iconst 1, 1) := by decide +kernel
theorem dL_law_484 : decode cL_law 484 = .ok (.iadd, 1) := by decide +kernel
theorem dL_law_485 : decode cL_law 485 = .ok (.iaload, 1) := by decide +kernel
theorem dL_law_486 : decode cL_law 486 = .ok (.aload_n 0, 1) := by decide +kernel
theorem dL_law_487 : decode cL_law 487 = .ok (.iload 4, 2) := by decide +kernel
theorem dL_law_489 : decode cL_law 489 = .ok (.iconst 2, 1) := by decide +kernel
theorem dL_law_490 : decode cL_law 490 = .ok (.iadd, 1) := by decide +kernel
theorem dL_law_491 : decode cL_law 491 = .ok (.iaload, 1) := by decide +kernel
theorem dL_law_492 : decode cL_law 492 = .ok (.invokevirtual 100, 3) := by decide +kernel
theorem dL_law_495 : decode cL_law 495 = .ok (.istore 6, 2) := by decide +kernel
theorem dL_law_497 : decode cL_law 497 = .ok (.aload_n 2, 1) := by decide +kernel
theorem dL_law_498 : decode cL_law 498 = .ok (.invokevirtual 80, 3) := by decide +kernel
theorem dL_law_501 : decode cL_law 501 = .ok (.iload 5, 2) := by decide +kernel
theorem dL_law_503 : decode cL_law 503 = .ok (.if_icmp .eq 5, 3) := by decide +kernel
theorem dL_law_506 : decode cL_law 506 = .ok (.iconst 0, 1) := by decide +kernel
theorem dL_law_507 : decode cL_law 507 = .ok (.ireturn, 1) := by decide +kernel
theorem dL_law_508 : decode cL_law 508 = .ok (.iload 5, 2) := by decide +kernel
theorem dL_law_510 : decode cL_law 510 = .ok (.ifCond .ne 15, 3) := by decide +kernel
theorem dL_law_513 : decode cL_law 513 = .ok (.aload_n 3, 1) := by decide +kernel
theorem dL_law_514 : decode cL_law 514 = .ok (.iconst 0, 1) := by decide +kernel
theorem dL_law_515 : decode cL_law 515 = .ok (.laload, 1) := by decide +kernel
theorem dL_law_516 : decode cL_law 516 = .ok (.iload 6, 2) := by decide +kernel
theorem dL_law_518 : decode cL_law 518 = .ok (.i2l, 1) := by decide +kernel
theorem dL_law_519 : decode cL_law 519 = .ok (.lcmp, 1) := by decide +kernel
theorem dL_law_520 : decode cL_law 520 = .ok (.ifCond .eq 5, 3) := by decide +kernel
theorem dL_law_523 : decode cL_law 523 = .ok (.iconst 0, 1) := by decide +kernel
theorem dL_law_524 : decode cL_law 524 = .ok (.ireturn, 1) := by decide +kernel
theorem dL_law_525 : decode cL_law 525 = .ok (.goto 674, 3) := by decide +kernel
theorem dL_law_528 : decode cL_law 528 = .ok (.aload_n 1, 1) := by decide +kernel
theorem dL_law_529 : decode cL_law 529 = .ok (.aload_n 0, 1) := by decide +kernel
theorem dL_law_530 : decode cL_law 530 = .ok (.iload 4, 2) := by decide +kernel
theorem dL_law_532 : decode cL_law 532 = .ok (.iconst 1, 1) := by decide +kernel
theorem dL_law_533 : decode cL_law 533 = .ok (.iadd, 1) := by decide +kernel
theorem dL_law_534 : decode cL_law 534 = .ok (.iaload, 1) := by decide +kernel
theorem dL_law_535 : decode cL_law 535 = .ok (.aload_n 0, 1) := by decide +kernel
theorem dL_law_536 : decode cL_law 536 = .ok (.iload 4, 2) := by decide +kernel
theorem dL_law_538 : decode cL_law 538 = .ok (.iconst 2, 1) := by decide +kernel
theorem dL_law_539 : decode cL_law 539 = .ok (.iadd, 1) := by decide +kernel
theorem dL_law_540 : decode cL_law 540 = .ok (.iaload, 1) := by decide +kernel
theorem dL_law_541 : decode cL_law 541 = .ok (.aload_n 0, 1) := by decide +kernel
theorem dL_law_542 : decode cL_law 542 = .ok (.iload 4, 2) := by decide +kernel
theorem dL_law_544 : decode cL_law 544 = .ok (.iconst 3, 1) := by decide +kernel
theorem dL_law_545 : decode cL_law 545 = .ok (.iadd, 1) := by decide +kernel
theorem dL_law_546 : decode cL_law 546 = .ok (.iaload, 1) := by decide +kernel
theorem dL_law_547 : decode cL_law 547 = .ok (.invokestatic 101, 3) := by decide +kernel
theorem dL_law_550 : decode cL_law 550 = .ok (.istore 5, 2) := by decide +kernel
theorem dL_law_552 : decode cL_law 552 = .ok (.aload_n 2, 1) := by decide +kernel
theorem dL_law_553 : decode cL_law 553 = .ok (.aload_n 0, 1) := by decide +kernel
theorem dL_law_554 : decode cL_law 554 = .ok (.iload 4, 2) := by decide +kernel
theorem dL_law_556 : decode cL_law 556 = .ok (.iconst 1, 1) := by decide +kernel
theorem dL_law_557 : decode cL_law 557 = .ok (.iadd, 1) := by decide +kernel
theorem dL_law_558 : decode cL_law 558 = .ok (.iaload, 1) := by decide +kernel
theorem dL_law_559 : decode cL_law 559 = .ok (.aload_n 0, 1) := by decide +kernel
theorem dL_law_560 : decode cL_law 560 = .ok (.iload 4, 2) := by decide +kernel
theorem dL_law_562 : decode cL_law 562 = .ok (.iconst 2, 1) := by decide +kernel
theorem dL_law_563 : decode cL_law 563 = .ok (.iadd, 1) := by decide +kernel
theorem dL_law_564 : decode cL_law 564 = .ok (.iaload, 1) := by decide +kernel
theorem dL_law_565 : decode cL_law 565 = .ok (.aload_n 0, 1) := by decide +kernel
theorem dL_law_566 : decode cL_law 566 = .ok (.iload 4, 2) := by decide +kernel
theorem dL_law_568 : decode cL_law 568 = .ok (.iconst 3, 1) := by decide +kernel
theorem dL_law_569 : decode cL_law 569 = .ok (.iadd, 1) := by decide +kernel
theorem dL_law_570 : decode cL_law 570 = .ok (.iaload, 1) := by decide +kernel
theorem dL_law_571 : decode cL_law 571 = .ok (.invokevirtual 104, 3) := by decide +kernel
theorem dL_law_574 : decode cL_law 574 = .ok (.aload_n 2, 1) := by decide +kernel
theorem dL_law_575 : decode cL_law 575 = .ok (.invokevirtual 80, 3) := by decide +kernel
theorem dL_law_578 : decode cL_law 578 = .ok (.iload 5, 2) := by decide +kernel
theorem dL_law_580 : decode cL_law 580 = .ok (.if_icmp .eq 5, 3) := by decide +kernel
theorem dL_law_583 : decode cL_law 583 = .ok (.iconst 0, 1) := by decide +kernel
theorem dL_law_584 : decode cL_law 584 = .ok (.ireturn, 1) := by decide +kernel
theorem dL_law_585 : decode cL_law 585 = .ok (.goto 614, 3) := by decide +kernel
theorem dL_law_588 : decode cL_law 588 = .ok (.aload_n 1, 1) := by decide +kernel
theorem dL_law_589 : decode cL_law 589 = .ok (.aload_n 0, 1) := by decide +kernel
theorem dL_law_590 : decode cL_law 590 = .ok (.iload 4, 2) := by decide +kernel
theorem dL_law_592 : decode cL_law 592 = .ok (.iconst 1, 1) := by decide +kernel
theorem dL_law_593 : decode cL_law 593 = .ok (.iadd, 1) := by decide +kernel
theorem dL_law_594 : decode cL_law 594 = .ok (.iaload, 1) := by decide +kernel
theorem dL_law_595 : decode cL_law 595 = .ok (.aload_n 3, 1) := by decide +kernel
theorem dL_law_596 : decode cL_law 596 = .ok (.invokestatic 105, 3) := by decide +kernel
theorem dL_law_599 : decode cL_law 599 = .ok (.istore 5, 2) := by decide +kernel
theorem dL_law_601 : decode cL_law 601 = .ok (.aload_n 2, 1) := by decide +kernel
theorem dL_law_602 : decode cL_law 602 = .ok (.aload_n 0, 1) := by decide +kernel
theorem dL_law_603 : decode cL_law 603 = .ok (.iload 4, 2) := by decide +kernel
theorem dL_law_605 : decode cL_law 605 = .ok (.iconst 1, 1) := by decide +kernel
theorem dL_law_606 : decode cL_law 606 = .ok (.iadd, 1) := by decide +kernel
theorem dL_law_607 : decode cL_law 607 = .ok (.iaload, 1) := by decide +kernel
theorem dL_law_608 : decode cL_law 608 = .ok (.invokevirtual 107, 3) := by decide +kernel
theorem dL_law_611 : decode cL_law 611 = .ok (.istore 6, 2) := by decide +kernel
theorem dL_law_613 : decode cL_law 613 = .ok (.aload_n 2, 1) := by decide +kernel
theorem dL_law_614 : decode cL_law 614 = .ok (.invokevirtual 80, 3) := by decide +kernel
theorem dL_law_617 : decode cL_law 617 = .ok (.iload 5, 2) := by decide +kernel
theorem dL_law_619 : decode cL_law 619 = .ok (.if_icmp .eq 5, 3) := by decide +kernel
theorem dL_law_622 : decode cL_law 622 = .ok (.iconst 0, 1) := by decide +kernel
theorem dL_law_623 : decode cL_law 623 = .ok (.ireturn, 1) := by decide +kernel
theorem dL_law_624 : decode cL_law 624 = .ok (.iload 5, 2) := by decide +kernel
theorem dL_law_626 : decode cL_law 626 = .ok (.ifCond .ne 15, 3) := by decide +kernel
theorem dL_law_629 : decode cL_law 629 = .ok (.aload_n 3, 1) := by decide +kernel
theorem dL_law_630 : decode cL_law 630 = .ok (.iconst 0, 1) := by decide +kernel
theorem dL_law_631 : decode cL_law 631 = .ok (.laload, 1) := by decide +kernel
theorem dL_law_632 : decode cL_law 632 = .ok (.iload 6, 2) := by decide +kernel
theorem dL_law_634 : decode cL_law 634 = .ok (.i2l, 1) := by decide +kernel
theorem dL_law_635 : decode cL_law 635 = .ok (.lcmp, 1) := by decide +kernel
theorem dL_law_636 : decode cL_law 636 = .ok (.ifCond .eq 5, 3) := by decide +kernel
theorem dL_law_639 : decode cL_law 639 = .ok (.iconst 0, 1) := by decide +kernel
theorem dL_law_640 : decode cL_law 640 = .ok (.ireturn, 1) := by decide +kernel
theorem dL_law_641 : decode cL_law 641 = .ok (.goto 558, 3) := by decide +kernel
theorem dL_law_644 : decode cL_law 644 = .ok (.aload_n 1, 1) := by decide +kernel
theorem dL_law_645 : decode cL_law 645 = .ok (.aload_n 0, 1) := by decide +kernel
theorem dL_law_646 : decode cL_law 646 = .ok (.iload 4, 2) := by decide +kernel
theorem dL_law_648 : decode cL_law 648 = .ok (.iconst 1, 1) := by decide +kernel
theorem dL_law_649 : decode cL_law 649 = .ok (.iadd, 1) := by decide +kernel
theorem dL_law_650 : decode cL_law 650 = .ok (.iaload, 1) := by decide +kernel
theorem dL_law_651 : decode cL_law 651 = .ok (.aload_n 3, 1) := by decide +kernel
theorem dL_law_652 : decode cL_law 652 = .ok (.invokestatic 108, 3) := by decide +kernel
theorem dL_law_655 : decode cL_law 655 = .ok (.istore 5, 2) := by decide +kernel
theorem dL_law_657 : decode cL_law 657 = .ok (.aload_n 2, 1) := by decide +kernel
theorem dL_law_658 : decode cL_law 658 = .ok (.aload_n 0, 1) := by decide +kernel
theorem dL_law_659 : decode cL_law 659 = .ok (.iload 4, 2) := by decide +kernel
theorem dL_law_661 : decode cL_law 661 = .ok (.iconst 1, 1) := by decide +kernel
theorem dL_law_662 : decode cL_law 662 = .ok (.iadd, 1) := by decide +kernel
theorem dL_law_663 : decode cL_law 663 = .ok (.iaload, 1) := by decide +kernel
theorem dL_law_664 : decode cL_law 664 = .ok (.invokevirtual 110, 3) := by decide +kernel
theorem dL_law_667 : decode cL_law 667 = .ok (.istore 6, 2) := by decide +kernel
theorem dL_law_669 : decode cL_law 669 = .ok (.aload_n 2, 1) := by decide +kernel
theorem dL_law_670 : decode cL_law 670 = .ok (.invokevirtual 80, 3) := by decide +kernel
theorem dL_law_673 : decode cL_law 673 = .ok (.iload 5, 2) := by decide +kernel
theorem dL_law_675 : decode cL_law 675 = .ok (.if_icmp .eq 5, 3) := by decide +kernel
theorem dL_law_678 : decode cL_law 678 = .ok (.iconst 0, 1) := by decide +kernel
theorem dL_law_679 : decode cL_law 679 = .ok (.ireturn, 1) := by decide +kernel
theorem dL_law_680 : decode cL_law 680 = .ok (.iload 5, 2) := by decide +kernel
theorem dL_law_682 : decode cL_law 682 = .ok (.ifCond .ne 15, 3) := by decide +kernel
theorem dL_law_685 : decode cL_law 685 = .ok (.aload_n 3, 1) := by decide +kernel
theorem dL_law_686 : decode cL_law 686 = .ok (.iconst 0, 1) := by decide +kernel
theorem dL_law_687 : decode cL_law 687 = .ok (.laload, 1) := by decide +kernel
theorem dL_law_688 : decode cL_law 688 = .ok (.iload 6, 2) := by decide +kernel
theorem dL_law_690 : decode cL_law 690 = .ok (.i2l, 1) := by decide +kernel
theorem dL_law_691 : decode cL_law 691 = .ok (.lcmp, 1) := by decide +kernel
theorem dL_law_692 : decode cL_law 692 = .ok (.ifCond .eq 5, 3) := by decide +kernel
theorem dL_law_695 : decode cL_law 695 = .ok (.iconst 0, 1) := by decide +kernel
theorem dL_law_696 : decode cL_law 696 = .ok (.ireturn, 1) := by decide +kernel
theorem dL_law_697 : decode cL_law 697 = .ok (.goto 502, 3) := by decide +kernel
theorem dL_law_700 : decode cL_law 700 = .ok (.aload_n 1, 1) := by decide +kernel
theorem dL_law_701 : decode cL_law 701 = .ok (.aload_n 0, 1) := by decide +kernel
theorem dL_law_702 : decode cL_law 702 = .ok (.iload 4, 2) := by decide +kernel
theorem dL_law_704 : decode cL_law 704 = .ok (.iconst 1, 1) := by decide +kernel
theorem dL_law_705 : decode cL_law 705 = .ok (.iadd, 1) := by decide +kernel
theorem dL_law_706 : decode cL_law 706 = .ok (.iaload, 1) := by decide +kernel
theorem dL_law_707 : decode cL_law 707 = .ok (.aload_n 3, 1) := by decide +kernel
theorem dL_law_708 : decode cL_law 708 = .ok (.invokestatic 111, 3) := by decide +kernel
theorem dL_law_711 : decode cL_law 711 = .ok (.istore 5, 2) := by decide +kernel
theorem dL_law_713 : decode cL_law 713 = .ok (.aload_n 2, 1) := by decide +kernel
theorem dL_law_714 : decode cL_law 714 = .ok (.aload_n 0, 1) := by decide +kernel
theorem dL_law_715 : decode cL_law 715 = .ok (.iload 4, 2) := by decide +kernel
theorem dL_law_717 : decode cL_law 717 = .ok (.iconst 1, 1) := by decide +kernel
theorem dL_law_718 : decode cL_law 718 = .ok (.iadd, 1) := by decide +kernel
theorem dL_law_719 : decode cL_law 719 = .ok (.iaload, 1) := by decide +kernel
theorem dL_law_720 : decode cL_law 720 = .ok (.invokevirtual 113, 3) := by decide +kernel
theorem dL_law_723 : decode cL_law 723 = .ok (.istore 6, 2) := by decide +kernel
theorem dL_law_725 : decode cL_law 725 = .ok (.aload_n 2, 1) := by decide +kernel
theorem dL_law_726 : decode cL_law 726 = .ok (.invokevirtual 80, 3) := by decide +kernel
theorem dL_law_729 : decode cL_law 729 = .ok (.iload 5, 2) := by decide +kernel
theorem dL_law_731 : decode cL_law 731 = .ok (.if_icmp .eq 5, 3) := by decide +kernel
theorem dL_law_734 : decode cL_law 734 = .ok (.iconst 0, 1) := by decide +kernel
theorem dL_law_735 : decode cL_law 735 = .ok (.ireturn, 1) := by decide +kernel
theorem dL_law_736 : decode cL_law 736 = .ok (.iload 5, 2) := by decide +kernel
theorem dL_law_738 : decode cL_law 738 = .ok (.ifCond .ne 15, 3) := by decide +kernel
theorem dL_law_741 : decode cL_law 741 = .ok (.aload_n 3, 1) := by decide +kernel
theorem dL_law_742 : decode cL_law 742 = .ok (.iconst 0, 1) := by decide +kernel
theorem dL_law_743 : decode cL_law 743 = .ok (.laload, 1) := by decide +kernel
theorem dL_law_744 : decode cL_law 744 = .ok (.iload 6, 2) := by decide +kernel
theorem dL_law_746 : decode cL_law 746 = .ok (.i2l, 1) := by decide +kernel
theorem dL_law_747 : decode cL_law 747 = .ok (.lcmp, 1) := by decide +kernel
theorem dL_law_748 : decode cL_law 748 = .ok (.ifCond .eq 5, 3) := by decide +kernel
theorem dL_law_751 : decode cL_law 751 = .ok (.iconst 0, 1) := by decide +kernel
theorem dL_law_752 : decode cL_law 752 = .ok (.ireturn, 1) := by decide +kernel
theorem dL_law_753 : decode cL_law 753 = .ok (.goto 446, 3) := by decide +kernel
theorem dL_law_756 : decode cL_law 756 = .ok (.aload_n 1, 1) := by decide +kernel
theorem dL_law_757 : decode cL_law 757 = .ok (.invokevirtual 114, 3) := by decide +kernel
theorem dL_law_760 : decode cL_law 760 = .ok (.aload_n 2, 1) := by decide +kernel
theorem dL_law_761 : decode cL_law 761 = .ok (.invokevirtual 117, 3) := by decide +kernel
theorem dL_law_764 : decode cL_law 764 = .ok (.if_icmp .eq 435, 3) := by decide +kernel
theorem dL_law_767 : decode cL_law 767 = .ok (.iconst 0, 1) := by decide +kernel
theorem dL_law_768 : decode cL_law 768 = .ok (.ireturn, 1) := by decide +kernel
theorem dL_law_769 : decode cL_law 769 = .ok (.aload_n 1, 1) := by decide +kernel
theorem dL_law_770 : decode cL_law 770 = .ok (.invokevirtual 118, 3) := by decide +kernel
theorem dL_law_773 : decode cL_law 773 = .ok (.aload_n 2, 1) := by decide +kernel
theorem dL_law_774 : decode cL_law 774 = .ok (.invokevirtual 121, 3) := by decide +kernel
theorem dL_law_777 : decode cL_law 777 = .ok (.if_icmp .eq 422, 3) := by decide +kernel
theorem dL_law_780 : decode cL_law 780 = .ok (.iconst 0, 1) := by decide +kernel
theorem dL_law_781 : decode cL_law 781 = .ok (.ireturn, 1) := by decide +kernel
theorem dL_law_782 : decode cL_law 782 = .ok (.aload_n 1, 1) := by decide +kernel
theorem dL_law_783 : decode cL_law 783 = .ok (.aload_n 0, 1) := by decide +kernel
theorem dL_law_784 : decode cL_law 784 = .ok (.iload 4, 2) := by decide +kernel
theorem dL_law_786 : decode cL_law 786 = .ok (.iconst 1, 1) := by decide +kernel
theorem dL_law_787 : decode cL_law 787 = .ok (.iadd, 1) := by decide +kernel
theorem dL_law_788 : decode cL_law 788 = .ok (.iaload, 1) := by decide +kernel
theorem dL_law_789 : decode cL_law 789 = .ok (.aload_n 3, 1) := by decide +kernel
theorem dL_law_790 : decode cL_law 790 = .ok (.invokestatic 122, 3) := by decide +kernel
theorem dL_law_793 : decode cL_law 793 = .ok (.istore 5, 2) := by decide +kernel
theorem dL_law_795 : decode cL_law 795 = .ok (.aload_n 2, 1) := by decide +kernel
theorem dL_law_796 : decode cL_law 796 = .ok (.aload_n 0, 1) := by decide +kernel
theorem dL_law_797 : decode cL_law 797 = .ok (.iload 4, 2) := by decide +kernel
theorem dL_law_799 : decode cL_law 799 = .ok (.iconst 1, 1) := by decide +kernel
theorem dL_law_800 : decode cL_law 800 = .ok (.iadd, 1) := by decide +kernel
theorem dL_law_801 : decode cL_law 801 = .ok (.iaload, 1) := by decide +kernel
theorem dL_law_802 : decode cL_law 802 = .ok (.invokevirtual 124, 3) := by decide +kernel
theorem dL_law_805 : decode cL_law 805 = .ok (.istore 6, 2) := by decide +kernel
theorem dL_law_807 : decode cL_law 807 = .ok (.aload_n 2, 1) := by decide +kernel
theorem dL_law_808 : decode cL_law 808 = .ok (.invokevirtual 80, 3) := by decide +kernel
theorem dL_law_811 : decode cL_law 811 = .ok (.iload 5, 2) := by decide +kernel
theorem dL_law_813 : decode cL_law 813 = .ok (.if_icmp .eq 5, 3) := by decide +kernel
theorem dL_law_816 : decode cL_law 816 = .ok (.iconst 0, 1) := by decide +kernel
theorem dL_law_817 : decode cL_law 817 = .ok (.ireturn, 1) := by decide +kernel
theorem dL_law_818 : decode cL_law 818 = .ok (.iload 5, 2) := by decide +kernel
theorem dL_law_820 : decode cL_law 820 = .ok (.ifCond .ne 15, 3) := by decide +kernel
theorem dL_law_823 : decode cL_law 823 = .ok (.aload_n 3, 1) := by decide +kernel
theorem dL_law_824 : decode cL_law 824 = .ok (.iconst 0, 1) := by decide +kernel
theorem dL_law_825 : decode cL_law 825 = .ok (.laload, 1) := by decide +kernel
theorem dL_law_826 : decode cL_law 826 = .ok (.iload 6, 2) := by decide +kernel
theorem dL_law_828 : decode cL_law 828 = .ok (.i2l, 1) := by decide +kernel
theorem dL_law_829 : decode cL_law 829 = .ok (.lcmp, 1) := by decide +kernel
theorem dL_law_830 : decode cL_law 830 = .ok (.ifCond .eq 5, 3) := by decide +kernel
theorem dL_law_833 : decode cL_law 833 = .ok (.iconst 0, 1) := by decide +kernel
theorem dL_law_834 : decode cL_law 834 = .ok (.ireturn, 1) := by decide +kernel
theorem dL_law_835 : decode cL_law 835 = .ok (.goto 364, 3) := by decide +kernel
theorem dL_law_838 : decode cL_law 838 = .ok (.aload_n 1, 1) := by decide +kernel
theorem dL_law_839 : decode cL_law 839 = .ok (.aload_n 0, 1) := by decide +kernel
theorem dL_law_840 : decode cL_law 840 = .ok (.iload 4, 2) := by decide +kernel
theorem dL_law_842 : decode cL_law 842 = .ok (.iconst 1, 1) := by decide +kernel
theorem dL_law_843 : decode cL_law 843 = .ok (.iadd, 1) := by decide +kernel
theorem dL_law_844 : decode cL_law 844 = .ok (.iaload, 1) := by decide +kernel
theorem dL_law_845 : decode cL_law 845 = .ok (.aload_n 0, 1) := by decide +kernel
theorem dL_law_846 : decode cL_law 846 = .ok (.iload 4, 2) := by decide +kernel
theorem dL_law_848 : decode cL_law 848 = .ok (.iconst 2, 1) := by decide +kernel
theorem dL_law_849 : decode cL_law 849 = .ok (.iadd, 1) := by decide +kernel
theorem dL_law_850 : decode cL_law 850 = .ok (.iaload, 1) := by decide +kernel
theorem dL_law_851 : decode cL_law 851 = .ok (.aload_n 3, 1) := by decide +kernel
theorem dL_law_852 : decode cL_law 852 = .ok (.invokestatic 125, 3) := by decide +kernel
theorem dL_law_855 : decode cL_law 855 = .ok (.istore 5, 2) := by decide +kernel
theorem dL_law_857 : decode cL_law 857 = .ok (.aload_n 2, 1) := by decide +kernel
theorem dL_law_858 : decode cL_law 858 = .ok (.aload_n 0, 1) := by decide +kernel
theorem dL_law_859 : decode cL_law 859 = .ok (.iload 4, 2) := by decide +kernel
theorem dL_law_861 : decode cL_law 861 = .ok (.iconst 1, 1) := by decide +kernel
theorem dL_law_862 : decode cL_law 862 = .ok (.iadd, 1) := by decide +kernel
theorem dL_law_863 : decode cL_law 863 = .ok (.iaload, 1) := by decide +kernel
theorem dL_law_864 : decode cL_law 864 = .ok (.aload_n 0, 1) := by decide +kernel
theorem dL_law_865 : decode cL_law 865 = .ok (.iload 4, 2) := by decide +kernel
theorem dL_law_867 : decode cL_law 867 = .ok (.iconst 2, 1) := by decide +kernel
theorem dL_law_868 : decode cL_law 868 = .ok (.iadd, 1) := by decide +kernel
theorem dL_law_869 : decode cL_law 869 = .ok (.iaload, 1) := by decide +kernel
theorem dL_law_870 : decode cL_law 870 = .ok (.invokevirtual 127, 3) := by decide +kernel
theorem dL_law_873 : decode cL_law 873 = .ok (.istore 6, 2) := by decide +kernel
theorem dL_law_875 : decode cL_law 875 = .ok (.aload_n 2, 1) := by decide +kernel
theorem dL_law_876 : decode cL_law 876 = .ok (.invokevirtual 80, 3) := by decide +kernel
theorem dL_law_879 : decode cL_law 879 = .ok (.iload 5, 2) := by decide +kernel
theorem dL_law_881 : decode cL_law 881 = .ok (.if_icmp .eq 5, 3) := by decide +kernel
theorem dL_law_884 : decode cL_law 884 = .ok (.iconst 0, 1) := by decide +kernel
theorem dL_law_885 : decode cL_law 885 = .ok (.ireturn, 1) := by decide +kernel
theorem dL_law_886 : decode cL_law 886 = .ok (.iload 5, 2) := by decide +kernel
theorem dL_law_888 : decode cL_law 888 = .ok (.ifCond .ne 15, 3) := by decide +kernel
theorem dL_law_891 : decode cL_law 891 = .ok (.aload_n 3, 1) := by decide +kernel
theorem dL_law_892 : decode cL_law 892 = .ok (.iconst 0, 1) := by decide +kernel
theorem dL_law_893 : decode cL_law 893 = .ok (.laload, 1) := by decide +kernel
theorem dL_law_894 : decode cL_law 894 = .ok (.iload 6, 2) := by decide +kernel
theorem dL_law_896 : decode cL_law 896 = .ok (.i2l, 1) := by decide +kernel
theorem dL_law_897 : decode cL_law 897 = .ok (.lcmp, 1) := by decide +kernel
theorem dL_law_898 : decode cL_law 898 = .ok (.ifCond .eq 5, 3) := by decide +kernel
theorem dL_law_901 : decode cL_law 901 = .ok (.iconst 0, 1) := by decide +kernel
theorem dL_law_902 : decode cL_law 902 = .ok (.ireturn, 1) := by decide +kernel
theorem dL_law_903 : decode cL_law 903 = .ok (.goto 296, 3) := by decide +kernel
theorem dL_law_906 : decode cL_law 906 = .ok (.aload_n 1, 1) := by decide +kernel
theorem dL_law_907 : decode cL_law 907 = .ok (.aload_n 0, 1) := by decide +kernel
theorem dL_law_908 : decode cL_law 908 = .ok (.iload 4, 2) := by decide +kernel
theorem dL_law_910 : decode cL_law 910 = .ok (.iconst 1, 1) := by decide +kernel
theorem dL_law_911 : decode cL_law 911 = .ok (.iadd, 1) := by decide +kernel
theorem dL_law_912 : decode cL_law 912 = .ok (.iaload, 1) := by decide +kernel
theorem dL_law_913 : decode cL_law 913 = .ok (.aload_n 3, 1) := by decide +kernel
theorem dL_law_914 : decode cL_law 914 = .ok (.invokestatic 128, 3) := by decide +kernel
theorem dL_law_917 : decode cL_law 917 = .ok (.istore 5, 2) := by decide +kernel
theorem dL_law_919 : decode cL_law 919 = .ok (.aload_n 2, 1) := by decide +kernel
theorem dL_law_920 : decode cL_law 920 = .ok (.aload_n 0, 1) := by decide +kernel
theorem dL_law_921 : decode cL_law 921 = .ok (.iload 4, 2) := by decide +kernel
theorem dL_law_923 : decode cL_law 923 = .ok (.iconst 1, 1) := by decide +kernel
theorem dL_law_924 : decode cL_law 924 = .ok (.iadd, 1) := by decide +kernel
theorem dL_law_925 : decode cL_law 925 = .ok (.iaload, 1) := by decide +kernel
theorem dL_law_926 : decode cL_law 926 = .ok (.invokevirtual 130, 3) := by decide +kernel
theorem dL_law_929 : decode cL_law 929 = .ok (.istore 6, 2) := by decide +kernel
theorem dL_law_931 : decode cL_law 931 = .ok (.aload_n 2, 1) := by decide +kernel
theorem dL_law_932 : decode cL_law 932 = .ok (.invokevirtual 80, 3) := by decide +kernel
theorem dL_law_935 : decode cL_law 935 = .ok (.iload 5, 2) := by decide +kernel
theorem dL_law_937 : decode cL_law 937 = .ok (.if_icmp .eq 5, 3) := by decide +kernel
theorem dL_law_940 : decode cL_law 940 = .ok (.iconst 0, 1) := by decide +kernel
theorem dL_law_941 : decode cL_law 941 = .ok (.ireturn, 1) := by decide +kernel
theorem dL_law_942 : decode cL_law 942 = .ok (.iload 5, 2) := by decide +kernel
theorem dL_law_944 : decode cL_law 944 = .ok (.ifCond .ne 15, 3) := by decide +kernel
theorem dL_law_947 : decode cL_law 947 = .ok (.aload_n 3, 1) := by decide +kernel
theorem dL_law_948 : decode cL_law 948 = .ok (.iconst 0, 1) := by decide +kernel
theorem dL_law_949 : decode cL_law 949 = .ok (.laload, 1) := by decide +kernel
theorem dL_law_950 : decode cL_law 950 = .ok (.iload 6, 2) := by decide +kernel
theorem dL_law_952 : decode cL_law 952 = .ok (.i2l, 1) := by decide +kernel
theorem dL_law_953 : decode cL_law 953 = .ok (.lcmp, 1) := by decide +kernel
theorem dL_law_954 : decode cL_law 954 = .ok (.ifCond .eq 5, 3) := by decide +kernel
theorem dL_law_957 : decode cL_law 957 = .ok (.iconst 0, 1) := by decide +kernel
theorem dL_law_958 : decode cL_law 958 = .ok (.ireturn, 1) := by decide +kernel
theorem dL_law_959 : decode cL_law 959 = .ok (.goto 240, 3) := by decide +kernel
theorem dL_law_962 : decode cL_law 962 = .ok (.aload_n 1, 1) := by decide +kernel
theorem dL_law_963 : decode cL_law 963 = .ok (.aload_n 0, 1) := by decide +kernel
theorem dL_law_964 : decode cL_law 964 = .ok (.iload 4, 2) := by decide +kernel
theorem dL_law_966 : decode cL_law 966 = .ok (.iconst 1, 1) := by decide +kernel
theorem dL_law_967 : decode cL_law 967 = .ok (.iadd, 1) := by decide +kernel
theorem dL_law_968 : decode cL_law 968 = .ok (.iaload, 1) := by decide +kernel
theorem dL_law_969 : decode cL_law 969 = .ok (.aload_n 3, 1) := by decide +kernel
theorem dL_law_970 : decode cL_law 970 = .ok (.invokestatic 131, 3) := by decide +kernel
theorem dL_law_973 : decode cL_law 973 = .ok (.istore 5, 2) := by decide +kernel
theorem dL_law_975 : decode cL_law 975 = .ok (.aload_n 2, 1) := by decide +kernel
theorem dL_law_976 : decode cL_law 976 = .ok (.aload_n 0, 1) := by decide +kernel
theorem dL_law_977 : decode cL_law 977 = .ok (.iload 4, 2) := by decide +kernel
theorem dL_law_979 : decode cL_law 979 = .ok (.iconst 1, 1) := by decide +kernel
theorem dL_law_980 : decode cL_law 980 = .ok (.iadd, 1) := by decide +kernel
theorem dL_law_981 : decode cL_law 981 = .ok (.iaload, 1) := by decide +kernel
theorem dL_law_982 : decode cL_law 982 = .ok (.invokevirtual 133, 3) := by decide +kernel
theorem dL_law_985 : decode cL_law 985 = .ok (.istore 6, 2) := by decide +kernel
theorem dL_law_987 : decode cL_law 987 = .ok (.aload_n 2, 1) := by decide +kernel
theorem dL_law_988 : decode cL_law 988 = .ok (.invokevirtual 80, 3) := by decide +kernel
theorem dL_law_991 : decode cL_law 991 = .ok (.iload 5, 2) := by decide +kernel
theorem dL_law_993 : decode cL_law 993 = .ok (.if_icmp .eq 5, 3) := by decide +kernel
theorem dL_law_996 : decode cL_law 996 = .ok (.iconst 0, 1) := by decide +kernel
theorem dL_law_997 : decode cL_law 997 = .ok (.ireturn, 1) := by decide +kernel
theorem dL_law_998 : decode cL_law 998 = .ok (.iload 5, 2) := by decide +kernel
theorem dL_law_1000 : decode cL_law 1000 = .ok (.ifCond .ne 15, 3) := by decide +kernel
theorem dL_law_1003 : decode cL_law 1003 = .ok (.aload_n 3, 1) := by decide +kernel
theorem dL_law_1004 : decode cL_law 1004 = .ok (.iconst 0, 1) := by decide +kernel
theorem dL_law_1005 : decode cL_law 1005 = .ok (.laload, 1) := by decide +kernel
theorem dL_law_1006 : decode cL_law 1006 = .ok (.iload 6, 2) := by decide +kernel
theorem dL_law_1008 : decode cL_law 1008 = .ok (.i2l, 1) := by decide +kernel
theorem dL_law_1009 : decode cL_law 1009 = .ok (.lcmp, 1) := by decide +kernel
theorem dL_law_1010 : decode cL_law 1010 = .ok (.ifCond .eq 5, 3) := by decide +kernel
theorem dL_law_1013 : decode cL_law 1013 = .ok (.iconst 0, 1) := by decide +kernel
theorem dL_law_1014 : decode cL_law 1014 = .ok (.ireturn, 1) := by decide +kernel
theorem dL_law_1015 : decode cL_law 1015 = .ok (.goto 184, 3) := by decide +kernel
theorem dL_law_1018 : decode cL_law 1018 = .ok (.aload_n 1, 1) := by decide +kernel
theorem dL_law_1019 : decode cL_law 1019 = .ok (.aload_n 0, 1) := by decide +kernel
theorem dL_law_1020 : decode cL_law 1020 = .ok (.iload 4, 2) := by decide +kernel
theorem dL_law_1022 : decode cL_law 1022 = .ok (.iconst 1, 1) := by decide +kernel
theorem dL_law_1023 : decode cL_law 1023 = .ok (.iadd, 1) := by decide +kernel
theorem dL_law_1024 : decode cL_law 1024 = .ok (.iaload, 1) := by decide +kernel
theorem dL_law_1025 : decode cL_law 1025 = .ok (.aload_n 3, 1) := by decide +kernel
theorem dL_law_1026 : decode cL_law 1026 = .ok (.invokestatic 134, 3) := by decide +kernel
theorem dL_law_1029 : decode cL_law 1029 = .ok (.istore 5, 2) := by decide +kernel
theorem dL_law_1031 : decode cL_law 1031 = .ok (.aload_n 2, 1) := by decide +kernel
theorem dL_law_1032 : decode cL_law 1032 = .ok (.aload_n 0, 1) := by decide +kernel
theorem dL_law_1033 : decode cL_law 1033 = .ok (.iload 4, 2) := by decide +kernel
theorem dL_law_1035 : decode cL_law 1035 = .ok (.iconst 1, 1) := by decide +kernel
theorem dL_law_1036 : decode cL_law 1036 = .ok (.iadd, 1) := by decide +kernel
theorem dL_law_1037 : decode cL_law 1037 = .ok (.iaload, 1) := by decide +kernel
theorem dL_law_1038 : decode cL_law 1038 = .ok (.invokevirtual 136, 3) := by decide +kernel
theorem dL_law_1041 : decode cL_law 1041 = .ok (.istore 6, 2) := by decide +kernel
theorem dL_law_1043 : decode cL_law 1043 = .ok (.aload_n 2, 1) := by decide +kernel
theorem dL_law_1044 : decode cL_law 1044 = .ok (.invokevirtual 80, 3) := by decide +kernel
theorem dL_law_1047 : decode cL_law 1047 = .ok (.iload 5, 2) := by decide +kernel
theorem dL_law_1049 : decode cL_law 1049 = .ok (.if_icmp .eq 5, 3) := by decide +kernel
theorem dL_law_1052 : decode cL_law 1052 = .ok (.iconst 0, 1) := by decide +kernel
theorem dL_law_1053 : decode cL_law 1053 = .ok (.ireturn, 1) := by decide +kernel
theorem dL_law_1054 : decode cL_law 1054 = .ok (.iload 5, 2) := by decide +kernel
theorem dL_law_1056 : decode cL_law 1056 = .ok (.ifCond .ne 15, 3) := by decide +kernel
theorem dL_law_1059 : decode cL_law 1059 = .ok (.aload_n 3, 1) := by decide +kernel
theorem dL_law_1060 : decode cL_law 1060 = .ok (.iconst 0, 1) := by decide +kernel
theorem dL_law_1061 : decode cL_law 1061 = .ok (.laload, 1) := by decide +kernel
theorem dL_law_1062 : decode cL_law 1062 = .ok (.iload 6, 2) := by decide +kernel
theorem dL_law_1064 : decode cL_law 1064 = .ok (.i2l, 1) := by decide +kernel
theorem dL_law_1065 : decode cL_law 1065 = .ok (.lcmp, 1) := by decide +kernel
theorem dL_law_1066 : decode cL_law 1066 = .ok (.ifCond .eq 5, 3) := by decide +kernel
theorem dL_law_1069 : decode cL_law 1069 = .ok (.iconst 0, 1) := by decide +kernel
theorem dL_law_1070 : decode cL_law 1070 = .ok (.ireturn, 1) := by decide +kernel
theorem dL_law_1071 : decode cL_law 1071 = .ok (.goto 128, 3) := by decide +kernel
theorem dL_law_1074 : decode cL_law 1074 = .ok (.aload_n 1, 1) := by decide +kernel
theorem dL_law_1075 : decode cL_law 1075 = .ok (.aload_n 0, 1) := by decide +kernel
theorem dL_law_1076 : decode cL_law 1076 = .ok (.iload 4, 2) := by decide +kernel
theorem dL_law_1078 : decode cL_law 1078 = .ok (.iconst 1, 1) := by decide +kernel
theorem dL_law_1079 : decode cL_law 1079 = .ok (.iadd, 1) := by decide +kernel
theorem dL_law_1080 : decode cL_law 1080 = .ok (.iaload, 1) := by decide +kernel
theorem dL_law_1081 : decode cL_law 1081 = .ok (.aload_n 3, 1) := by decide +kernel
theorem dL_law_1082 : decode cL_law 1082 = .ok (.invokestatic 137, 3) := by decide +kernel
theorem dL_law_1085 : decode cL_law 1085 = .ok (.istore 5, 2) := by decide +kernel
theorem dL_law_1087 : decode cL_law 1087 = .ok (.aload_n 2, 1) := by decide +kernel
theorem dL_law_1088 : decode cL_law 1088 = .ok (.aload_n 0, 1) := by decide +kernel
theorem dL_law_1089 : decode cL_law 1089 = .ok (.iload 4, 2) := by decide +kernel
theorem dL_law_1091 : decode cL_law 1091 = .ok (.iconst 1, 1) := by decide +kernel
theorem dL_law_1092 : decode cL_law 1092 = .ok (.iadd, 1) := by decide +kernel
theorem dL_law_1093 : decode cL_law 1093 = .ok (.iaload, 1) := by decide +kernel
theorem dL_law_1094 : decode cL_law 1094 = .ok (.invokevirtual 139, 3) := by decide +kernel
theorem dL_law_1097 : decode cL_law 1097 = .ok (.istore 6, 2) := by decide +kernel
theorem dL_law_1099 : decode cL_law 1099 = .ok (.aload_n 2, 1) := by decide +kernel
theorem dL_law_1100 : decode cL_law 1100 = .ok (.invokevirtual 80, 3) := by decide +kernel
theorem dL_law_1103 : decode cL_law 1103 = .ok (.iload 5, 2) := by decide +kernel
theorem dL_law_1105 : decode cL_law 1105 = .ok (.if_icmp .eq 5, 3) := by decide +kernel
theorem dL_law_1108 : decode cL_law 1108 = .ok (.iconst 0, 1) := by decide +kernel
theorem dL_law_1109 : decode cL_law 1109 = .ok (.ireturn, 1) := by decide +kernel
theorem dL_law_1110 : decode cL_law 1110 = .ok (.iload 5, 2) := by decide +kernel
theorem dL_law_1112 : decode cL_law 1112 = .ok (.ifCond .ne 15, 3) := by decide +kernel
theorem dL_law_1115 : decode cL_law 1115 = .ok (.aload_n 3, 1) := by decide +kernel
theorem dL_law_1116 : decode cL_law 1116 = .ok (.iconst 0, 1) := by decide +kernel
theorem dL_law_1117 : decode cL_law 1117 = .ok (.laload, 1) := by decide +kernel
theorem dL_law_1118 : decode cL_law 1118 = .ok (.iload 6, 2) := by decide +kernel
theorem dL_law_1120 : decode cL_law 1120 = .ok (.i2l, 1) := by decide +kernel
theorem dL_law_1121 : decode cL_law 1121 = .ok (.lcmp, 1) := by decide +kernel
theorem dL_law_1122 : decode cL_law 1122 = .ok (.ifCond .eq 5, 3) := by decide +kernel
theorem dL_law_1125 : decode cL_law 1125 = .ok (.iconst 0, 1) := by decide +kernel
theorem dL_law_1126 : decode cL_law 1126 = .ok (.ireturn, 1) := by decide +kernel
theorem dL_law_1127 : decode cL_law 1127 = .ok (.goto 72, 3) := by decide +kernel
theorem dL_law_1130 : decode cL_law 1130 = .ok (.aload_n 1, 1) := by decide +kernel
theorem dL_law_1131 : decode cL_law 1131 = .ok (.invokevirtual 140, 3) := by decide +kernel
theorem dL_law_1134 : decode cL_law 1134 = .ok (.aload_n 2, 1) := by decide +kernel
theorem dL_law_1135 : decode cL_law 1135 = .ok (.invokevirtual 143, 3) := by decide +kernel
theorem dL_law_1138 : decode cL_law 1138 = .ok (.if_icmp .eq 61, 3) := by decide +kernel
theorem dL_law_1141 : decode cL_law 1141 = .ok (.iconst 0, 1) := by decide +kernel
theorem dL_law_1142 : decode cL_law 1142 = .ok (.ireturn, 1) := by decide +kernel
theorem dL_law_1143 : decode cL_law 1143 = .ok (.aload_n 1, 1) := by decide +kernel
theorem dL_law_1144 : decode cL_law 1144 = .ok (.aload_n 0, 1) := by decide +kernel
theorem dL_law_1145 : decode cL_law 1145 = .ok (.iload 4, 2) := by decide +kernel
theorem dL_law_1147 : decode cL_law 1147 = .ok (.iconst 1, 1) := by decide +kernel
theorem dL_law_1148 : decode cL_law 1148 = .ok (.iadd, 1) := by decide +kernel
theorem dL_law_1149 : decode cL_law 1149 = .ok (.iaload, 1) := by decide +kernel
theorem dL_law_1150 : decode cL_law 1150 = .ok (.aload_n 3, 1) := by decide +kernel
theorem dL_law_1151 : decode cL_law 1151 = .ok (.invokestatic 144, 3) := by decide +kernel
theorem dL_law_1154 : decode cL_law 1154 = .ok (.istore 5, 2) := by decide +kernel
theorem dL_law_1156 : decode cL_law 1156 = .ok (.aload_n 2, 1) := by decide +kernel
theorem dL_law_1157 : decode cL_law 1157 = .ok (.aload_n 0, 1) := by decide +kernel
theorem dL_law_1158 : decode cL_law 1158 = .ok (.iload 4, 2) := by decide +kernel
theorem dL_law_1160 : decode cL_law 1160 = .ok (.iconst 1, 1) := by decide +kernel
theorem dL_law_1161 : decode cL_law 1161 = .ok (.iadd, 1) := by decide +kernel
theorem dL_law_1162 : decode cL_law 1162 = .ok (.iaload, 1) := by decide +kernel
theorem dL_law_1163 : decode cL_law 1163 = .ok (.invokevirtual 146, 3) := by decide +kernel
theorem dL_law_1166 : decode cL_law 1166 = .ok (.istore 6, 2) := by decide +kernel
theorem dL_law_1168 : decode cL_law 1168 = .ok (.aload_n 2, 1) := by decide +kernel
theorem dL_law_1169 : decode cL_law 1169 = .ok (.invokevirtual 80, 3) := by decide +kernel
theorem dL_law_1172 : decode cL_law 1172 = .ok (.iload 5, 2) := by decide +kernel
theorem dL_law_1174 : decode cL_law 1174 = .ok (.if_icmp .eq 5, 3) := by decide +kernel
theorem dL_law_1177 : decode cL_law 1177 = .ok (.iconst 0, 1) := by decide +kernel
theorem dL_law_1178 : decode cL_law 1178 = .ok (.ireturn, 1) := by decide +kernel
theorem dL_law_1179 : decode cL_law 1179 = .ok (.iload 5, 2) := by decide +kernel
theorem dL_law_1181 : decode cL_law 1181 = .ok (.ifCond .ne 15, 3) := by decide +kernel
theorem dL_law_1184 : decode cL_law 1184 = .ok (.aload_n 3, 1) := by decide +kernel
theorem dL_law_1185 : decode cL_law 1185 = .ok (.iconst 0, 1) := by decide +kernel
theorem dL_law_1186 : decode cL_law 1186 = .ok (.laload, 1) := by decide +kernel
theorem dL_law_1187 : decode cL_law 1187 = .ok (.iload 6, 2) := by decide +kernel
theorem dL_law_1189 : decode cL_law 1189 = .ok (.i2l, 1) := by decide +kernel
theorem dL_law_1190 : decode cL_law 1190 = .ok (.lcmp, 1) := by decide +kernel
theorem dL_law_1191 : decode cL_law 1191 = .ok (.ifCond .eq 5, 3) := by decide +kernel
theorem dL_law_1194 : decode cL_law 1194 = .ok (.iconst 0, 1) := by decide +kernel
theorem dL_law_1195 : decode cL_law 1195 = .ok (.ireturn, 1) := by decide +kernel
theorem dL_law_1196 : decode cL_law 1196 = .ok (.goto 3, 3) := by decide +kernel
theorem dL_law_1199 : decode cL_law 1199 = .ok (.iinc 4 4, 3) := by decide +kernel
theorem dL_law_1202 : decode cL_law 1202 = .ok (.goto (-1179), 3) := by decide +kernel
theorem dL_law_1205 : decode cL_law 1205 = .ok (.iconst 1, 1) := by decide +kernel
theorem dL_law_1206 : decode cL_law 1206 = .ok (.ireturn, 1) := by decide +kernel
end
section
section XK
/-! A world: what stands at each address, with a colour; two things of different colours lie apart. A judgement over all heaps that hold the world (xJ), rows for it, contracts (xMet, xMetX). -/
abbrev xW : Type := Nat → Option (Nat × va_E)
abbrev xG : Type := va_G × (Nat → Nat)
def xu (w : xW) (a : Nat) (x : Nat × va_E) : xW := fun b => if b = a then some x else w b
theorem xu_eq (w : xW) (a : Nat) (x : Nat × va_E) : xu w a x a = some x := if_pos rfl
theorem xu_ne {w : xW} {a b : Nat} {x : Nat × va_E} (h : b ≠ a) : xu w a x b = w b := if_neg h
theorem xu_far {w : xW} {a b k j : Nat} {e e' : va_E} {x : Nat × va_E} (hb : w b = some (k, e)) (ha : w a = some (j, e')) (h : k ≠ j) : xu w a x b = some (k, e) := by
  rw [xu_ne (fun q => h (by subst q; rw [hb] at ha; cases ha; rfl))]; exact hb
theorem xu_new {w : xW} {a b : Nat} {x y : Nat × va_E} (hb : w b = some y) (ha : w a = none) : xu w a x b = some y := by
  rw [xu_ne (fun q => by subst q; rw [hb] at ha; cases ha)]; exact hb
def xA (G : xG) : Nat → Prop := fun q => G.2 0 ≤ q
abbrev xT (G : xG) : List (ClassId × FieldType) := [(G.2 1, .int), (G.2 2, .long), (G.2 3, .object "java/lang/Object")]
def xH (G : xG) (w : xW) (H : Heap) : Prop := G.2 0 ≤ H.size ∧ ∀ (a : Nat) (x : Nat × va_E), w a = some x → G.2 0 ≤ a ∧ va_at G.1 vwCl (a, x.2) H
theorem xH.lt {G : xG} {w : xW} {H : Heap} (h : xH G w H) {a : Nat} {x : Nat × va_E} (ha : w a = some x) : a < H.size := ((h.2 a x ha).2).lt
theorem xH.P {G : xG} {w : xW} {H : Heap} (h : xH G w H) {a k : Nat} {e : va_E} (ha : w a = some (k, e)) : va_P G.1 vwCl [(a, e)] H := fun i q hq => by
  match i, hq with
  | 0, hq => cases hq; exact (h.2 a _ ha).2
  | i + 1, hq => simp at hq
theorem xH.set {G : xG} {w : xW} {H H1 : Heap} (h : xH G w H) {a k j : Nat} {e0 e : va_E} (ha : w a = some (k, e0)) (he : va_at G.1 vwCl (a, e) H1) (oq : ∀ q : Nat, q ≠ a → H1[q]? = H[q]?) (z : H1.size = H.size) : xH G (xu w a (j, e)) H1 := by
  refine ⟨by rw [z]; exact h.1, fun b x hb => ?_⟩
  by_cases hq : b = a
  · subst hq
    rw [xu_eq] at hb
    cases hb
    exact ⟨(h.2 b _ ha).1, he⟩
  · rw [xu_ne hq] at hb
    exact ⟨(h.2 b x hb).1, (h.2 b x hb).2.kept (oq b hq)⟩
theorem xH.grow {G : xG} {w : xW} {H H1 : Heap} (h : xH G w H) (z : H.size ≤ H1.size) (oq : ∀ q : Nat, q < H.size → H1[q]? = H[q]?) : xH G w H1 :=
  ⟨Nat.le_trans h.1 z, fun b x hb => ⟨(h.2 b x hb).1, (h.2 b x hb).2.kept (oq b (h.lt hb))⟩⟩
theorem xH.none {G : xG} {w : xW} {H : Heap} (h : xH G w H) : w H.size = none := by
  cases hq : w H.size with
  | none => rfl
  | some x => exact absurd (h.lt hq) (Nat.lt_irrefl _)
theorem xH.new {G : xG} {w : xW} {H H1 : Heap} (h : xH G w H) {j : Nat} {e : va_E} (he : va_at G.1 vwCl (H.size, e) H1) (z : H1.size = H.size + 1) (oq : ∀ q : Nat, q < H.size → H1[q]? = H[q]?) : xH G (xu w H.size (j, e)) H1 := by
  refine ⟨by rw [z]; exact Nat.le_succ_of_le h.1, fun b x hb => ?_⟩
  by_cases hq : b = H.size
  · subst hq
    rw [xu_eq] at hb
    cases hb
    exact ⟨h.1, he⟩
  · rw [xu_ne hq] at hb
    exact ⟨(h.2 b x hb).1, (h.2 b x hb).2.kept (oq b (h.lt hb))⟩
/-! the tables' words, all in one list -/
def xNest : Cond → Bool
  | .fieldLinkNest .. => true
  | .methodLinkNest .. => true
  | _ => false
def xOk (w : Cond) : Bool := w.onTables && (w.keeps || w.keepsFace || xNest w)
def xAll : List Cond := lw_tbl.filter xOk
theorem xAll_in (i : Nat) {w : Cond} (h : lw_tbl[i]? = some w) (hk : xOk w = true) : w ∈ xAll := List.mem_filter.mpr ⟨List.mem_of_getElem? h, hk⟩
theorem xAll_ok {w : Cond} (h : w ∈ xAll) : xOk w = true := (List.mem_filter.mp h).2
theorem xAll_tb {w : Cond} (h : w ∈ xAll) : w.onTables = true := by
  have := xAll_ok h
  simp only [xOk, Bool.and_eq_true] at this
  exact this.1
theorem xNw_warm {w : Cond} {s U : State} (hk : xOk w = true) (hW : s.WarmedH U.vm) (h : va_Nw w s) : va_Nw w U := by
  simp only [xOk, Bool.and_eq_true, Bool.or_eq_true] at hk
  obtain ⟨ht, (hk | hk) | hk⟩ := hk
  · exact word_at hW (Or.inl (by rw [ht, hk]; rfl)) h
  · exact va_tabs ht (rfl : (s.setVm U.vm).vm = U.vm) (Cond.before_shiftedFace (args := #[]) (State.Shifted.of_warmed hW) w hk h)
  · cases w <;> first | exact va_Nw.warmF hW h | exact va_Nw.warmM hW h | (simp [xNest] at hk)
theorem xAll_list {ws : List Cond} (is : List Nat) (h : is.map (fun i => lw_tbl[i]?) = ws.map some) (hk : ws.all xOk = true) : ∀ w ∈ ws, w ∈ xAll := fun w hw => by
  have h1 : some w ∈ ws.map some := List.mem_map.mpr ⟨w, hw, rfl⟩
  rw [← h] at h1
  obtain ⟨i, -, hi⟩ := List.mem_map.mp h1
  exact xAll_in i hi (List.all_eq_true.mp hk w hw)
def xStr : List (Nat × String) := [(51, "counter or room is out of range"), (56, "room is out of range"), (61, "owner, size or counter is out of range"), (73, "no room for it, or too many things"), (188, "there is no such thing"), (96, "it is not at a counter, or has a loan"), (105, "counter is out of range"), (110, "it is not at a counter, or is at this one"), (118, "worth is out of range"), (120, "it is not at a counter"), (125, "lender or sum is out of range"), (130, "the lender is its owner, or the sum is too high"), (139, "it has no loan"), (153, "it has no loan, or that was doubted"), (158, "days is out of range"), (160, "the day would be above the last one"), (165, "day is out of range"), (174, "person is out of range"), (178, "there are not so many wishes")]
def xNcs : List (String × String) := [("java/lang/IllegalArgumentException", "java/lang/IllegalStateException"), ("java/lang/IllegalArgumentException", "java/lang/IndexOutOfBoundsException"), ("java/lang/IllegalStateException", "java/lang/IllegalArgumentException"), ("java/lang/IllegalStateException", "java/lang/IndexOutOfBoundsException"), ("java/lang/IndexOutOfBoundsException", "java/lang/IllegalArgumentException"), ("java/lang/IndexOutOfBoundsException", "java/lang/IllegalStateException")]
/-- what holds of the launch at any time: the tables' words, the classes, the statics that nobody writes -/
def xE (G : xG) (U : State) (H : Heap) : Prop :=
  va_K G.1 vwCl (xT G) U ∧ (∀ w ∈ xAll, va_Nw w U) ∧ (Cond.arrayClass .int).before #[] U = true ∧ (Cond.arrayClass .long).before #[] U = true ∧ va_AO "java/lang/Object" U ∧
  vx_Zq Bundle.tN "UNASSIGNED_STACK" Bundle.steD (xA G) U H ∧ vx_Zq Bundle.tN "SUPPRESSED_SENTINEL" Bundle.listD (xA G) U H ∧
  va_Z "java/util/ArrayList" "DEFAULTCAPACITY_EMPTY_ELEMENTDATA" "[Ljava/lang/Object;" (.ref (G.2 4)) (xA G) U H ∧ va_T (.object "java/lang/Object") (G.2 4) 0 (fun _ => .null) (xA G) U H ∧
  (∀ q ∈ xStr, vk_R RX2 q.1 q.2 (G.2 (1000 + q.1)) U) ∧ va_Mi "[Ljava/lang/Object;" (G.2 5) U ∧ ∀ q ∈ xNcs, va_Nc q.1 q.2 U
theorem xE.next {G : xG} {s U : State} (h : xE G s s.heap) (hW : s.WarmedH U.vm) (hq : ∀ a : Nat, a < s.heap.size → ¬ xA G a → U.heap[a]? = s.heap[a]?) : xE G U U.heap := by
  obtain ⟨h1, h2, h3, h4, h5, h6, h7, h8, h9, h10, h11, h12⟩ := h
  have hal : s.vm.Alike U.vm := hW.alike
  exact ⟨va_K.moved hal h1, fun w hw => xNw_warm (xAll_ok hw) hW (h2 w hw), word_at hW (Or.inr ⟨_, rfl⟩) h3, word_at hW (Or.inr ⟨_, rfl⟩) h4, va_AO.moved hal h5, vx_Zq.moved hal (h6.kept hq), vx_Zq.moved hal (h7.kept hq),
    va_Z.moved hal (h8.kept hq), va_T.moved hal (h9.kept hq), fun q hq => (h10 q hq).warm hW, va_Mi.moved hal h11, fun q hq => va_Nc.moved hal (h12 q hq)⟩
theorem xE.w {G : xG} {s : State} {H : Heap} (h : xE G s H) {w : Cond} (hw : w ∈ xAll) {args : Array Value} : w.before args s = true := va_Nw.use (xAll_tb hw) (h.2.1 w hw)
/-! contracts -/
def xPc (G : xG) (av : List Value) (w : xW) : Array Value → State → Prop := va_Pc av (fun U => xE G U U.heap ∧ xH G w U.heap)
def xQ {α : Type} (G : xG) (emb : α → Option Value) (post : α → xW → Prop) : Array Value → State → Outcome → State → Prop := fun _ st oc t => (∃ (v : α) (w : xW), oc = .returned (emb v) ∧ post v w ∧ xH G w t.heap) ∧ va_F (xA G) st t
def xX (G : xG) (px : String → xW → Prop) : String → State → State → Prop := fun E st t => (∃ w : xW, px E w ∧ xH G w t.heap) ∧ va_F (xA G) st t
abbrev embI : Int32 → Option Value := fun r => some (.int r)
abbrev embA : Nat → Option Value := fun r => some (.ref r)
abbrev embV : Unit → Option Value := fun _ => none
def xMet {α : Type} (l : Launch) (G : xG) (y : MethodName) (cc : ByteArray) (maxL : Nat) (rt : Option FieldType) (rm : Room) (av : List Value) (w : xW) (emb : α → Option Value) (post : α → xW → Prop) : Prop :=
  Met l y [.code y cc maxL rt] rm (xPc G av w) (xQ G emb post) rm.cells rm.slots (xA G)
def xMetX {α : Type} (l : Launch) (G : xG) (y : MethodName) (cc : ByteArray) (maxL : Nat) (rt : Option FieldType) (rm : Room) (av : List Value) (w : xW) (emb : α → Option Value) (post : α → xW → Prop) (px : String → xW → Prop) : Prop :=
  vx_Met l y [.code y cc maxL rt] rm (xPc G av w) (xQ G emb post) (xX G px) rm.cells rm.slots (xA G)
theorem xPc.blind {G : xG} {av : List Value} {w : xW} : FrameBlind (xPc G av w) := fun a U g mk h => ⟨h.1, h.2.1.next (U := U.calling g mk a) (State.WarmedH.refl U) (fun _ _ _ => rfl), h.2.2⟩
/-! locals by their numbers -/
def xget : List (Nat × Value) → Nat → Option Value
  | [], _ => none
  | q :: t, i => bif Nat.beq q.1 i then some q.2 else xget t i
def xdel : List (Nat × Value) → Nat → List (Nat × Value)
  | [], _ => []
  | q :: t, i => bif Nat.beq q.1 i then xdel t i else q :: xdel t i
def xone : List (Nat × Value) → Bool
  | [] => true
  | q :: t => Nat.beq q.2.category 1 && xone t
def xpick (lv : List (Nat × Value)) (is : List Nat) : List (Nat × Value) := is.filterMap fun i => (xget lv i).map fun v => (i, v)
theorem xget_mem {lv : List (Nat × Value)} {i : Nat} {v : Value} (h : xget lv i = some v) : (i, v) ∈ lv := by
  induction lv with
  | nil => simp [xget] at h
  | cons q t ih =>
    unfold xget at h
    cases hq : Nat.beq q.1 i with
    | true =>
      rw [hq] at h
      have e1 : q.1 = i := Nat.eq_of_beq_eq_true hq
      have e2 : q.2 = v := Option.some.inj h
      rw [← e1, ← e2]
      exact List.mem_cons_self
    | false =>
      rw [hq] at h
      exact List.mem_cons_of_mem _ (ih h)
theorem xget_at {ls : Array Slot} {nL : Nat} {lv : List (Nat × Value)} (h : lv_has ls nL lv) {i : Nat} {v : Value} (hi : xget lv i = some v) : ls[i]? = some (.val v) := h.2.2 _ (xget_mem hi)
theorem xdel_mem {lv : List (Nat × Value)} {i : Nat} {q : Nat × Value} (h : q ∈ xdel lv i) : q ∈ lv ∧ q.1 ≠ i := by
  induction lv with
  | nil => simp [xdel] at h
  | cons r t ih =>
    unfold xdel at h
    cases hq : Nat.beq r.1 i with
    | true =>
      rw [hq] at h
      exact ⟨List.mem_cons_of_mem _ (ih h).1, (ih h).2⟩
    | false =>
      rw [hq] at h
      rcases List.mem_cons.mp h with e | h
      · subst e
        exact ⟨List.mem_cons_self, Nat.ne_of_beq_eq_false hq⟩
      · exact ⟨List.mem_cons_of_mem _ (ih h).1, (ih h).2⟩
theorem xone_mem {lv : List (Nat × Value)} (h : xone lv = true) {q : Nat × Value} (hq : q ∈ lv) : q.2.category = 1 := by
  induction lv with
  | nil => simp at hq
  | cons r t ih =>
    unfold xone at h
    simp only [Bool.and_eq_true] at h
    rcases List.mem_cons.mp hq with e | hq
    · subst e
      exact Nat.eq_of_beq_eq_true h.1
    · exact ih h.2 hq
theorem xset_has {ls : Array Slot} {nL : Nat} {lv : List (Nat × Value)} {i : Nat} {v : Value} (h : lv_has ls nL ((i, v) :: lv.filter (fun q => !(q.1 == i) && !(q.1 + 1 == i && q.2.category == 2)))) (h1 : xone lv = true) : lv_has ls nL ((i, v) :: xdel lv i) := by
  refine ⟨h.1, h.2.1, fun q hq => h.2.2 q ?_⟩
  rcases List.mem_cons.mp hq with e | hq
  · subst e
    exact List.mem_cons_self
  · obtain ⟨h2, h3⟩ := xdel_mem hq
    refine List.mem_cons_of_mem _ (List.mem_filter.mpr ⟨h2, ?_⟩)
    have h4 := xone_mem h1 h2
    simp [h3, h4]
theorem xpick_has {ls : Array Slot} {nL : Nat} {lv lv' : List (Nat × Value)} (h : lv_has ls nL lv) (is : List Nat) (e : xpick lv is = lv') : lv_has ls nL lv' := by
  subst e
  refine ⟨h.1, h.2.1, fun q hq => ?_⟩
  obtain ⟨i, -, hi⟩ := List.mem_filterMap.mp hq
  cases hg : xget lv i with
  | none => rw [hg] at hi; cases hi
  | some v =>
    rw [hg] at hi
    cases hi
    exact xget_at h hg
/-! the judgement -/
def xC (p : Program) (s : State) (m : MethodId) (meth : Method) (c : Code) (G : xG) (cc : ByteArray) (nL : Nat) (own : String) (rt : Option FieldType) : Prop :=
  p.tables.exec = Jvm.exec ∧ c.code = cc ∧ c.maxLocals = nL ∧ s.vm.findClass own = some m.cls ∧ meth.sig.returnType = rt ∧ meth.locks = false ∧ xE G s s.heap ∧ G.2 0 ≤ s.heap.size
def xJ (p : Program) (l : Launch) (e : Env) (R : Room) (s : State) (m : MethodId) (args : Array Value) (below : List Frame) (meth : Method) (c : Code) (G : xG) (nL : Nat) (Q : State → Prop) (P : xW → Prop) (k n pc : Nat) (lv : List (Nat × Value)) (st : List Value) : Prop :=
  ∀ (w : xW) (H : Heap) (locs : List Loc) (ls : Array Slot), P w → xH G w H → va_S (xA G) s.heap H locs → lv_has ls nL lv → W p l e R s m args below meth c H locs k n Q (F0 m pc ls st)
section XJ
variable {p : Program} {l : Launch} {e : Env} {R : Room} {s : State} {m : MethodId} {args : Array Value} {below : List Frame} {meth : Method} {c : Code} {G : xG} {cc : ByteArray} {nL : Nat} {own : String} {rt : Option FieldType} {Q : State → Prop} {P P' : xW → Prop} {k n pc : Nat} {lv : List (Nat × Value)} {st : List Value}
theorem x_fact {φ : Prop} (h : ∀ w, P w → φ) (kk : φ → xJ p l e R s m args below meth c G nL Q P k n pc lv st) : xJ p l e R s m args below meth c G nL Q P k n pc lv st := fun w H locs ls hp => kk (h w hp) w H locs ls hp
theorem x_weak (h : ∀ w, P w → P' w) (kk : xJ p l e R s m args below meth c G nL Q P' k n pc lv st) : xJ p l e R s m args below meth c G nL Q P k n pc lv st := fun w H locs ls hp => kk w H locs ls (h w hp)
theorem x_any {α : Type} {F : α → xW → Prop} (kk : ∀ a, xJ p l e R s m args below meth c G nL Q (F a) k n pc lv st) : xJ p l e R s m args below meth c G nL Q (fun w => ∃ a, F a w) k n pc lv st := fun w H locs ls hp => by
  obtain ⟨a, ha⟩ := hp
  exact kk a w H locs ls ha
theorem x_lv {lv' : List (Nat × Value)} (is : List Nat) (h : xpick lv is = lv') (kk : xJ p l e R s m args below meth c G nL Q P k n pc lv' st) : xJ p l e R s m args below meth c G nL Q P k n pc lv st := fun w H locs ls hp hh hs hl => kk w H locs ls hp hh hs (xpick_has hl is h)
theorem x_wide {k' n' : Nat} (h1 : k ≤ k') (h2 : n ≤ n') (kk : xJ p l e R s m args below meth c G nL Q P k' n' pc lv st) : xJ p l e R s m args below meth c G nL Q P k n pc lv st := fun w H locs ls hp hh hs hl => W.widen h1 h2 (kk w H locs ls hp hh hs hl)
theorem x_iconst (Γ : xC p s m meth c G cc nL own rt) {i : Int} {v : Int32} (hd : decode cc pc = .ok (.iconst i, 1)) (hv : Int32.ofInt i = v) (kk : xJ p l e R s m args below meth c G nL Q P k n (pc + 1) lv (.int v :: st)) : xJ p l e R s m args below meth c G nL Q P k n pc lv (st) := fun w H locs ls hp hh hs hl => lv_iconst Γ.1 Γ.2.1 hd hv (kk w H locs ls hp hh hs hl)
theorem x_bipush (Γ : xC p s m meth c G cc nL own rt) {i : Int} {v : Int32} (hd : decode cc pc = .ok (.bipush i, 2)) (hv : (Int8.ofInt i).toInt32 = v) (kk : xJ p l e R s m args below meth c G nL Q P k n (pc + 2) lv (.int v :: st)) : xJ p l e R s m args below meth c G nL Q P k n pc lv (st) := fun w H locs ls hp hh hs hl => lv_bipush Γ.1 Γ.2.1 hd hv (kk w H locs ls hp hh hs hl)
theorem x_sipush (Γ : xC p s m meth c G cc nL own rt) {i : Int} {v : Int32} (hd : decode cc pc = .ok (.sipush i, 3)) (hv : (Int16.ofInt i).toInt32 = v) (kk : xJ p l e R s m args below meth c G nL Q P k n (pc + 3) lv (.int v :: st)) : xJ p l e R s m args below meth c G nL Q P k n pc lv (st) := fun w H locs ls hp hh hs hl => lv_sipush Γ.1 Γ.2.1 hd hv (kk w H locs ls hp hh hs hl)
theorem x_null (Γ : xC p s m meth c G cc nL own rt)  (hd : decode cc pc = .ok (.aconst_null, 1)) (kk : xJ p l e R s m args below meth c G nL Q P k n (pc + 1) lv (.null :: st)) : xJ p l e R s m args below meth c G nL Q P k n pc lv (st) := fun w H locs ls hp hh hs hl => lv_null Γ.1 Γ.2.1 hd  (kk w H locs ls hp hh hs hl)
theorem x_iadd (Γ : xC p s m meth c G cc nL own rt) {x y : Int32} (hd : decode cc pc = .ok (.iadd, 1)) (kk : xJ p l e R s m args below meth c G nL Q P k n (pc + 1) lv (.int (x + y) :: st)) : xJ p l e R s m args below meth c G nL Q P k n pc lv (.int y :: .int x :: st) := fun w H locs ls hp hh hs hl => lv_iadd Γ.1 Γ.2.1 hd  (kk w H locs ls hp hh hs hl)
theorem x_isub (Γ : xC p s m meth c G cc nL own rt) {x y : Int32} (hd : decode cc pc = .ok (.isub, 1)) (kk : xJ p l e R s m args below meth c G nL Q P k n (pc + 1) lv (.int (x - y) :: st)) : xJ p l e R s m args below meth c G nL Q P k n pc lv (.int y :: .int x :: st) := fun w H locs ls hp hh hs hl => lv_isub Γ.1 Γ.2.1 hd  (kk w H locs ls hp hh hs hl)
theorem x_imul (Γ : xC p s m meth c G cc nL own rt) {x y : Int32} (hd : decode cc pc = .ok (.imul, 1)) (kk : xJ p l e R s m args below meth c G nL Q P k n (pc + 1) lv (.int (x * y) :: st)) : xJ p l e R s m args below meth c G nL Q P k n pc lv (.int y :: .int x :: st) := fun w H locs ls hp hh hs hl => lv_imul Γ.1 Γ.2.1 hd  (kk w H locs ls hp hh hs hl)
theorem x_iand (Γ : xC p s m meth c G cc nL own rt) {x y : Int32} (hd : decode cc pc = .ok (.iand, 1)) (kk : xJ p l e R s m args below meth c G nL Q P k n (pc + 1) lv (.int (x &&& y) :: st)) : xJ p l e R s m args below meth c G nL Q P k n pc lv (.int y :: .int x :: st) := fun w H locs ls hp hh hs hl => lv_iand Γ.1 Γ.2.1 hd  (kk w H locs ls hp hh hs hl)
theorem x_ishr (Γ : xC p s m meth c G cc nL own rt) {x y : Int32} (hd : decode cc pc = .ok (.ishr, 1)) (kk : xJ p l e R s m args below meth c G nL Q P k n (pc + 1) lv (.int (x >>> (y &&& 31)) :: st)) : xJ p l e R s m args below meth c G nL Q P k n pc lv (.int y :: .int x :: st) := fun w H locs ls hp hh hs hl => lv_ishr Γ.1 Γ.2.1 hd  (kk w H locs ls hp hh hs hl)
theorem x_idiv (Γ : xC p s m meth c G cc nL own rt) {x y : Int32} (hd : decode cc pc = .ok (.idiv, 1)) (h0 : ¬ y = 0) (kk : xJ p l e R s m args below meth c G nL Q P k n (pc + 1) lv (.int (x / y) :: st)) : xJ p l e R s m args below meth c G nL Q P k n pc lv (.int y :: .int x :: st) := fun w H locs ls hp hh hs hl => lv_idiv Γ.1 Γ.2.1 hd h0 (kk w H locs ls hp hh hs hl)
theorem x_i2l (Γ : xC p s m meth c G cc nL own rt) {x : Int32} {v : Int64} (hd : decode cc pc = .ok (.i2l, 1)) (hv : x.toInt64 = v) (kk : xJ p l e R s m args below meth c G nL Q P k n (pc + 1) lv (.long v :: st)) : xJ p l e R s m args below meth c G nL Q P k n pc lv (.int x :: st) := fun w H locs ls hp hh hs hl => lv_i2l Γ.1 Γ.2.1 hd hv (kk w H locs ls hp hh hs hl)
theorem x_dup (Γ : xC p s m meth c G cc nL own rt) {va : Value} (hd : decode cc pc = .ok (.dup, 1)) (h1 : va.category = 1) (kk : xJ p l e R s m args below meth c G nL Q P k n (pc + 1) lv (va :: va :: st)) : xJ p l e R s m args below meth c G nL Q P k n pc lv (va :: st) := fun w H locs ls hp hh hs hl => lv_dup Γ.1 Γ.2.1 hd h1 (kk w H locs ls hp hh hs hl)
theorem x_pop (Γ : xC p s m meth c G cc nL own rt) {va : Value} (hd : decode cc pc = .ok (.pop, 1)) (h1 : va.category = 1) (kk : xJ p l e R s m args below meth c G nL Q P k n (pc + 1) lv (st)) : xJ p l e R s m args below meth c G nL Q P k n pc lv (va :: st) := fun w H locs ls hp hh hs hl => lv_pop Γ.1 Γ.2.1 hd h1 (kk w H locs ls hp hh hs hl)
theorem x_dup_x1 (Γ : xC p s m meth c G cc nL own rt) {va vb : Value} (hd : decode cc pc = .ok (.dup_x1, 1)) (h1 : va.category = 1) (h2 : vb.category = 1) (kk : xJ p l e R s m args below meth c G nL Q P k n (pc + 1) lv (va :: vb :: va :: st)) : xJ p l e R s m args below meth c G nL Q P k n pc lv (va :: vb :: st) := fun w H locs ls hp hh hs hl => lv_dup_x1 Γ.1 Γ.2.1 hd h1 h2 (kk w H locs ls hp hh hs hl)
theorem x_iload_n (Γ : xC p s m meth c G cc nL own rt) {j : Fin 4} {i : Nat} {x : Int32} (hd : decode cc pc = .ok (.iload_n j, 1)) (hi : (j : Nat) = i) (hg : xget lv i = some (.int x)) (kk : xJ p l e R s m args below meth c G nL Q P k n (pc + 1) lv (.int x :: st)) : xJ p l e R s m args below meth c G nL Q P k n pc lv st := fun w H locs ls hp hh hs hl => lv_iload_n Γ.1 Γ.2.1 hd hi (xget_at hl hg) (kk w H locs ls hp hh hs hl)
theorem x_iload (Γ : xC p s m meth c G cc nL own rt) {i : Nat} {x : Int32} (hd : decode cc pc = .ok (.iload i, 2)) (hg : xget lv i = some (.int x)) (kk : xJ p l e R s m args below meth c G nL Q P k n (pc + 2) lv (.int x :: st)) : xJ p l e R s m args below meth c G nL Q P k n pc lv st := fun w H locs ls hp hh hs hl => lv_iload Γ.1 Γ.2.1 hd (xget_at hl hg) (kk w H locs ls hp hh hs hl)
theorem x_aload_n (Γ : xC p s m meth c G cc nL own rt) {j : Fin 4} {i : Nat} {x : Nat} (hd : decode cc pc = .ok (.aload_n j, 1)) (hi : (j : Nat) = i) (hg : xget lv i = some (.ref x)) (kk : xJ p l e R s m args below meth c G nL Q P k n (pc + 1) lv (.ref x :: st)) : xJ p l e R s m args below meth c G nL Q P k n pc lv st := fun w H locs ls hp hh hs hl => lv_aload_n Γ.1 Γ.2.1 hd hi (xget_at hl hg) (kk w H locs ls hp hh hs hl)
theorem x_aload (Γ : xC p s m meth c G cc nL own rt) {i : Nat} {x : Nat} (hd : decode cc pc = .ok (.aload i, 2)) (hg : xget lv i = some (.ref x)) (kk : xJ p l e R s m args below meth c G nL Q P k n (pc + 2) lv (.ref x :: st)) : xJ p l e R s m args below meth c G nL Q P k n pc lv st := fun w H locs ls hp hh hs hl => lv_aload Γ.1 Γ.2.1 hd (xget_at hl hg) (kk w H locs ls hp hh hs hl)
theorem x_aload_nN (Γ : xC p s m meth c G cc nL own rt) {j : Fin 4} {i : Nat} (hd : decode cc pc = .ok (.aload_n j, 1)) (hi : (j : Nat) = i) (hg : xget lv i = some .null) (kk : xJ p l e R s m args below meth c G nL Q P k n (pc + 1) lv (.null :: st)) : xJ p l e R s m args below meth c G nL Q P k n pc lv st := fun w H locs ls hp hh hs hl => lv_aload_nN Γ.1 Γ.2.1 hd hi (xget_at hl hg) (kk w H locs ls hp hh hs hl)
theorem x_istore_n (Γ : xC p s m meth c G cc nL own rt) {j : Fin 4} {i : Nat} {x : Int32} (hd : decode cc pc = .ok (.istore_n j, 1)) (hi : (j : Nat) = i) (h1 : xone lv = true) (hn : i < nL) (kk : xJ p l e R s m args below meth c G nL Q P k n (pc + 1) ((i, .int x) :: xdel lv i) st) : xJ p l e R s m args below meth c G nL Q P k n pc lv (.int x :: st) := fun w H locs ls hp hh hs hl => lv_istore_n Γ.1 Γ.2.1 hd hi hl hn rfl (fun ls2 hl2 => kk w H locs ls2 hp hh hs (xset_has hl2 h1))
theorem x_istore (Γ : xC p s m meth c G cc nL own rt) {i : Nat} {x : Int32} (hd : decode cc pc = .ok (.istore i, 2)) (h1 : xone lv = true) (hn : i < nL) (kk : xJ p l e R s m args below meth c G nL Q P k n (pc + 2) ((i, .int x) :: xdel lv i) st) : xJ p l e R s m args below meth c G nL Q P k n pc lv (.int x :: st) := fun w H locs ls hp hh hs hl => lv_istore Γ.1 Γ.2.1 hd hl hn rfl (fun ls2 hl2 => kk w H locs ls2 hp hh hs (xset_has hl2 h1))
theorem x_astore_n (Γ : xC p s m meth c G cc nL own rt) {j : Fin 4} {i : Nat} {x : Nat} (hd : decode cc pc = .ok (.astore_n j, 1)) (hi : (j : Nat) = i) (h1 : xone lv = true) (hn : i < nL) (kk : xJ p l e R s m args below meth c G nL Q P k n (pc + 1) ((i, .ref x) :: xdel lv i) st) : xJ p l e R s m args below meth c G nL Q P k n pc lv (.ref x :: st) := fun w H locs ls hp hh hs hl => lv_astore_n Γ.1 Γ.2.1 hd hi hl hn rfl (fun ls2 hl2 => kk w H locs ls2 hp hh hs (xset_has hl2 h1))
theorem x_astore (Γ : xC p s m meth c G cc nL own rt) {i : Nat} {x : Nat} (hd : decode cc pc = .ok (.astore i, 2)) (h1 : xone lv = true) (hn : i < nL) (kk : xJ p l e R s m args below meth c G nL Q P k n (pc + 2) ((i, .ref x) :: xdel lv i) st) : xJ p l e R s m args below meth c G nL Q P k n pc lv (.ref x :: st) := fun w H locs ls hp hh hs hl => lv_astore Γ.1 Γ.2.1 hd hl hn rfl (fun ls2 hl2 => kk w H locs ls2 hp hh hs (xset_has hl2 h1))
theorem x_astore_nN (Γ : xC p s m meth c G cc nL own rt) {j : Fin 4} {i : Nat} (hd : decode cc pc = .ok (.astore_n j, 1)) (hi : (j : Nat) = i) (h1 : xone lv = true) (hn : i < nL) (kk : xJ p l e R s m args below meth c G nL Q P k n (pc + 1) ((i, .null) :: xdel lv i) st) : xJ p l e R s m args below meth c G nL Q P k n pc lv (.null :: st) := fun w H locs ls hp hh hs hl => lv_astore_nN Γ.1 Γ.2.1 hd hi hl hn rfl (fun ls2 hl2 => kk w H locs ls2 hp hh hs (xset_has hl2 h1))
theorem x_iinc (Γ : xC p s m meth c G cc nL own rt) {i : Nat} {d : Int} {x v : Int32} (hd : decode cc pc = .ok (.iinc i d, 3)) (hg : xget lv i = some (.int x)) (hv : x + Int32.ofInt d = v) (h1 : xone lv = true) (hn : i < nL) (kk : xJ p l e R s m args below meth c G nL Q P k n (pc + 3) ((i, .int v) :: xdel lv i) st) : xJ p l e R s m args below meth c G nL Q P k n pc lv st := fun w H locs ls hp hh hs hl => by
  obtain ⟨j, hj⟩ := List.mem_iff_getElem?.mp (xget_mem hg)
  exact lv_iinc Γ.1 Γ.2.1 hd hl hj hv hn rfl (fun ls2 hl2 => kk w H locs ls2 hp hh hs (xset_has hl2 h1))
theorem x_icmp_eq (Γ : xC p s m meth c G cc nL own rt) {x y : Int32} {off : Int} {tgt : Nat} (hd : decode cc pc = .ok (.if_icmp .eq off, 3)) (ht : (pc : Int) + off = (tgt : Int)) (kt : x = y → xJ p l e R s m args below meth c G nL Q P k n tgt lv st) (kf : ¬ x = y → xJ p l e R s m args below meth c G nL Q P k n (pc + 3) lv st) : xJ p l e R s m args below meth c G nL Q P k n pc lv (.int y :: .int x :: st) := fun w H locs ls hp hh hs hl => lv_icmp_eq Γ.1 Γ.2.1 hd ht (fun q => kt q w H locs ls hp hh hs hl) (fun q => kf q w H locs ls hp hh hs hl)
theorem x_icmp_ne (Γ : xC p s m meth c G cc nL own rt) {x y : Int32} {off : Int} {tgt : Nat} (hd : decode cc pc = .ok (.if_icmp .ne off, 3)) (ht : (pc : Int) + off = (tgt : Int)) (kt : ¬ x = y → xJ p l e R s m args below meth c G nL Q P k n tgt lv st) (kf : x = y → xJ p l e R s m args below meth c G nL Q P k n (pc + 3) lv st) : xJ p l e R s m args below meth c G nL Q P k n pc lv (.int y :: .int x :: st) := fun w H locs ls hp hh hs hl => lv_icmp_ne Γ.1 Γ.2.1 hd ht (fun q => kt q w H locs ls hp hh hs hl) (fun q => kf q w H locs ls hp hh hs hl)
theorem x_icmp_lt (Γ : xC p s m meth c G cc nL own rt) {x y : Int32} {off : Int} {tgt : Nat} (hd : decode cc pc = .ok (.if_icmp .lt off, 3)) (ht : (pc : Int) + off = (tgt : Int)) (kt : x < y → xJ p l e R s m args below meth c G nL Q P k n tgt lv st) (kf : ¬ x < y → xJ p l e R s m args below meth c G nL Q P k n (pc + 3) lv st) : xJ p l e R s m args below meth c G nL Q P k n pc lv (.int y :: .int x :: st) := fun w H locs ls hp hh hs hl => lv_icmp_lt Γ.1 Γ.2.1 hd ht (fun q => kt q w H locs ls hp hh hs hl) (fun q => kf q w H locs ls hp hh hs hl)
theorem x_icmp_ge (Γ : xC p s m meth c G cc nL own rt) {x y : Int32} {off : Int} {tgt : Nat} (hd : decode cc pc = .ok (.if_icmp .ge off, 3)) (ht : (pc : Int) + off = (tgt : Int)) (kt : y ≤ x → xJ p l e R s m args below meth c G nL Q P k n tgt lv st) (kf : ¬ y ≤ x → xJ p l e R s m args below meth c G nL Q P k n (pc + 3) lv st) : xJ p l e R s m args below meth c G nL Q P k n pc lv (.int y :: .int x :: st) := fun w H locs ls hp hh hs hl => lv_icmp_ge Γ.1 Γ.2.1 hd ht (fun q => kt q w H locs ls hp hh hs hl) (fun q => kf q w H locs ls hp hh hs hl)
theorem x_icmp_gt (Γ : xC p s m meth c G cc nL own rt) {x y : Int32} {off : Int} {tgt : Nat} (hd : decode cc pc = .ok (.if_icmp .gt off, 3)) (ht : (pc : Int) + off = (tgt : Int)) (kt : y < x → xJ p l e R s m args below meth c G nL Q P k n tgt lv st) (kf : ¬ y < x → xJ p l e R s m args below meth c G nL Q P k n (pc + 3) lv st) : xJ p l e R s m args below meth c G nL Q P k n pc lv (.int y :: .int x :: st) := fun w H locs ls hp hh hs hl => lv_icmp_gt Γ.1 Γ.2.1 hd ht (fun q => kt q w H locs ls hp hh hs hl) (fun q => kf q w H locs ls hp hh hs hl)
theorem x_icmp_le (Γ : xC p s m meth c G cc nL own rt) {x y : Int32} {off : Int} {tgt : Nat} (hd : decode cc pc = .ok (.if_icmp .le off, 3)) (ht : (pc : Int) + off = (tgt : Int)) (kt : x ≤ y → xJ p l e R s m args below meth c G nL Q P k n tgt lv st) (kf : ¬ x ≤ y → xJ p l e R s m args below meth c G nL Q P k n (pc + 3) lv st) : xJ p l e R s m args below meth c G nL Q P k n pc lv (.int y :: .int x :: st) := fun w H locs ls hp hh hs hl => lv_icmp_le Γ.1 Γ.2.1 hd ht (fun q => kt q w H locs ls hp hh hs hl) (fun q => kf q w H locs ls hp hh hs hl)
theorem x_if_eq (Γ : xC p s m meth c G cc nL own rt) {x : Int32} {off : Int} {tgt : Nat} (hd : decode cc pc = .ok (.ifCond .eq off, 3)) (ht : (pc : Int) + off = (tgt : Int)) (kt : x = 0 → xJ p l e R s m args below meth c G nL Q P k n tgt lv st) (kf : ¬ x = 0 → xJ p l e R s m args below meth c G nL Q P k n (pc + 3) lv st) : xJ p l e R s m args below meth c G nL Q P k n pc lv (.int x :: st) := fun w H locs ls hp hh hs hl => lv_if_eq Γ.1 Γ.2.1 hd ht (fun q => kt q w H locs ls hp hh hs hl) (fun q => kf q w H locs ls hp hh hs hl)
theorem x_if_ne (Γ : xC p s m meth c G cc nL own rt) {x : Int32} {off : Int} {tgt : Nat} (hd : decode cc pc = .ok (.ifCond .ne off, 3)) (ht : (pc : Int) + off = (tgt : Int)) (kt : ¬ x = 0 → xJ p l e R s m args below meth c G nL Q P k n tgt lv st) (kf : x = 0 → xJ p l e R s m args below meth c G nL Q P k n (pc + 3) lv st) : xJ p l e R s m args below meth c G nL Q P k n pc lv (.int x :: st) := fun w H locs ls hp hh hs hl => lv_if_ne Γ.1 Γ.2.1 hd ht (fun q => kt q w H locs ls hp hh hs hl) (fun q => kf q w H locs ls hp hh hs hl)
theorem x_if_lt (Γ : xC p s m meth c G cc nL own rt) {x : Int32} {off : Int} {tgt : Nat} (hd : decode cc pc = .ok (.ifCond .lt off, 3)) (ht : (pc : Int) + off = (tgt : Int)) (kt : x < 0 → xJ p l e R s m args below meth c G nL Q P k n tgt lv st) (kf : ¬ x < 0 → xJ p l e R s m args below meth c G nL Q P k n (pc + 3) lv st) : xJ p l e R s m args below meth c G nL Q P k n pc lv (.int x :: st) := fun w H locs ls hp hh hs hl => lv_if_lt Γ.1 Γ.2.1 hd ht (fun q => kt q w H locs ls hp hh hs hl) (fun q => kf q w H locs ls hp hh hs hl)
theorem x_if_ge (Γ : xC p s m meth c G cc nL own rt) {x : Int32} {off : Int} {tgt : Nat} (hd : decode cc pc = .ok (.ifCond .ge off, 3)) (ht : (pc : Int) + off = (tgt : Int)) (kt : 0 ≤ x → xJ p l e R s m args below meth c G nL Q P k n tgt lv st) (kf : ¬ 0 ≤ x → xJ p l e R s m args below meth c G nL Q P k n (pc + 3) lv st) : xJ p l e R s m args below meth c G nL Q P k n pc lv (.int x :: st) := fun w H locs ls hp hh hs hl => lv_if_ge Γ.1 Γ.2.1 hd ht (fun q => kt q w H locs ls hp hh hs hl) (fun q => kf q w H locs ls hp hh hs hl)
theorem x_if_gt (Γ : xC p s m meth c G cc nL own rt) {x : Int32} {off : Int} {tgt : Nat} (hd : decode cc pc = .ok (.ifCond .gt off, 3)) (ht : (pc : Int) + off = (tgt : Int)) (kt : 0 < x → xJ p l e R s m args below meth c G nL Q P k n tgt lv st) (kf : ¬ 0 < x → xJ p l e R s m args below meth c G nL Q P k n (pc + 3) lv st) : xJ p l e R s m args below meth c G nL Q P k n pc lv (.int x :: st) := fun w H locs ls hp hh hs hl => lv_if_gt Γ.1 Γ.2.1 hd ht (fun q => kt q w H locs ls hp hh hs hl) (fun q => kf q w H locs ls hp hh hs hl)
theorem x_if_le (Γ : xC p s m meth c G cc nL own rt) {x : Int32} {off : Int} {tgt : Nat} (hd : decode cc pc = .ok (.ifCond .le off, 3)) (ht : (pc : Int) + off = (tgt : Int)) (kt : x ≤ 0 → xJ p l e R s m args below meth c G nL Q P k n tgt lv st) (kf : ¬ x ≤ 0 → xJ p l e R s m args below meth c G nL Q P k n (pc + 3) lv st) : xJ p l e R s m args below meth c G nL Q P k n pc lv (.int x :: st) := fun w H locs ls hp hh hs hl => lv_if_le Γ.1 Γ.2.1 hd ht (fun q => kt q w H locs ls hp hh hs hl) (fun q => kf q w H locs ls hp hh hs hl)
theorem x_goto (Γ : xC p s m meth c G cc nL own rt) {off : Int} {tgt : Nat} (hd : decode cc pc = .ok (.goto off, 3)) (ht : (pc : Int) + off = (tgt : Int)) (kk : xJ p l e R s m args below meth c G nL Q P k n tgt lv st) : xJ p l e R s m args below meth c G nL Q P k n pc lv st := fun w H locs ls hp hh hs hl => lv_goto Γ.1 Γ.2.1 hd ht (kk w H locs ls hp hh hs hl)
theorem x_ifnull (Γ : xC p s m meth c G cc nL own rt) {x : Nat} {off : Int} (hd : decode cc pc = .ok (.ifnull off, 3)) (kk : xJ p l e R s m args below meth c G nL Q P k n (pc + 3) lv st) : xJ p l e R s m args below meth c G nL Q P k n pc lv (.ref x :: st) := fun w H locs ls hp hh hs hl => lv_ifnull Γ.1 Γ.2.1 hd (kk w H locs ls hp hh hs hl)
theorem x_ifnullN (Γ : xC p s m meth c G cc nL own rt) {off : Int} {tgt : Nat} (hd : decode cc pc = .ok (.ifnull off, 3)) (ht : (pc : Int) + off = (tgt : Int)) (kk : xJ p l e R s m args below meth c G nL Q P k n tgt lv st) : xJ p l e R s m args below meth c G nL Q P k n pc lv (.null :: st) := fun w H locs ls hp hh hs hl => lv_ifnullN Γ.1 Γ.2.1 hd ht (kk w H locs ls hp hh hs hl)
theorem x_acmp_eq (Γ : xC p s m meth c G cc nL own rt) {x y : Nat} {off : Int} {tgt : Nat} (hd : decode cc pc = .ok (.if_acmp .eq off, 3)) (ht : (pc : Int) + off = (tgt : Int)) (kt : x = y → xJ p l e R s m args below meth c G nL Q P k n tgt lv st) (kf : ¬ x = y → xJ p l e R s m args below meth c G nL Q P k n (pc + 3) lv st) : xJ p l e R s m args below meth c G nL Q P k n pc lv (.ref y :: .ref x :: st) := fun w H locs ls hp hh hs hl => lv_acmp_eq (rx := some x) (ry := some y) Γ.1 Γ.2.1 hd ht (fun q => kt (Option.some.inj q) w H locs ls hp hh hs hl) (fun q => kf (fun z => q (by rw [z])) w H locs ls hp hh hs hl)
theorem x_acmp_ne (Γ : xC p s m meth c G cc nL own rt) {x y : Nat} {off : Int} {tgt : Nat} (hd : decode cc pc = .ok (.if_acmp .ne off, 3)) (ht : (pc : Int) + off = (tgt : Int)) (kt : ¬ x = y → xJ p l e R s m args below meth c G nL Q P k n tgt lv st) (kf : x = y → xJ p l e R s m args below meth c G nL Q P k n (pc + 3) lv st) : xJ p l e R s m args below meth c G nL Q P k n pc lv (.ref y :: .ref x :: st) := fun w H locs ls hp hh hs hl => lv_acmp_ne (rx := some x) (ry := some y) Γ.1 Γ.2.1 hd ht (fun q => kt (fun z => q (by rw [z])) w H locs ls hp hh hs hl) (fun q => kf (Option.some.inj q) w H locs ls hp hh hs hl)
theorem x_lcmp (Γ : xC p s m meth c G cc nL own rt) {x y : Int64}  (hd : decode cc pc = .ok (.lcmp, 1)) (kk : xJ p l e R s m args below meth c G nL Q P k n (pc + 1) lv (.int (lg_cmp x y) :: st)) : xJ p l e R s m args below meth c G nL Q P k n pc lv (.long y :: .long x :: st) := fun w H locs ls hp hh hs hl => W.lcmp Γ.1 Γ.2.1 hd (kk w H locs ls hp hh hs hl)
end XJ
end XK
end
section
/-! the words of the tables, by their places (printed by wip/whole/gen/mkwords.py) -/
theorem k_0 : (Jvm.Cond.initialized "LeftThingsLaw") ∈ xAll := xAll_in 32 (by decide +kernel) (by decide +kernel)
theorem k_1 : (Jvm.Cond.initialized "LeftThings") ∈ xAll := xAll_in 33 (by decide +kernel) (by decide +kernel)
theorem k_2 : (Jvm.Cond.initialized "java/util/AbstractCollection") ∈ xAll := xAll_in 34 (by decide +kernel) (by decide +kernel)
theorem k_3 : (Jvm.Cond.initialized "java/util/AbstractList") ∈ xAll := xAll_in 35 (by decide +kernel) (by decide +kernel)
theorem k_4 : (Jvm.Cond.initialized "java/util/ArrayList") ∈ xAll := xAll_in 36 (by decide +kernel) (by decide +kernel)
theorem k_5 : (Jvm.Cond.initialized "java/util/Arrays") ∈ xAll := xAll_in 37 (by decide +kernel) (by decide +kernel)
theorem k_6 : (Jvm.Cond.initialized "LeftThingsModel") ∈ xAll := xAll_in 38 (by decide +kernel) (by decide +kernel)
theorem k_7 : (Jvm.Cond.initialized "java/lang/Throwable") ∈ xAll := xAll_in 39 (by decide +kernel) (by decide +kernel)
theorem k_8 : (Jvm.Cond.initialized "java/lang/Exception") ∈ xAll := xAll_in 40 (by decide +kernel) (by decide +kernel)
theorem k_9 : (Jvm.Cond.initialized "java/lang/RuntimeException") ∈ xAll := xAll_in 41 (by decide +kernel) (by decide +kernel)
theorem k_10 : (Jvm.Cond.initialized "java/lang/IllegalArgumentException") ∈ xAll := xAll_in 42 (by decide +kernel) (by decide +kernel)
theorem k_11 : (Jvm.Cond.initialized "java/util/Objects") ∈ xAll := xAll_in 43 (by decide +kernel) (by decide +kernel)
theorem k_12 : (Jvm.Cond.initialized "jdk/internal/util/Preconditions") ∈ xAll := xAll_in 44 (by decide +kernel) (by decide +kernel)
theorem k_13 : (Jvm.Cond.initialized "java/lang/IllegalStateException") ∈ xAll := xAll_in 45 (by decide +kernel) (by decide +kernel)
theorem k_14 : (Jvm.Cond.initialized "LeftThings$Thing") ∈ xAll := xAll_in 46 (by decide +kernel) (by decide +kernel)
theorem k_15 : (Jvm.Cond.initialized "LeftThings$Tag") ∈ xAll := xAll_in 47 (by decide +kernel) (by decide +kernel)
theorem k_16 : (Jvm.Cond.initialized "jdk/internal/util/ArraysSupport") ∈ xAll := xAll_in 48 (by decide +kernel) (by decide +kernel)
theorem k_17 : (Jvm.Cond.initialized "java/lang/Math") ∈ xAll := xAll_in 49 (by decide +kernel) (by decide +kernel)
theorem k_18 : (Jvm.Cond.initialized "java/lang/System") ∈ xAll := xAll_in 50 (by decide +kernel) (by decide +kernel)
theorem k_19 : (Jvm.Cond.initialized "java/lang/IndexOutOfBoundsException") ∈ xAll := xAll_in 51 (by decide +kernel) (by decide +kernel)
theorem k_20 : (Jvm.Cond.classLink "LeftThingsLaw" (8 : Nat) "LeftThings") ∈ xAll := xAll_in 52 (by decide +kernel) (by decide +kernel)
theorem k_21 : (Jvm.Cond.instantiable "LeftThings" (7 : Nat)) ∈ xAll := xAll_in 53 (by decide +kernel) (by decide +kernel)
theorem k_22 : (Jvm.Cond.methodLink "LeftThingsLaw" (70 : Nat) ({ cls := "LeftThings", name := "<init>", desc := "()V" } : Jvm.MethodName)) ∈ xAll := xAll_in 54 (by decide +kernel) (by decide +kernel)
theorem k_23 : (Jvm.Cond.instanceMethod ({ cls := "LeftThings", name := "<init>", desc := "()V" } : Jvm.MethodName)) ∈ xAll := xAll_in 55 (by decide +kernel) (by decide +kernel)
theorem k_24 : (Jvm.Cond.code ({ cls := "LeftThings", name := "<init>", desc := "()V" } : Jvm.MethodName) prog_1_method_1_code (1 : Nat) (Option.none : Option Jvm.ClassFile.FieldType)) ∈ xAll := xAll_in 56 (by decide +kernel) (by decide +kernel)
theorem k_25 : (Jvm.Cond.methodLink "LeftThings" (1 : Nat) ({ cls := "java/lang/Object", name := "<init>", desc := "()V" } : Jvm.MethodName)) ∈ xAll := xAll_in 57 (by decide +kernel) (by decide +kernel)
theorem k_26 : (Jvm.Cond.instanceMethod ({ cls := "java/lang/Object", name := "<init>", desc := "()V" } : Jvm.MethodName)) ∈ xAll := xAll_in 58 (by decide +kernel) (by decide +kernel)
theorem k_27 : (Jvm.Cond.code ({ cls := "java/lang/Object", name := "<init>", desc := "()V" } : Jvm.MethodName) object_method_1_code (1 : Nat) (Option.none : Option Jvm.ClassFile.FieldType)) ∈ xAll := xAll_in 59 (by decide +kernel) (by decide +kernel)
theorem k_28 : (Jvm.Cond.classLink "LeftThings" (16 : Nat) "java/util/ArrayList") ∈ xAll := xAll_in 60 (by decide +kernel) (by decide +kernel)
theorem k_29 : (Jvm.Cond.instantiable "java/util/ArrayList" (3 : Nat)) ∈ xAll := xAll_in 61 (by decide +kernel) (by decide +kernel)
theorem k_30 : (Jvm.Cond.methodLink "LeftThings" (18 : Nat) ({ cls := "java/util/ArrayList", name := "<init>", desc := "()V" } : Jvm.MethodName)) ∈ xAll := xAll_in 62 (by decide +kernel) (by decide +kernel)
theorem k_31 : (Jvm.Cond.instanceMethod ({ cls := "java/util/ArrayList", name := "<init>", desc := "()V" } : Jvm.MethodName)) ∈ xAll := xAll_in 63 (by decide +kernel) (by decide +kernel)
theorem k_32 : (Jvm.Cond.code ({ cls := "java/util/ArrayList", name := "<init>", desc := "()V" } : Jvm.MethodName) prog_20_method_2_code (1 : Nat) (Option.none : Option Jvm.ClassFile.FieldType)) ∈ xAll := xAll_in 64 (by decide +kernel) (by decide +kernel)
theorem k_33 : (Jvm.Cond.methodLink "java/util/ArrayList" (1 : Nat) ({ cls := "java/util/AbstractList", name := "<init>", desc := "()V" } : Jvm.MethodName)) ∈ xAll := xAll_in 65 (by decide +kernel) (by decide +kernel)
theorem k_34 : (Jvm.Cond.instanceMethod ({ cls := "java/util/AbstractList", name := "<init>", desc := "()V" } : Jvm.MethodName)) ∈ xAll := xAll_in 66 (by decide +kernel) (by decide +kernel)
theorem k_35 : (Jvm.Cond.code ({ cls := "java/util/AbstractList", name := "<init>", desc := "()V" } : Jvm.MethodName) prog_19_method_1_code (1 : Nat) (Option.none : Option Jvm.ClassFile.FieldType)) ∈ xAll := xAll_in 67 (by decide +kernel) (by decide +kernel)
theorem k_36 : (Jvm.Cond.methodLink "java/util/AbstractList" (1 : Nat) ({ cls := "java/util/AbstractCollection", name := "<init>", desc := "()V" } : Jvm.MethodName)) ∈ xAll := xAll_in 68 (by decide +kernel) (by decide +kernel)
theorem k_37 : (Jvm.Cond.instanceMethod ({ cls := "java/util/AbstractCollection", name := "<init>", desc := "()V" } : Jvm.MethodName)) ∈ xAll := xAll_in 69 (by decide +kernel) (by decide +kernel)
theorem k_38 : (Jvm.Cond.code ({ cls := "java/util/AbstractCollection", name := "<init>", desc := "()V" } : Jvm.MethodName) prog_18_method_1_code (1 : Nat) (Option.none : Option Jvm.ClassFile.FieldType)) ∈ xAll := xAll_in 70 (by decide +kernel) (by decide +kernel)
theorem k_39 : (Jvm.Cond.methodLink "java/util/AbstractCollection" (1 : Nat) ({ cls := "java/lang/Object", name := "<init>", desc := "()V" } : Jvm.MethodName)) ∈ xAll := xAll_in 71 (by decide +kernel) (by decide +kernel)
theorem k_40 : (Jvm.Cond.fieldLink "java/util/ArrayList" (39 : Nat) "java/util/ArrayList" "DEFAULTCAPACITY_EMPTY_ELEMENTDATA" "[Ljava/lang/Object;") ∈ xAll := xAll_in 72 (by decide +kernel) (by decide +kernel)
theorem k_42 : (Jvm.Cond.fieldLink "java/util/ArrayList" (9 : Nat) "java/util/ArrayList" "elementData" "[Ljava/lang/Object;") ∈ xAll := xAll_in 74 (by decide +kernel) (by decide +kernel)
theorem k_43 : (Jvm.Cond.fieldLink "java/util/ArrayList" (48 : Nat) "java/util/ArrayList" "size" "I") ∈ xAll := xAll_in 75 (by decide +kernel) (by decide +kernel)
theorem k_44 : (Jvm.Cond.fieldLink "java/util/AbstractList" (7 : Nat) "java/util/AbstractList" "modCount" "I") ∈ xAll := xAll_in 76 (by decide +kernel) (by decide +kernel)
theorem k_45 : (Jvm.Cond.fieldLink "java/util/ArrayList" (63 : Nat) "java/util/ArrayList" "modCount" "I") ∈ xAll := xAll_in 77 (by decide +kernel) (by decide +kernel)
theorem k_46 : (Jvm.Cond.sameField "java/util/ArrayList" "java/util/AbstractList" "modCount" "I") ∈ xAll := xAll_in 78 (by decide +kernel) (by decide +kernel)
theorem k_47 : (Jvm.Cond.lays "java/util/ArrayList" "java/util/ArrayList" "elementData" "[Ljava/lang/Object;") ∈ xAll := xAll_in 79 (by decide +kernel) (by decide +kernel)
theorem k_48 : (Jvm.Cond.soleField "java/util/ArrayList" "elementData") ∈ xAll := xAll_in 80 (by decide +kernel) (by decide +kernel)
theorem k_49 : (Jvm.Cond.lays "java/util/ArrayList" "java/util/ArrayList" "size" "I") ∈ xAll := xAll_in 81 (by decide +kernel) (by decide +kernel)
theorem k_50 : (Jvm.Cond.soleField "java/util/ArrayList" "size") ∈ xAll := xAll_in 82 (by decide +kernel) (by decide +kernel)
theorem k_51 : (Jvm.Cond.lays "java/util/ArrayList" "java/util/AbstractList" "modCount" "I") ∈ xAll := xAll_in 83 (by decide +kernel) (by decide +kernel)
theorem k_52 : (Jvm.Cond.soleField "java/util/AbstractList" "modCount") ∈ xAll := xAll_in 84 (by decide +kernel) (by decide +kernel)
theorem k_53 : (Jvm.Cond.superclass "java/util/ArrayList" "java/util/AbstractList") ∈ xAll := xAll_in 85 (by decide +kernel) (by decide +kernel)
theorem k_55 : (Jvm.Cond.methodLink "LeftThings" (36 : Nat) ({ cls := "java/util/Arrays", name := "fill", desc := "([II)V" } : Jvm.MethodName)) ∈ xAll := xAll_in 87 (by decide +kernel) (by decide +kernel)
theorem k_56 : (Jvm.Cond.static ({ cls := "java/util/Arrays", name := "fill", desc := "([II)V" } : Jvm.MethodName)) ∈ xAll := xAll_in 88 (by decide +kernel) (by decide +kernel)
theorem k_57 : (Jvm.Cond.code ({ cls := "java/util/Arrays", name := "fill", desc := "([II)V" } : Jvm.MethodName) prog_21_method_103_code (4 : Nat) (Option.none : Option Jvm.ClassFile.FieldType)) ∈ xAll := xAll_in 89 (by decide +kernel) (by decide +kernel)
theorem k_58 : (Jvm.Cond.fieldLink "LeftThings" (9 : Nat) "LeftThings" "rooms" "[I") ∈ xAll := xAll_in 90 (by decide +kernel) (by decide +kernel)
theorem k_59 : (Jvm.Cond.fieldLink "LeftThings" (13 : Nat) "LeftThings" "purses" "[I") ∈ xAll := xAll_in 91 (by decide +kernel) (by decide +kernel)
theorem k_60 : (Jvm.Cond.fieldLink "LeftThings" (19 : Nat) "LeftThings" "leftThings" "Ljava/util/ArrayList;") ∈ xAll := xAll_in 92 (by decide +kernel) (by decide +kernel)
theorem k_61 : (Jvm.Cond.fieldLink "LeftThings" (23 : Nat) "LeftThings" "wishes" "Ljava/util/ArrayList;") ∈ xAll := xAll_in 93 (by decide +kernel) (by decide +kernel)
theorem k_62 : (Jvm.Cond.fieldLink "LeftThings" (26 : Nat) "LeftThings" "vanRoom" "I") ∈ xAll := xAll_in 94 (by decide +kernel) (by decide +kernel)
theorem k_63 : (Jvm.Cond.fieldLink "LeftThings" (30 : Nat) "LeftThings" "today" "I") ∈ xAll := xAll_in 95 (by decide +kernel) (by decide +kernel)
theorem k_64 : (Jvm.Cond.fieldLink "LeftThings" (33 : Nat) "LeftThings" "takenFees" "I") ∈ xAll := xAll_in 96 (by decide +kernel) (by decide +kernel)
theorem k_65 : (Jvm.Cond.laysFinal "LeftThings" "LeftThings" "rooms" "[I") ∈ xAll := xAll_in 97 (by decide +kernel) (by decide +kernel)
theorem k_66 : (Jvm.Cond.soleField "LeftThings" "rooms") ∈ xAll := xAll_in 98 (by decide +kernel) (by decide +kernel)
theorem k_67 : (Jvm.Cond.laysFinal "LeftThings" "LeftThings" "purses" "[I") ∈ xAll := xAll_in 99 (by decide +kernel) (by decide +kernel)
theorem k_68 : (Jvm.Cond.soleField "LeftThings" "purses") ∈ xAll := xAll_in 100 (by decide +kernel) (by decide +kernel)
theorem k_69 : (Jvm.Cond.laysFinal "LeftThings" "LeftThings" "leftThings" "Ljava/util/ArrayList;") ∈ xAll := xAll_in 101 (by decide +kernel) (by decide +kernel)
theorem k_70 : (Jvm.Cond.soleField "LeftThings" "leftThings") ∈ xAll := xAll_in 102 (by decide +kernel) (by decide +kernel)
theorem k_71 : (Jvm.Cond.laysFinal "LeftThings" "LeftThings" "wishes" "Ljava/util/ArrayList;") ∈ xAll := xAll_in 103 (by decide +kernel) (by decide +kernel)
theorem k_72 : (Jvm.Cond.soleField "LeftThings" "wishes") ∈ xAll := xAll_in 104 (by decide +kernel) (by decide +kernel)
theorem k_73 : (Jvm.Cond.lays "LeftThings" "LeftThings" "vanRoom" "I") ∈ xAll := xAll_in 105 (by decide +kernel) (by decide +kernel)
theorem k_74 : (Jvm.Cond.soleField "LeftThings" "vanRoom") ∈ xAll := xAll_in 106 (by decide +kernel) (by decide +kernel)
theorem k_75 : (Jvm.Cond.lays "LeftThings" "LeftThings" "today" "I") ∈ xAll := xAll_in 107 (by decide +kernel) (by decide +kernel)
theorem k_76 : (Jvm.Cond.soleField "LeftThings" "today") ∈ xAll := xAll_in 108 (by decide +kernel) (by decide +kernel)
theorem k_77 : (Jvm.Cond.lays "LeftThings" "LeftThings" "takenFees" "I") ∈ xAll := xAll_in 109 (by decide +kernel) (by decide +kernel)
theorem k_78 : (Jvm.Cond.soleField "LeftThings" "takenFees") ∈ xAll := xAll_in 110 (by decide +kernel) (by decide +kernel)
theorem k_79 : (Jvm.Cond.superclass "LeftThings" "java/lang/Object") ∈ xAll := xAll_in 111 (by decide +kernel) (by decide +kernel)
theorem k_80 : (Jvm.Cond.methodLink "LeftThingsLaw" (114 : Nat) ({ cls := "LeftThings", name := "day", desc := "()I" } : Jvm.MethodName)) ∈ xAll := xAll_in 112 (by decide +kernel) (by decide +kernel)
theorem k_81 : (Jvm.Cond.instanceMethod ({ cls := "LeftThings", name := "day", desc := "()I" } : Jvm.MethodName)) ∈ xAll := xAll_in 113 (by decide +kernel) (by decide +kernel)
theorem k_82 : (Jvm.Cond.selects "LeftThings" ({ cls := "LeftThings", name := "day", desc := "()I" } : Jvm.MethodName) ({ cls := "LeftThings", name := "day", desc := "()I" } : Jvm.MethodName)) ∈ xAll := xAll_in 114 (by decide +kernel) (by decide +kernel)
theorem k_83 : (Jvm.Cond.code ({ cls := "LeftThings", name := "day", desc := "()I" } : Jvm.MethodName) prog_1_method_12_code (1 : Nat) (Option.some Jvm.ClassFile.FieldType.int)) ∈ xAll := xAll_in 115 (by decide +kernel) (by decide +kernel)
theorem k_84 : (Jvm.Cond.methodLink "LeftThingsLaw" (118 : Nat) ({ cls := "LeftThings", name := "things", desc := "()I" } : Jvm.MethodName)) ∈ xAll := xAll_in 116 (by decide +kernel) (by decide +kernel)
theorem k_85 : (Jvm.Cond.instanceMethod ({ cls := "LeftThings", name := "things", desc := "()I" } : Jvm.MethodName)) ∈ xAll := xAll_in 117 (by decide +kernel) (by decide +kernel)
theorem k_86 : (Jvm.Cond.selects "LeftThings" ({ cls := "LeftThings", name := "things", desc := "()I" } : Jvm.MethodName) ({ cls := "LeftThings", name := "things", desc := "()I" } : Jvm.MethodName)) ∈ xAll := xAll_in 118 (by decide +kernel) (by decide +kernel)
theorem k_87 : (Jvm.Cond.code ({ cls := "LeftThings", name := "things", desc := "()I" } : Jvm.MethodName) prog_1_method_13_code (1 : Nat) (Option.some Jvm.ClassFile.FieldType.int)) ∈ xAll := xAll_in 119 (by decide +kernel) (by decide +kernel)
theorem k_88 : (Jvm.Cond.methodLink "LeftThings" (63 : Nat) ({ cls := "java/util/ArrayList", name := "size", desc := "()I" } : Jvm.MethodName)) ∈ xAll := xAll_in 120 (by decide +kernel) (by decide +kernel)
theorem k_89 : (Jvm.Cond.instanceMethod ({ cls := "java/util/ArrayList", name := "size", desc := "()I" } : Jvm.MethodName)) ∈ xAll := xAll_in 121 (by decide +kernel) (by decide +kernel)
theorem k_90 : (Jvm.Cond.selects "java/util/ArrayList" ({ cls := "java/util/ArrayList", name := "size", desc := "()I" } : Jvm.MethodName) ({ cls := "java/util/ArrayList", name := "size", desc := "()I" } : Jvm.MethodName)) ∈ xAll := xAll_in 122 (by decide +kernel) (by decide +kernel)
theorem k_91 : (Jvm.Cond.code ({ cls := "java/util/ArrayList", name := "size", desc := "()I" } : Jvm.MethodName) prog_20_method_8_code (1 : Nat) (Option.some Jvm.ClassFile.FieldType.int)) ∈ xAll := xAll_in 123 (by decide +kernel) (by decide +kernel)
theorem k_92 : (Jvm.Cond.methodLink "LeftThingsLaw" (140 : Nat) ({ cls := "LeftThings", name := "taken", desc := "()I" } : Jvm.MethodName)) ∈ xAll := xAll_in 124 (by decide +kernel) (by decide +kernel)
theorem k_93 : (Jvm.Cond.instanceMethod ({ cls := "LeftThings", name := "taken", desc := "()I" } : Jvm.MethodName)) ∈ xAll := xAll_in 125 (by decide +kernel) (by decide +kernel)
theorem k_94 : (Jvm.Cond.selects "LeftThings" ({ cls := "LeftThings", name := "taken", desc := "()I" } : Jvm.MethodName) ({ cls := "LeftThings", name := "taken", desc := "()I" } : Jvm.MethodName)) ∈ xAll := xAll_in 126 (by decide +kernel) (by decide +kernel)
theorem k_95 : (Jvm.Cond.code ({ cls := "LeftThings", name := "taken", desc := "()I" } : Jvm.MethodName) prog_1_method_20_code (1 : Nat) (Option.some Jvm.ClassFile.FieldType.int)) ∈ xAll := xAll_in 127 (by decide +kernel) (by decide +kernel)
theorem k_96 : (Jvm.Cond.methodLink "LeftThingsLaw" (74 : Nat) ({ cls := "LeftThingsLaw", name := "setRoom", desc := "(LLeftThings;II[J)I" } : Jvm.MethodName)) ∈ xAll := xAll_in 128 (by decide +kernel) (by decide +kernel)
theorem k_97 : (Jvm.Cond.static ({ cls := "LeftThingsLaw", name := "setRoom", desc := "(LLeftThings;II[J)I" } : Jvm.MethodName)) ∈ xAll := xAll_in 129 (by decide +kernel) (by decide +kernel)
theorem k_98 : (Jvm.Cond.codeWith ({ cls := "LeftThingsLaw", name := "setRoom", desc := "(LLeftThings;II[J)I" } : Jvm.MethodName) method_3_code (5 : Nat) (Option.some Jvm.ClassFile.FieldType.int) [((0 : Nat), (10 : Nat), (13 : Nat), (13 : Nat))]) ∈ xAll := xAll_in 130 (by decide +kernel) (by decide +kernel)
theorem k_99 : (Jvm.Cond.classLink "LeftThingsLaw" (13 : Nat) "java/lang/IllegalArgumentException") ∈ xAll := xAll_in 131 (by decide +kernel) (by decide +kernel)
theorem k_100 : (Jvm.Cond.methodLink "LeftThingsLaw" (7 : Nat) ({ cls := "LeftThings", name := "setRoom", desc := "(II)I" } : Jvm.MethodName)) ∈ xAll := xAll_in 132 (by decide +kernel) (by decide +kernel)
theorem k_101 : (Jvm.Cond.instanceMethod ({ cls := "LeftThings", name := "setRoom", desc := "(II)I" } : Jvm.MethodName)) ∈ xAll := xAll_in 133 (by decide +kernel) (by decide +kernel)
theorem k_102 : (Jvm.Cond.selects "LeftThings" ({ cls := "LeftThings", name := "setRoom", desc := "(II)I" } : Jvm.MethodName) ({ cls := "LeftThings", name := "setRoom", desc := "(II)I" } : Jvm.MethodName)) ∈ xAll := xAll_in 134 (by decide +kernel) (by decide +kernel)
theorem k_103 : (Jvm.Cond.code ({ cls := "LeftThings", name := "setRoom", desc := "(II)I" } : Jvm.MethodName) prog_1_method_2_code (4 : Nat) (Option.some Jvm.ClassFile.FieldType.int)) ∈ xAll := xAll_in 135 (by decide +kernel) (by decide +kernel)
theorem k_104 : (Jvm.Cond.methodLink "LeftThings" (42 : Nat) ({ cls := "LeftThings", name := "isCounter", desc := "(I)Z" } : Jvm.MethodName)) ∈ xAll := xAll_in 136 (by decide +kernel) (by decide +kernel)
theorem k_105 : (Jvm.Cond.static ({ cls := "LeftThings", name := "isCounter", desc := "(I)Z" } : Jvm.MethodName)) ∈ xAll := xAll_in 137 (by decide +kernel) (by decide +kernel)
theorem k_106 : (Jvm.Cond.code ({ cls := "LeftThings", name := "isCounter", desc := "(I)Z" } : Jvm.MethodName) prog_1_method_22_code (1 : Nat) (Option.some Jvm.ClassFile.FieldType.boolean)) ∈ xAll := xAll_in 138 (by decide +kernel) (by decide +kernel)
theorem k_107 : (Jvm.Cond.methodLink "LeftThings" (46 : Nat) ({ cls := "LeftThings", name := "isRoom", desc := "(I)Z" } : Jvm.MethodName)) ∈ xAll := xAll_in 139 (by decide +kernel) (by decide +kernel)
theorem k_108 : (Jvm.Cond.static ({ cls := "LeftThings", name := "isRoom", desc := "(I)Z" } : Jvm.MethodName)) ∈ xAll := xAll_in 140 (by decide +kernel) (by decide +kernel)
theorem k_109 : (Jvm.Cond.code ({ cls := "LeftThings", name := "isRoom", desc := "(I)Z" } : Jvm.MethodName) prog_1_method_24_code (1 : Nat) (Option.some Jvm.ClassFile.FieldType.boolean)) ∈ xAll := xAll_in 141 (by decide +kernel) (by decide +kernel)
theorem k_110 : (Jvm.Cond.classLink "LeftThings" (49 : Nat) "java/lang/IllegalArgumentException") ∈ xAll := xAll_in 142 (by decide +kernel) (by decide +kernel)
theorem k_111 : (Jvm.Cond.instantiable "java/lang/IllegalArgumentException" (6 : Nat)) ∈ xAll := xAll_in 143 (by decide +kernel) (by decide +kernel)
theorem k_112 : (Jvm.Cond.castable "java/lang/IllegalArgumentException" "java/lang/IllegalArgumentException") ∈ xAll := xAll_in 144 (by decide +kernel) (by decide +kernel)
theorem k_113 : (Jvm.Cond.declares ({ cls := "java/lang/RuntimeException", name := "<init>", desc := "()V" } : Jvm.MethodName)) ∈ xAll := xAll_in 145 (by decide +kernel) (by decide +kernel)
theorem k_114 : (Jvm.Cond.declares ({ cls := "java/lang/RuntimeException", name := "<init>", desc := "(Ljava/lang/String;)V" } : Jvm.MethodName)) ∈ xAll := xAll_in 146 (by decide +kernel) (by decide +kernel)
theorem k_115 : (Jvm.Cond.declares ({ cls := "java/lang/Exception", name := "<init>", desc := "()V" } : Jvm.MethodName)) ∈ xAll := xAll_in 147 (by decide +kernel) (by decide +kernel)
theorem k_116 : (Jvm.Cond.declares ({ cls := "java/lang/Exception", name := "<init>", desc := "(Ljava/lang/String;)V" } : Jvm.MethodName)) ∈ xAll := xAll_in 148 (by decide +kernel) (by decide +kernel)
theorem k_117 : (Jvm.Cond.declares ({ cls := "java/lang/Throwable", name := "<init>", desc := "()V" } : Jvm.MethodName)) ∈ xAll := xAll_in 149 (by decide +kernel) (by decide +kernel)
theorem k_118 : (Jvm.Cond.declares ({ cls := "java/lang/Throwable", name := "<init>", desc := "(Ljava/lang/String;)V" } : Jvm.MethodName)) ∈ xAll := xAll_in 150 (by decide +kernel) (by decide +kernel)
theorem k_119 : (Jvm.Cond.selects "java/lang/IllegalArgumentException" ({ cls := "java/lang/Throwable", name := "fillInStackTrace", desc := "(I)Ljava/lang/Throwable;" } : Jvm.MethodName) ({ cls := "java/lang/Throwable", name := "fillInStackTrace", desc := "(I)Ljava/lang/Throwable;" } : Jvm.MethodName)) ∈ xAll := xAll_in 151 (by decide +kernel) (by decide +kernel)
theorem k_120 : (Jvm.Cond.selects "java/lang/IllegalArgumentException" ({ cls := "java/lang/Throwable", name := "fillInStackTrace", desc := "()Ljava/lang/Throwable;" } : Jvm.MethodName) ({ cls := "java/lang/Throwable", name := "fillInStackTrace", desc := "()Ljava/lang/Throwable;" } : Jvm.MethodName)) ∈ xAll := xAll_in 152 (by decide +kernel) (by decide +kernel)
theorem k_121 : (Jvm.Cond.lays "java/lang/IllegalArgumentException" "java/lang/Throwable" "cause" "Ljava/lang/Throwable;") ∈ xAll := xAll_in 153 (by decide +kernel) (by decide +kernel)
theorem k_122 : (Jvm.Cond.lays "java/lang/Throwable" "java/lang/Throwable" "cause" "Ljava/lang/Throwable;") ∈ xAll := xAll_in 154 (by decide +kernel) (by decide +kernel)
theorem k_123 : (Jvm.Cond.lays "java/lang/IllegalArgumentException" "java/lang/Throwable" "stackTrace" "[Ljava/lang/StackTraceElement;") ∈ xAll := xAll_in 155 (by decide +kernel) (by decide +kernel)
theorem k_124 : (Jvm.Cond.lays "java/lang/Throwable" "java/lang/Throwable" "stackTrace" "[Ljava/lang/StackTraceElement;") ∈ xAll := xAll_in 156 (by decide +kernel) (by decide +kernel)
theorem k_125 : (Jvm.Cond.lays "java/lang/IllegalArgumentException" "java/lang/Throwable" "suppressedExceptions" "Ljava/util/List;") ∈ xAll := xAll_in 157 (by decide +kernel) (by decide +kernel)
theorem k_126 : (Jvm.Cond.lays "java/lang/Throwable" "java/lang/Throwable" "suppressedExceptions" "Ljava/util/List;") ∈ xAll := xAll_in 158 (by decide +kernel) (by decide +kernel)
theorem k_127 : (Jvm.Cond.lays "java/lang/IllegalArgumentException" "java/lang/Throwable" "detailMessage" "Ljava/lang/String;") ∈ xAll := xAll_in 159 (by decide +kernel) (by decide +kernel)
theorem k_128 : (Jvm.Cond.lays "java/lang/Throwable" "java/lang/Throwable" "detailMessage" "Ljava/lang/String;") ∈ xAll := xAll_in 160 (by decide +kernel) (by decide +kernel)
theorem k_129 : (Jvm.Cond.lays "java/lang/IllegalArgumentException" "java/lang/Throwable" "backtrace" "Ljava/lang/Object;") ∈ xAll := xAll_in 161 (by decide +kernel) (by decide +kernel)
theorem k_130 : (Jvm.Cond.lays "java/lang/Throwable" "java/lang/Throwable" "backtrace" "Ljava/lang/Object;") ∈ xAll := xAll_in 162 (by decide +kernel) (by decide +kernel)
theorem k_131 : (Jvm.Cond.fieldLink "java/lang/Throwable" (198 : Nat) "java/lang/Throwable" "backtrace" "Ljava/lang/Object;") ∈ xAll := xAll_in 163 (by decide +kernel) (by decide +kernel)
theorem k_132 : (Jvm.Cond.superclass "java/lang/Throwable" "java/lang/Object") ∈ xAll := xAll_in 164 (by decide +kernel) (by decide +kernel)
theorem k_133 : (Jvm.Cond.instanceMethod ({ cls := "java/lang/Throwable", name := "<init>", desc := "()V" } : Jvm.MethodName)) ∈ xAll := xAll_in 165 (by decide +kernel) (by decide +kernel)
theorem k_134 : (Jvm.Cond.code ({ cls := "java/lang/Throwable", name := "<init>", desc := "()V" } : Jvm.MethodName) prog_17_method_1_code (1 : Nat) (Option.none : Option Jvm.ClassFile.FieldType)) ∈ xAll := xAll_in 166 (by decide +kernel) (by decide +kernel)
theorem k_135 : (Jvm.Cond.methodLink "java/lang/Throwable" (1 : Nat) ({ cls := "java/lang/Object", name := "<init>", desc := "()V" } : Jvm.MethodName)) ∈ xAll := xAll_in 167 (by decide +kernel) (by decide +kernel)
theorem k_136 : (Jvm.Cond.fieldLink "java/lang/Throwable" (13 : Nat) "java/lang/Throwable" "UNASSIGNED_STACK" "[Ljava/lang/StackTraceElement;") ∈ xAll := xAll_in 168 (by decide +kernel) (by decide +kernel)
theorem k_138 : (Jvm.Cond.fieldLink "java/lang/Throwable" (20 : Nat) "java/lang/Throwable" "SUPPRESSED_SENTINEL" "Ljava/util/List;") ∈ xAll := xAll_in 170 (by decide +kernel) (by decide +kernel)
theorem k_140 : (Jvm.Cond.methodLink "java/lang/Throwable" (27 : Nat) ({ cls := "java/lang/Throwable", name := "fillInStackTrace", desc := "()Ljava/lang/Throwable;" } : Jvm.MethodName)) ∈ xAll := xAll_in 172 (by decide +kernel) (by decide +kernel)
theorem k_141 : (Jvm.Cond.instanceMethod ({ cls := "java/lang/Throwable", name := "fillInStackTrace", desc := "()Ljava/lang/Throwable;" } : Jvm.MethodName)) ∈ xAll := xAll_in 173 (by decide +kernel) (by decide +kernel)
theorem k_142 : (Jvm.Cond.sameMethod "java/lang/Throwable" "java/lang/Throwable" "fillInStackTrace" "()Ljava/lang/Throwable;") ∈ xAll := xAll_in 174 (by decide +kernel) (by decide +kernel)
theorem k_143 : (Jvm.Cond.selects "java/lang/IllegalStateException" ({ cls := "java/lang/Throwable", name := "fillInStackTrace", desc := "()Ljava/lang/Throwable;" } : Jvm.MethodName) ({ cls := "java/lang/Throwable", name := "fillInStackTrace", desc := "()Ljava/lang/Throwable;" } : Jvm.MethodName)) ∈ xAll := xAll_in 175 (by decide +kernel) (by decide +kernel)
theorem k_144 : (Jvm.Cond.selects "java/lang/IndexOutOfBoundsException" ({ cls := "java/lang/Throwable", name := "fillInStackTrace", desc := "()Ljava/lang/Throwable;" } : Jvm.MethodName) ({ cls := "java/lang/Throwable", name := "fillInStackTrace", desc := "()Ljava/lang/Throwable;" } : Jvm.MethodName)) ∈ xAll := xAll_in 176 (by decide +kernel) (by decide +kernel)
theorem k_145 : (Jvm.Cond.codeSync ({ cls := "java/lang/Throwable", name := "fillInStackTrace", desc := "()Ljava/lang/Throwable;" } : Jvm.MethodName) prog_17_method_18_code (1 : Nat) (Option.some (Jvm.ClassFile.FieldType.object "java/lang/Throwable"))) ∈ xAll := xAll_in 177 (by decide +kernel) (by decide +kernel)
theorem k_146 : (Jvm.Cond.methodLink "java/lang/Throwable" (202 : Nat) ({ cls := "java/lang/Throwable", name := "fillInStackTrace", desc := "(I)Ljava/lang/Throwable;" } : Jvm.MethodName)) ∈ xAll := xAll_in 178 (by decide +kernel) (by decide +kernel)
theorem k_147 : (Jvm.Cond.privateMethod ({ cls := "java/lang/Throwable", name := "fillInStackTrace", desc := "(I)Ljava/lang/Throwable;" } : Jvm.MethodName)) ∈ xAll := xAll_in 179 (by decide +kernel) (by decide +kernel)
theorem k_148 : (Jvm.Cond.instanceMethod ({ cls := "java/lang/Throwable", name := "fillInStackTrace", desc := "(I)Ljava/lang/Throwable;" } : Jvm.MethodName)) ∈ xAll := xAll_in 180 (by decide +kernel) (by decide +kernel)
theorem k_149 : (Jvm.Cond.instantiable "java/lang/Throwable" (6 : Nat)) ∈ xAll := xAll_in 181 (by decide +kernel) (by decide +kernel)
theorem k_150 : (Jvm.Cond.native ({ cls := "java/lang/Throwable", name := "fillInStackTrace", desc := "(I)Ljava/lang/Throwable;" } : Jvm.MethodName)) ∈ xAll := xAll_in 182 (by decide +kernel) (by decide +kernel)
theorem k_152 : (Jvm.Cond.methodLink "LeftThings" (53 : Nat) ({ cls := "java/lang/IllegalArgumentException", name := "<init>", desc := "(Ljava/lang/String;)V" } : Jvm.MethodName)) ∈ xAll := xAll_in 184 (by decide +kernel) (by decide +kernel)
theorem k_153 : (Jvm.Cond.instanceMethod ({ cls := "java/lang/IllegalArgumentException", name := "<init>", desc := "(Ljava/lang/String;)V" } : Jvm.MethodName)) ∈ xAll := xAll_in 185 (by decide +kernel) (by decide +kernel)
theorem k_154 : (Jvm.Cond.code ({ cls := "java/lang/IllegalArgumentException", name := "<init>", desc := "(Ljava/lang/String;)V" } : Jvm.MethodName) prog_9_method_2_code (2 : Nat) (Option.none : Option Jvm.ClassFile.FieldType)) ∈ xAll := xAll_in 186 (by decide +kernel) (by decide +kernel)
theorem k_155 : (Jvm.Cond.methodLink "java/lang/IllegalArgumentException" (7 : Nat) ({ cls := "java/lang/RuntimeException", name := "<init>", desc := "(Ljava/lang/String;)V" } : Jvm.MethodName)) ∈ xAll := xAll_in 187 (by decide +kernel) (by decide +kernel)
theorem k_156 : (Jvm.Cond.instanceMethod ({ cls := "java/lang/RuntimeException", name := "<init>", desc := "(Ljava/lang/String;)V" } : Jvm.MethodName)) ∈ xAll := xAll_in 188 (by decide +kernel) (by decide +kernel)
theorem k_157 : (Jvm.Cond.code ({ cls := "java/lang/RuntimeException", name := "<init>", desc := "(Ljava/lang/String;)V" } : Jvm.MethodName) prog_14_method_2_code (2 : Nat) (Option.none : Option Jvm.ClassFile.FieldType)) ∈ xAll := xAll_in 189 (by decide +kernel) (by decide +kernel)
theorem k_158 : (Jvm.Cond.methodLink "java/lang/RuntimeException" (7 : Nat) ({ cls := "java/lang/Exception", name := "<init>", desc := "(Ljava/lang/String;)V" } : Jvm.MethodName)) ∈ xAll := xAll_in 190 (by decide +kernel) (by decide +kernel)
theorem k_159 : (Jvm.Cond.instanceMethod ({ cls := "java/lang/Exception", name := "<init>", desc := "(Ljava/lang/String;)V" } : Jvm.MethodName)) ∈ xAll := xAll_in 191 (by decide +kernel) (by decide +kernel)
theorem k_160 : (Jvm.Cond.code ({ cls := "java/lang/Exception", name := "<init>", desc := "(Ljava/lang/String;)V" } : Jvm.MethodName) prog_8_method_2_code (2 : Nat) (Option.none : Option Jvm.ClassFile.FieldType)) ∈ xAll := xAll_in 192 (by decide +kernel) (by decide +kernel)
theorem k_161 : (Jvm.Cond.methodLink "java/lang/Exception" (7 : Nat) ({ cls := "java/lang/Throwable", name := "<init>", desc := "(Ljava/lang/String;)V" } : Jvm.MethodName)) ∈ xAll := xAll_in 193 (by decide +kernel) (by decide +kernel)
theorem k_162 : (Jvm.Cond.instanceMethod ({ cls := "java/lang/Throwable", name := "<init>", desc := "(Ljava/lang/String;)V" } : Jvm.MethodName)) ∈ xAll := xAll_in 194 (by decide +kernel) (by decide +kernel)
theorem k_163 : (Jvm.Cond.code ({ cls := "java/lang/Throwable", name := "<init>", desc := "(Ljava/lang/String;)V" } : Jvm.MethodName) prog_17_method_2_code (2 : Nat) (Option.none : Option Jvm.ClassFile.FieldType)) ∈ xAll := xAll_in 195 (by decide +kernel) (by decide +kernel)
theorem k_164 : (Jvm.Cond.fieldLink "java/lang/Throwable" (198 : Nat) "java/lang/Throwable" "backtrace" "Ljava/lang/Object;") ∈ xAll := xAll_in 196 (by decide +kernel) (by decide +kernel)
theorem k_165 : (Jvm.Cond.fieldLink "java/lang/Throwable" (31 : Nat) "java/lang/Throwable" "detailMessage" "Ljava/lang/String;") ∈ xAll := xAll_in 197 (by decide +kernel) (by decide +kernel)
theorem k_166 : (Jvm.Cond.fieldLink "java/lang/Throwable" (7 : Nat) "java/lang/Throwable" "cause" "Ljava/lang/Throwable;") ∈ xAll := xAll_in 198 (by decide +kernel) (by decide +kernel)
theorem k_167 : (Jvm.Cond.fieldLink "java/lang/Throwable" (17 : Nat) "java/lang/Throwable" "stackTrace" "[Ljava/lang/StackTraceElement;") ∈ xAll := xAll_in 199 (by decide +kernel) (by decide +kernel)
theorem k_168 : (Jvm.Cond.fieldLink "java/lang/Throwable" (24 : Nat) "java/lang/Throwable" "suppressedExceptions" "Ljava/util/List;") ∈ xAll := xAll_in 200 (by decide +kernel) (by decide +kernel)
theorem k_169 : (Jvm.Cond.soleField "java/lang/Throwable" "backtrace") ∈ xAll := xAll_in 201 (by decide +kernel) (by decide +kernel)
theorem k_170 : (Jvm.Cond.soleField "java/lang/Throwable" "detailMessage") ∈ xAll := xAll_in 202 (by decide +kernel) (by decide +kernel)
theorem k_171 : (Jvm.Cond.soleField "java/lang/Throwable" "cause") ∈ xAll := xAll_in 203 (by decide +kernel) (by decide +kernel)
theorem k_172 : (Jvm.Cond.soleField "java/lang/Throwable" "stackTrace") ∈ xAll := xAll_in 204 (by decide +kernel) (by decide +kernel)
theorem k_173 : (Jvm.Cond.lays "java/lang/IllegalArgumentException" "java/lang/Throwable" "depth" "I") ∈ xAll := xAll_in 205 (by decide +kernel) (by decide +kernel)
theorem k_174 : (Jvm.Cond.soleField "java/lang/Throwable" "depth") ∈ xAll := xAll_in 206 (by decide +kernel) (by decide +kernel)
theorem k_175 : (Jvm.Cond.soleField "java/lang/Throwable" "suppressedExceptions") ∈ xAll := xAll_in 207 (by decide +kernel) (by decide +kernel)
theorem k_176 : (Jvm.Cond.superclass "java/lang/IllegalArgumentException" "java/lang/RuntimeException") ∈ xAll := xAll_in 208 (by decide +kernel) (by decide +kernel)
theorem k_178 : (Jvm.Cond.methodLink "LeftThingsLaw" (84 : Nat) ({ cls := "LeftThingsLaw", name := "setVan", desc := "(LLeftThings;I[J)I" } : Jvm.MethodName)) ∈ xAll := xAll_in 210 (by decide +kernel) (by decide +kernel)
theorem k_179 : (Jvm.Cond.static ({ cls := "LeftThingsLaw", name := "setVan", desc := "(LLeftThings;I[J)I" } : Jvm.MethodName)) ∈ xAll := xAll_in 211 (by decide +kernel) (by decide +kernel)
theorem k_180 : (Jvm.Cond.codeWith ({ cls := "LeftThingsLaw", name := "setVan", desc := "(LLeftThings;I[J)I" } : Jvm.MethodName) method_4_code (4 : Nat) (Option.some Jvm.ClassFile.FieldType.int) [((0 : Nat), (9 : Nat), (12 : Nat), (13 : Nat))]) ∈ xAll := xAll_in 212 (by decide +kernel) (by decide +kernel)
theorem k_181 : (Jvm.Cond.methodLink "LeftThingsLaw" (15 : Nat) ({ cls := "LeftThings", name := "setVan", desc := "(I)I" } : Jvm.MethodName)) ∈ xAll := xAll_in 213 (by decide +kernel) (by decide +kernel)
theorem k_182 : (Jvm.Cond.instanceMethod ({ cls := "LeftThings", name := "setVan", desc := "(I)I" } : Jvm.MethodName)) ∈ xAll := xAll_in 214 (by decide +kernel) (by decide +kernel)
theorem k_183 : (Jvm.Cond.selects "LeftThings" ({ cls := "LeftThings", name := "setVan", desc := "(I)I" } : Jvm.MethodName) ({ cls := "LeftThings", name := "setVan", desc := "(I)I" } : Jvm.MethodName)) ∈ xAll := xAll_in 215 (by decide +kernel) (by decide +kernel)
theorem k_184 : (Jvm.Cond.code ({ cls := "LeftThings", name := "setVan", desc := "(I)I" } : Jvm.MethodName) prog_1_method_3_code (3 : Nat) (Option.some Jvm.ClassFile.FieldType.int)) ∈ xAll := xAll_in 216 (by decide +kernel) (by decide +kernel)
theorem k_186 : (Jvm.Cond.methodLink "LeftThingsLaw" (88 : Nat) ({ cls := "LeftThingsLaw", name := "leave", desc := "(LLeftThings;III[J)I" } : Jvm.MethodName)) ∈ xAll := xAll_in 218 (by decide +kernel) (by decide +kernel)
theorem k_187 : (Jvm.Cond.static ({ cls := "LeftThingsLaw", name := "leave", desc := "(LLeftThings;III[J)I" } : Jvm.MethodName)) ∈ xAll := xAll_in 219 (by decide +kernel) (by decide +kernel)
theorem k_188 : (Jvm.Cond.codeWith ({ cls := "LeftThingsLaw", name := "leave", desc := "(LLeftThings;III[J)I" } : Jvm.MethodName) method_5_code (6 : Nat) (Option.some Jvm.ClassFile.FieldType.int) [((0 : Nat), (12 : Nat), (15 : Nat), (13 : Nat)), ((0 : Nat), (12 : Nat), (19 : Nat), (23 : Nat))]) ∈ xAll := xAll_in 220 (by decide +kernel) (by decide +kernel)
theorem k_189 : (Jvm.Cond.classLink "LeftThingsLaw" (23 : Nat) "java/lang/IllegalStateException") ∈ xAll := xAll_in 221 (by decide +kernel) (by decide +kernel)
theorem k_190 : (Jvm.Cond.methodLink "LeftThingsLaw" (19 : Nat) ({ cls := "LeftThings", name := "leave", desc := "(III)I" } : Jvm.MethodName)) ∈ xAll := xAll_in 222 (by decide +kernel) (by decide +kernel)
theorem k_191 : (Jvm.Cond.instanceMethod ({ cls := "LeftThings", name := "leave", desc := "(III)I" } : Jvm.MethodName)) ∈ xAll := xAll_in 223 (by decide +kernel) (by decide +kernel)
theorem k_192 : (Jvm.Cond.selects "LeftThings" ({ cls := "LeftThings", name := "leave", desc := "(III)I" } : Jvm.MethodName) ({ cls := "LeftThings", name := "leave", desc := "(III)I" } : Jvm.MethodName)) ∈ xAll := xAll_in 224 (by decide +kernel) (by decide +kernel)
theorem k_193 : (Jvm.Cond.code ({ cls := "LeftThings", name := "leave", desc := "(III)I" } : Jvm.MethodName) prog_1_method_4_code (5 : Nat) (Option.some Jvm.ClassFile.FieldType.int)) ∈ xAll := xAll_in 225 (by decide +kernel) (by decide +kernel)
theorem k_194 : (Jvm.Cond.methodLink "LeftThings" (58 : Nat) ({ cls := "LeftThings", name := "isPerson", desc := "(I)Z" } : Jvm.MethodName)) ∈ xAll := xAll_in 226 (by decide +kernel) (by decide +kernel)
theorem k_195 : (Jvm.Cond.static ({ cls := "LeftThings", name := "isPerson", desc := "(I)Z" } : Jvm.MethodName)) ∈ xAll := xAll_in 227 (by decide +kernel) (by decide +kernel)
theorem k_196 : (Jvm.Cond.code ({ cls := "LeftThings", name := "isPerson", desc := "(I)Z" } : Jvm.MethodName) prog_1_method_23_code (1 : Nat) (Option.some Jvm.ClassFile.FieldType.boolean)) ∈ xAll := xAll_in 228 (by decide +kernel) (by decide +kernel)
theorem k_198 : (Jvm.Cond.methodLink "LeftThings" (67 : Nat) ({ cls := "LeftThings", name := "hasRoomFor", desc := "(II)Z" } : Jvm.MethodName)) ∈ xAll := xAll_in 230 (by decide +kernel) (by decide +kernel)
theorem k_199 : (Jvm.Cond.privateMethod ({ cls := "LeftThings", name := "hasRoomFor", desc := "(II)Z" } : Jvm.MethodName)) ∈ xAll := xAll_in 231 (by decide +kernel) (by decide +kernel)
theorem k_200 : (Jvm.Cond.instanceMethod ({ cls := "LeftThings", name := "hasRoomFor", desc := "(II)Z" } : Jvm.MethodName)) ∈ xAll := xAll_in 232 (by decide +kernel) (by decide +kernel)
theorem k_201 : (Jvm.Cond.code ({ cls := "LeftThings", name := "hasRoomFor", desc := "(II)Z" } : Jvm.MethodName) prog_1_method_27_code (3 : Nat) (Option.some Jvm.ClassFile.FieldType.boolean)) ∈ xAll := xAll_in 233 (by decide +kernel) (by decide +kernel)
theorem k_202 : (Jvm.Cond.methodLink "LeftThings" (171 : Nat) ({ cls := "LeftThings", name := "sizesAt", desc := "(I)I" } : Jvm.MethodName)) ∈ xAll := xAll_in 234 (by decide +kernel) (by decide +kernel)
theorem k_203 : (Jvm.Cond.privateMethod ({ cls := "LeftThings", name := "sizesAt", desc := "(I)I" } : Jvm.MethodName)) ∈ xAll := xAll_in 235 (by decide +kernel) (by decide +kernel)
theorem k_204 : (Jvm.Cond.instanceMethod ({ cls := "LeftThings", name := "sizesAt", desc := "(I)I" } : Jvm.MethodName)) ∈ xAll := xAll_in 236 (by decide +kernel) (by decide +kernel)
theorem k_205 : (Jvm.Cond.code ({ cls := "LeftThings", name := "sizesAt", desc := "(I)I" } : Jvm.MethodName) prog_1_method_26_code (5 : Nat) (Option.some Jvm.ClassFile.FieldType.int)) ∈ xAll := xAll_in 237 (by decide +kernel) (by decide +kernel)
theorem k_206 : (Jvm.Cond.methodLink "LeftThings" (181 : Nat) ({ cls := "java/util/ArrayList", name := "get", desc := "(I)Ljava/lang/Object;" } : Jvm.MethodName)) ∈ xAll := xAll_in 238 (by decide +kernel) (by decide +kernel)
theorem k_207 : (Jvm.Cond.instanceMethod ({ cls := "java/util/ArrayList", name := "get", desc := "(I)Ljava/lang/Object;" } : Jvm.MethodName)) ∈ xAll := xAll_in 239 (by decide +kernel) (by decide +kernel)
theorem k_208 : (Jvm.Cond.selects "java/util/ArrayList" ({ cls := "java/util/ArrayList", name := "get", desc := "(I)Ljava/lang/Object;" } : Jvm.MethodName) ({ cls := "java/util/ArrayList", name := "get", desc := "(I)Ljava/lang/Object;" } : Jvm.MethodName)) ∈ xAll := xAll_in 240 (by decide +kernel) (by decide +kernel)
theorem k_209 : (Jvm.Cond.code ({ cls := "java/util/ArrayList", name := "get", desc := "(I)Ljava/lang/Object;" } : Jvm.MethodName) prog_20_method_20_code (2 : Nat) (Option.some (Jvm.ClassFile.FieldType.object "java/lang/Object"))) ∈ xAll := xAll_in 241 (by decide +kernel) (by decide +kernel)
theorem k_210 : (Jvm.Cond.methodLink "java/util/ArrayList" (118 : Nat) ({ cls := "java/util/Objects", name := "checkIndex", desc := "(II)I" } : Jvm.MethodName)) ∈ xAll := xAll_in 242 (by decide +kernel) (by decide +kernel)
theorem k_211 : (Jvm.Cond.static ({ cls := "java/util/Objects", name := "checkIndex", desc := "(II)I" } : Jvm.MethodName)) ∈ xAll := xAll_in 243 (by decide +kernel) (by decide +kernel)
theorem k_212 : (Jvm.Cond.code ({ cls := "java/util/Objects", name := "checkIndex", desc := "(II)I" } : Jvm.MethodName) prog_24_method_17_code (2 : Nat) (Option.some Jvm.ClassFile.FieldType.int)) ∈ xAll := xAll_in 244 (by decide +kernel) (by decide +kernel)
theorem k_213 : (Jvm.Cond.methodLink "java/util/Objects" (105 : Nat) ({ cls := "jdk/internal/util/Preconditions", name := "checkIndex", desc := "(IILjava/util/function/BiFunction;)I" } : Jvm.MethodName)) ∈ xAll := xAll_in 245 (by decide +kernel) (by decide +kernel)
theorem k_214 : (Jvm.Cond.static ({ cls := "jdk/internal/util/Preconditions", name := "checkIndex", desc := "(IILjava/util/function/BiFunction;)I" } : Jvm.MethodName)) ∈ xAll := xAll_in 246 (by decide +kernel) (by decide +kernel)
theorem k_215 : (Jvm.Cond.code ({ cls := "jdk/internal/util/Preconditions", name := "checkIndex", desc := "(IILjava/util/function/BiFunction;)I" } : Jvm.MethodName) prog_28_method_11_code (3 : Nat) (Option.some Jvm.ClassFile.FieldType.int)) ∈ xAll := xAll_in 247 (by decide +kernel) (by decide +kernel)
theorem k_216 : (Jvm.Cond.methodLink "java/util/ArrayList" (123 : Nat) ({ cls := "java/util/ArrayList", name := "elementData", desc := "(I)Ljava/lang/Object;" } : Jvm.MethodName)) ∈ xAll := xAll_in 248 (by decide +kernel) (by decide +kernel)
theorem k_217 : (Jvm.Cond.instanceMethod ({ cls := "java/util/ArrayList", name := "elementData", desc := "(I)Ljava/lang/Object;" } : Jvm.MethodName)) ∈ xAll := xAll_in 249 (by decide +kernel) (by decide +kernel)
theorem k_218 : (Jvm.Cond.selects "java/util/ArrayList" ({ cls := "java/util/ArrayList", name := "elementData", desc := "(I)Ljava/lang/Object;" } : Jvm.MethodName) ({ cls := "java/util/ArrayList", name := "elementData", desc := "(I)Ljava/lang/Object;" } : Jvm.MethodName)) ∈ xAll := xAll_in 250 (by decide +kernel) (by decide +kernel)
theorem k_219 : (Jvm.Cond.code ({ cls := "java/util/ArrayList", name := "elementData", desc := "(I)Ljava/lang/Object;" } : Jvm.MethodName) prog_20_method_18_code (2 : Nat) (Option.some (Jvm.ClassFile.FieldType.object "java/lang/Object"))) ∈ xAll := xAll_in 251 (by decide +kernel) (by decide +kernel)
theorem k_220 : (Jvm.Cond.classLink "LeftThings" (76 : Nat) "LeftThings$Thing") ∈ xAll := xAll_in 252 (by decide +kernel) (by decide +kernel)
theorem k_221 : (Jvm.Cond.classLink "LeftThings" (71 : Nat) "java/lang/IllegalStateException") ∈ xAll := xAll_in 253 (by decide +kernel) (by decide +kernel)
theorem k_222 : (Jvm.Cond.instantiable "java/lang/IllegalStateException" (6 : Nat)) ∈ xAll := xAll_in 254 (by decide +kernel) (by decide +kernel)
theorem k_223 : (Jvm.Cond.castable "java/lang/IllegalStateException" "java/lang/IllegalStateException") ∈ xAll := xAll_in 255 (by decide +kernel) (by decide +kernel)
theorem k_224 : (Jvm.Cond.selects "java/lang/IllegalStateException" ({ cls := "java/lang/Throwable", name := "fillInStackTrace", desc := "(I)Ljava/lang/Throwable;" } : Jvm.MethodName) ({ cls := "java/lang/Throwable", name := "fillInStackTrace", desc := "(I)Ljava/lang/Throwable;" } : Jvm.MethodName)) ∈ xAll := xAll_in 256 (by decide +kernel) (by decide +kernel)
theorem k_225 : (Jvm.Cond.lays "java/lang/IllegalStateException" "java/lang/Throwable" "cause" "Ljava/lang/Throwable;") ∈ xAll := xAll_in 257 (by decide +kernel) (by decide +kernel)
theorem k_226 : (Jvm.Cond.lays "java/lang/IllegalStateException" "java/lang/Throwable" "stackTrace" "[Ljava/lang/StackTraceElement;") ∈ xAll := xAll_in 258 (by decide +kernel) (by decide +kernel)
theorem k_227 : (Jvm.Cond.lays "java/lang/IllegalStateException" "java/lang/Throwable" "suppressedExceptions" "Ljava/util/List;") ∈ xAll := xAll_in 259 (by decide +kernel) (by decide +kernel)
theorem k_228 : (Jvm.Cond.lays "java/lang/IllegalStateException" "java/lang/Throwable" "detailMessage" "Ljava/lang/String;") ∈ xAll := xAll_in 260 (by decide +kernel) (by decide +kernel)
theorem k_229 : (Jvm.Cond.lays "java/lang/IllegalStateException" "java/lang/Throwable" "backtrace" "Ljava/lang/Object;") ∈ xAll := xAll_in 261 (by decide +kernel) (by decide +kernel)
theorem k_231 : (Jvm.Cond.methodLink "LeftThings" (75 : Nat) ({ cls := "java/lang/IllegalStateException", name := "<init>", desc := "(Ljava/lang/String;)V" } : Jvm.MethodName)) ∈ xAll := xAll_in 263 (by decide +kernel) (by decide +kernel)
theorem k_232 : (Jvm.Cond.instanceMethod ({ cls := "java/lang/IllegalStateException", name := "<init>", desc := "(Ljava/lang/String;)V" } : Jvm.MethodName)) ∈ xAll := xAll_in 264 (by decide +kernel) (by decide +kernel)
theorem k_233 : (Jvm.Cond.code ({ cls := "java/lang/IllegalStateException", name := "<init>", desc := "(Ljava/lang/String;)V" } : Jvm.MethodName) prog_10_method_2_code (2 : Nat) (Option.none : Option Jvm.ClassFile.FieldType)) ∈ xAll := xAll_in 265 (by decide +kernel) (by decide +kernel)
theorem k_234 : (Jvm.Cond.methodLink "java/lang/IllegalStateException" (7 : Nat) ({ cls := "java/lang/RuntimeException", name := "<init>", desc := "(Ljava/lang/String;)V" } : Jvm.MethodName)) ∈ xAll := xAll_in 266 (by decide +kernel) (by decide +kernel)
theorem k_235 : (Jvm.Cond.lays "java/lang/IllegalStateException" "java/lang/Throwable" "depth" "I") ∈ xAll := xAll_in 267 (by decide +kernel) (by decide +kernel)
theorem k_236 : (Jvm.Cond.superclass "java/lang/IllegalStateException" "java/lang/RuntimeException") ∈ xAll := xAll_in 268 (by decide +kernel) (by decide +kernel)
theorem k_237 : (Jvm.Cond.instantiable "LeftThings$Thing" (12 : Nat)) ∈ xAll := xAll_in 269 (by decide +kernel) (by decide +kernel)
theorem k_238 : (Jvm.Cond.methodLinkNest "LeftThings" (78 : Nat) ({ cls := "LeftThings$Thing", name := "<init>", desc := "(IIIII)V" } : Jvm.MethodName) "LeftThings") ∈ xAll := xAll_in 270 (by decide +kernel) (by decide +kernel)
theorem k_239 : (Jvm.Cond.instanceMethod ({ cls := "LeftThings$Thing", name := "<init>", desc := "(IIIII)V" } : Jvm.MethodName)) ∈ xAll := xAll_in 271 (by decide +kernel) (by decide +kernel)
theorem k_240 : (Jvm.Cond.code ({ cls := "LeftThings$Thing", name := "<init>", desc := "(IIIII)V" } : Jvm.MethodName) prog_3_method_1_code (6 : Nat) (Option.none : Option Jvm.ClassFile.FieldType)) ∈ xAll := xAll_in 272 (by decide +kernel) (by decide +kernel)
theorem k_241 : (Jvm.Cond.methodLink "LeftThings$Thing" (3 : Nat) ({ cls := "java/lang/Object", name := "<init>", desc := "()V" } : Jvm.MethodName)) ∈ xAll := xAll_in 273 (by decide +kernel) (by decide +kernel)
theorem k_242 : (Jvm.Cond.classLink "LeftThings$Thing" (45 : Nat) "LeftThings$Tag") ∈ xAll := xAll_in 274 (by decide +kernel) (by decide +kernel)
theorem k_243 : (Jvm.Cond.instantiable "LeftThings$Tag" (3 : Nat)) ∈ xAll := xAll_in 275 (by decide +kernel) (by decide +kernel)
theorem k_244 : (Jvm.Cond.methodLinkNest "LeftThings$Thing" (47 : Nat) ({ cls := "LeftThings$Tag", name := "<init>", desc := "(IILLeftThings$Tag;)V" } : Jvm.MethodName) "LeftThings") ∈ xAll := xAll_in 276 (by decide +kernel) (by decide +kernel)
theorem k_245 : (Jvm.Cond.instanceMethod ({ cls := "LeftThings$Tag", name := "<init>", desc := "(IILLeftThings$Tag;)V" } : Jvm.MethodName)) ∈ xAll := xAll_in 277 (by decide +kernel) (by decide +kernel)
theorem k_246 : (Jvm.Cond.code ({ cls := "LeftThings$Tag", name := "<init>", desc := "(IILLeftThings$Tag;)V" } : Jvm.MethodName) prog_2_method_1_code (4 : Nat) (Option.none : Option Jvm.ClassFile.FieldType)) ∈ xAll := xAll_in 278 (by decide +kernel) (by decide +kernel)
theorem k_247 : (Jvm.Cond.methodLink "LeftThings$Tag" (1 : Nat) ({ cls := "java/lang/Object", name := "<init>", desc := "()V" } : Jvm.MethodName)) ∈ xAll := xAll_in 279 (by decide +kernel) (by decide +kernel)
theorem k_248 : (Jvm.Cond.fieldLink "LeftThings$Tag" (7 : Nat) "LeftThings$Tag" "place" "I") ∈ xAll := xAll_in 280 (by decide +kernel) (by decide +kernel)
theorem k_249 : (Jvm.Cond.fieldLinkNest "LeftThings$Thing" (61 : Nat) "LeftThings$Tag" "place" "I" "LeftThings") ∈ xAll := xAll_in 281 (by decide +kernel) (by decide +kernel)
theorem k_250 : (Jvm.Cond.fieldLink "LeftThings$Tag" (13 : Nat) "LeftThings$Tag" "fromDay" "I") ∈ xAll := xAll_in 282 (by decide +kernel) (by decide +kernel)
theorem k_251 : (Jvm.Cond.fieldLinkNest "LeftThings$Thing" (58 : Nat) "LeftThings$Tag" "fromDay" "I" "LeftThings") ∈ xAll := xAll_in 283 (by decide +kernel) (by decide +kernel)
theorem k_252 : (Jvm.Cond.fieldLink "LeftThings$Tag" (16 : Nat) "LeftThings$Tag" "before" "LLeftThings$Tag;") ∈ xAll := xAll_in 284 (by decide +kernel) (by decide +kernel)
theorem k_253 : (Jvm.Cond.fieldLinkNest "LeftThings$Thing" (62 : Nat) "LeftThings$Tag" "before" "LLeftThings$Tag;" "LeftThings") ∈ xAll := xAll_in 285 (by decide +kernel) (by decide +kernel)
theorem k_254 : (Jvm.Cond.laysFinal "LeftThings$Tag" "LeftThings$Tag" "place" "I") ∈ xAll := xAll_in 286 (by decide +kernel) (by decide +kernel)
theorem k_255 : (Jvm.Cond.soleField "LeftThings$Tag" "place") ∈ xAll := xAll_in 287 (by decide +kernel) (by decide +kernel)
theorem k_256 : (Jvm.Cond.laysFinal "LeftThings$Tag" "LeftThings$Tag" "fromDay" "I") ∈ xAll := xAll_in 288 (by decide +kernel) (by decide +kernel)
theorem k_257 : (Jvm.Cond.soleField "LeftThings$Tag" "fromDay") ∈ xAll := xAll_in 289 (by decide +kernel) (by decide +kernel)
theorem k_258 : (Jvm.Cond.laysFinal "LeftThings$Tag" "LeftThings$Tag" "before" "LLeftThings$Tag;") ∈ xAll := xAll_in 290 (by decide +kernel) (by decide +kernel)
theorem k_259 : (Jvm.Cond.soleField "LeftThings$Tag" "before") ∈ xAll := xAll_in 291 (by decide +kernel) (by decide +kernel)
theorem k_260 : (Jvm.Cond.superclass "LeftThings$Tag" "java/lang/Object") ∈ xAll := xAll_in 292 (by decide +kernel) (by decide +kernel)
theorem k_261 : (Jvm.Cond.fieldLink "LeftThings$Thing" (27 : Nat) "LeftThings$Thing" "number" "I") ∈ xAll := xAll_in 293 (by decide +kernel) (by decide +kernel)
theorem k_262 : (Jvm.Cond.fieldLinkNest "LeftThings" (185 : Nat) "LeftThings$Thing" "number" "I" "LeftThings") ∈ xAll := xAll_in 294 (by decide +kernel) (by decide +kernel)
theorem k_263 : (Jvm.Cond.fieldLink "LeftThings$Thing" (30 : Nat) "LeftThings$Thing" "owner" "I") ∈ xAll := xAll_in 295 (by decide +kernel) (by decide +kernel)
theorem k_264 : (Jvm.Cond.fieldLinkNest "LeftThings" (127 : Nat) "LeftThings$Thing" "owner" "I" "LeftThings") ∈ xAll := xAll_in 296 (by decide +kernel) (by decide +kernel)
theorem k_265 : (Jvm.Cond.fieldLink "LeftThings$Thing" (33 : Nat) "LeftThings$Thing" "size" "I") ∈ xAll := xAll_in 297 (by decide +kernel) (by decide +kernel)
theorem k_266 : (Jvm.Cond.fieldLinkNest "LeftThings" (190 : Nat) "LeftThings$Thing" "size" "I" "LeftThings") ∈ xAll := xAll_in 298 (by decide +kernel) (by decide +kernel)
theorem k_267 : (Jvm.Cond.fieldLink "LeftThings$Thing" (36 : Nat) "LeftThings$Thing" "leftOn" "I") ∈ xAll := xAll_in 299 (by decide +kernel) (by decide +kernel)
theorem k_268 : (Jvm.Cond.fieldLinkNest "LeftThings" (220 : Nat) "LeftThings$Thing" "leftOn" "I" "LeftThings") ∈ xAll := xAll_in 300 (by decide +kernel) (by decide +kernel)
theorem k_269 : (Jvm.Cond.fieldLink "LeftThings$Thing" (39 : Nat) "LeftThings$Thing" "worth" "I") ∈ xAll := xAll_in 301 (by decide +kernel) (by decide +kernel)
theorem k_270 : (Jvm.Cond.fieldLinkNest "LeftThings" (122 : Nat) "LeftThings$Thing" "worth" "I" "LeftThings") ∈ xAll := xAll_in 302 (by decide +kernel) (by decide +kernel)
theorem k_271 : (Jvm.Cond.fieldLink "LeftThings$Thing" (42 : Nat) "LeftThings$Thing" "place" "I") ∈ xAll := xAll_in 303 (by decide +kernel) (by decide +kernel)
theorem k_272 : (Jvm.Cond.fieldLinkNest "LeftThings" (107 : Nat) "LeftThings$Thing" "place" "I" "LeftThings") ∈ xAll := xAll_in 304 (by decide +kernel) (by decide +kernel)
theorem k_273 : (Jvm.Cond.fieldLink "LeftThings$Thing" (50 : Nat) "LeftThings$Thing" "newestTag" "LLeftThings$Tag;") ∈ xAll := xAll_in 305 (by decide +kernel) (by decide +kernel)
theorem k_274 : (Jvm.Cond.fieldLink "LeftThings$Thing" (9 : Nat) "LeftThings$Thing" "wantedAt" "I") ∈ xAll := xAll_in 306 (by decide +kernel) (by decide +kernel)
theorem k_275 : (Jvm.Cond.fieldLinkNest "LeftThings" (112 : Nat) "LeftThings$Thing" "wantedAt" "I" "LeftThings") ∈ xAll := xAll_in 307 (by decide +kernel) (by decide +kernel)
theorem k_276 : (Jvm.Cond.fieldLink "LeftThings$Thing" (15 : Nat) "LeftThings$Thing" "feeSum" "I") ∈ xAll := xAll_in 308 (by decide +kernel) (by decide +kernel)
theorem k_277 : (Jvm.Cond.fieldLinkNest "LeftThings" (98 : Nat) "LeftThings$Thing" "feeSum" "I" "LeftThings") ∈ xAll := xAll_in 309 (by decide +kernel) (by decide +kernel)
theorem k_278 : (Jvm.Cond.fieldLink "LeftThings$Thing" (18 : Nat) "LeftThings$Thing" "loanSum" "I") ∈ xAll := xAll_in 310 (by decide +kernel) (by decide +kernel)
theorem k_279 : (Jvm.Cond.fieldLinkNest "LeftThings" (141 : Nat) "LeftThings$Thing" "loanSum" "I" "LeftThings") ∈ xAll := xAll_in 311 (by decide +kernel) (by decide +kernel)
theorem k_280 : (Jvm.Cond.fieldLink "LeftThings$Thing" (21 : Nat) "LeftThings$Thing" "lender" "I") ∈ xAll := xAll_in 312 (by decide +kernel) (by decide +kernel)
theorem k_281 : (Jvm.Cond.fieldLinkNest "LeftThings" (144 : Nat) "LeftThings$Thing" "lender" "I" "LeftThings") ∈ xAll := xAll_in 313 (by decide +kernel) (by decide +kernel)
theorem k_282 : (Jvm.Cond.fieldLink "LeftThings$Thing" (24 : Nat) "LeftThings$Thing" "repayBy" "I") ∈ xAll := xAll_in 314 (by decide +kernel) (by decide +kernel)
theorem k_283 : (Jvm.Cond.fieldLinkNest "LeftThings" (155 : Nat) "LeftThings$Thing" "repayBy" "I" "LeftThings") ∈ xAll := xAll_in 315 (by decide +kernel) (by decide +kernel)
theorem k_284 : (Jvm.Cond.laysFinal "LeftThings$Thing" "LeftThings$Thing" "number" "I") ∈ xAll := xAll_in 316 (by decide +kernel) (by decide +kernel)
theorem k_285 : (Jvm.Cond.soleField "LeftThings$Thing" "number") ∈ xAll := xAll_in 317 (by decide +kernel) (by decide +kernel)
theorem k_286 : (Jvm.Cond.laysFinal "LeftThings$Thing" "LeftThings$Thing" "owner" "I") ∈ xAll := xAll_in 318 (by decide +kernel) (by decide +kernel)
theorem k_287 : (Jvm.Cond.soleField "LeftThings$Thing" "owner") ∈ xAll := xAll_in 319 (by decide +kernel) (by decide +kernel)
theorem k_288 : (Jvm.Cond.laysFinal "LeftThings$Thing" "LeftThings$Thing" "size" "I") ∈ xAll := xAll_in 320 (by decide +kernel) (by decide +kernel)
theorem k_289 : (Jvm.Cond.soleField "LeftThings$Thing" "size") ∈ xAll := xAll_in 321 (by decide +kernel) (by decide +kernel)
theorem k_290 : (Jvm.Cond.laysFinal "LeftThings$Thing" "LeftThings$Thing" "leftOn" "I") ∈ xAll := xAll_in 322 (by decide +kernel) (by decide +kernel)
theorem k_291 : (Jvm.Cond.soleField "LeftThings$Thing" "leftOn") ∈ xAll := xAll_in 323 (by decide +kernel) (by decide +kernel)
theorem k_292 : (Jvm.Cond.lays "LeftThings$Thing" "LeftThings$Thing" "worth" "I") ∈ xAll := xAll_in 324 (by decide +kernel) (by decide +kernel)
theorem k_293 : (Jvm.Cond.soleField "LeftThings$Thing" "worth") ∈ xAll := xAll_in 325 (by decide +kernel) (by decide +kernel)
theorem k_294 : (Jvm.Cond.lays "LeftThings$Thing" "LeftThings$Thing" "place" "I") ∈ xAll := xAll_in 326 (by decide +kernel) (by decide +kernel)
theorem k_295 : (Jvm.Cond.soleField "LeftThings$Thing" "place") ∈ xAll := xAll_in 327 (by decide +kernel) (by decide +kernel)
theorem k_296 : (Jvm.Cond.lays "LeftThings$Thing" "LeftThings$Thing" "newestTag" "LLeftThings$Tag;") ∈ xAll := xAll_in 328 (by decide +kernel) (by decide +kernel)
theorem k_297 : (Jvm.Cond.soleField "LeftThings$Thing" "newestTag") ∈ xAll := xAll_in 329 (by decide +kernel) (by decide +kernel)
theorem k_298 : (Jvm.Cond.lays "LeftThings$Thing" "LeftThings$Thing" "wantedAt" "I") ∈ xAll := xAll_in 330 (by decide +kernel) (by decide +kernel)
theorem k_299 : (Jvm.Cond.soleField "LeftThings$Thing" "wantedAt") ∈ xAll := xAll_in 331 (by decide +kernel) (by decide +kernel)
theorem k_300 : (Jvm.Cond.lays "LeftThings$Thing" "LeftThings$Thing" "feeSum" "I") ∈ xAll := xAll_in 332 (by decide +kernel) (by decide +kernel)
theorem k_301 : (Jvm.Cond.soleField "LeftThings$Thing" "feeSum") ∈ xAll := xAll_in 333 (by decide +kernel) (by decide +kernel)
theorem k_302 : (Jvm.Cond.lays "LeftThings$Thing" "LeftThings$Thing" "loanSum" "I") ∈ xAll := xAll_in 334 (by decide +kernel) (by decide +kernel)
theorem k_303 : (Jvm.Cond.soleField "LeftThings$Thing" "loanSum") ∈ xAll := xAll_in 335 (by decide +kernel) (by decide +kernel)
theorem k_304 : (Jvm.Cond.lays "LeftThings$Thing" "LeftThings$Thing" "lender" "I") ∈ xAll := xAll_in 336 (by decide +kernel) (by decide +kernel)
theorem k_305 : (Jvm.Cond.soleField "LeftThings$Thing" "lender") ∈ xAll := xAll_in 337 (by decide +kernel) (by decide +kernel)
theorem k_306 : (Jvm.Cond.lays "LeftThings$Thing" "LeftThings$Thing" "repayBy" "I") ∈ xAll := xAll_in 338 (by decide +kernel) (by decide +kernel)
theorem k_307 : (Jvm.Cond.soleField "LeftThings$Thing" "repayBy") ∈ xAll := xAll_in 339 (by decide +kernel) (by decide +kernel)
theorem k_308 : (Jvm.Cond.superclass "LeftThings$Thing" "java/lang/Object") ∈ xAll := xAll_in 340 (by decide +kernel) (by decide +kernel)
theorem k_309 : (Jvm.Cond.methodLink "LeftThings" (81 : Nat) ({ cls := "java/util/ArrayList", name := "add", desc := "(Ljava/lang/Object;)Z" } : Jvm.MethodName)) ∈ xAll := xAll_in 341 (by decide +kernel) (by decide +kernel)
theorem k_310 : (Jvm.Cond.instanceMethod ({ cls := "java/util/ArrayList", name := "add", desc := "(Ljava/lang/Object;)Z" } : Jvm.MethodName)) ∈ xAll := xAll_in 342 (by decide +kernel) (by decide +kernel)
theorem k_311 : (Jvm.Cond.selects "java/util/ArrayList" ({ cls := "java/util/ArrayList", name := "add", desc := "(Ljava/lang/Object;)Z" } : Jvm.MethodName) ({ cls := "java/util/ArrayList", name := "add", desc := "(Ljava/lang/Object;)Z" } : Jvm.MethodName)) ∈ xAll := xAll_in 343 (by decide +kernel) (by decide +kernel)
theorem k_312 : (Jvm.Cond.code ({ cls := "java/util/ArrayList", name := "add", desc := "(Ljava/lang/Object;)Z" } : Jvm.MethodName) prog_20_method_25_code (2 : Nat) (Option.some Jvm.ClassFile.FieldType.boolean)) ∈ xAll := xAll_in 344 (by decide +kernel) (by decide +kernel)
theorem k_313 : (Jvm.Cond.methodLink "java/util/ArrayList" (131 : Nat) ({ cls := "java/util/ArrayList", name := "add", desc := "(Ljava/lang/Object;[Ljava/lang/Object;I)V" } : Jvm.MethodName)) ∈ xAll := xAll_in 345 (by decide +kernel) (by decide +kernel)
theorem k_314 : (Jvm.Cond.privateMethod ({ cls := "java/util/ArrayList", name := "add", desc := "(Ljava/lang/Object;[Ljava/lang/Object;I)V" } : Jvm.MethodName)) ∈ xAll := xAll_in 346 (by decide +kernel) (by decide +kernel)
theorem k_315 : (Jvm.Cond.instanceMethod ({ cls := "java/util/ArrayList", name := "add", desc := "(Ljava/lang/Object;[Ljava/lang/Object;I)V" } : Jvm.MethodName)) ∈ xAll := xAll_in 347 (by decide +kernel) (by decide +kernel)
theorem k_316 : (Jvm.Cond.code ({ cls := "java/util/ArrayList", name := "add", desc := "(Ljava/lang/Object;[Ljava/lang/Object;I)V" } : Jvm.MethodName) prog_20_method_24_code (4 : Nat) (Option.none : Option Jvm.ClassFile.FieldType)) ∈ xAll := xAll_in 348 (by decide +kernel) (by decide +kernel)
theorem k_317 : (Jvm.Cond.methodLink "java/util/ArrayList" (129 : Nat) ({ cls := "java/util/ArrayList", name := "grow", desc := "()[Ljava/lang/Object;" } : Jvm.MethodName)) ∈ xAll := xAll_in 349 (by decide +kernel) (by decide +kernel)
theorem k_318 : (Jvm.Cond.privateMethod ({ cls := "java/util/ArrayList", name := "grow", desc := "()[Ljava/lang/Object;" } : Jvm.MethodName)) ∈ xAll := xAll_in 350 (by decide +kernel) (by decide +kernel)
theorem k_319 : (Jvm.Cond.instanceMethod ({ cls := "java/util/ArrayList", name := "grow", desc := "()[Ljava/lang/Object;" } : Jvm.MethodName)) ∈ xAll := xAll_in 351 (by decide +kernel) (by decide +kernel)
theorem k_320 : (Jvm.Cond.code ({ cls := "java/util/ArrayList", name := "grow", desc := "()[Ljava/lang/Object;" } : Jvm.MethodName) prog_20_method_7_code (1 : Nat) (Option.some (Jvm.ClassFile.FieldType.array (Jvm.ClassFile.FieldType.object "java/lang/Object")))) ∈ xAll := xAll_in 352 (by decide +kernel) (by decide +kernel)
theorem k_321 : (Jvm.Cond.methodLink "java/util/ArrayList" (69 : Nat) ({ cls := "java/util/ArrayList", name := "grow", desc := "(I)[Ljava/lang/Object;" } : Jvm.MethodName)) ∈ xAll := xAll_in 353 (by decide +kernel) (by decide +kernel)
theorem k_322 : (Jvm.Cond.privateMethod ({ cls := "java/util/ArrayList", name := "grow", desc := "(I)[Ljava/lang/Object;" } : Jvm.MethodName)) ∈ xAll := xAll_in 354 (by decide +kernel) (by decide +kernel)
theorem k_323 : (Jvm.Cond.instanceMethod ({ cls := "java/util/ArrayList", name := "grow", desc := "(I)[Ljava/lang/Object;" } : Jvm.MethodName)) ∈ xAll := xAll_in 355 (by decide +kernel) (by decide +kernel)
theorem k_324 : (Jvm.Cond.code ({ cls := "java/util/ArrayList", name := "grow", desc := "(I)[Ljava/lang/Object;" } : Jvm.MethodName) prog_20_method_6_code (4 : Nat) (Option.some (Jvm.ClassFile.FieldType.array (Jvm.ClassFile.FieldType.object "java/lang/Object")))) ∈ xAll := xAll_in 356 (by decide +kernel) (by decide +kernel)
theorem k_325 : (Jvm.Cond.methodLink "java/util/ArrayList" (73 : Nat) ({ cls := "jdk/internal/util/ArraysSupport", name := "newLength", desc := "(III)I" } : Jvm.MethodName)) ∈ xAll := xAll_in 357 (by decide +kernel) (by decide +kernel)
theorem k_326 : (Jvm.Cond.static ({ cls := "jdk/internal/util/ArraysSupport", name := "newLength", desc := "(III)I" } : Jvm.MethodName)) ∈ xAll := xAll_in 358 (by decide +kernel) (by decide +kernel)
theorem k_327 : (Jvm.Cond.code ({ cls := "jdk/internal/util/ArraysSupport", name := "newLength", desc := "(III)I" } : Jvm.MethodName) prog_27_method_27_code (4 : Nat) (Option.some Jvm.ClassFile.FieldType.int)) ∈ xAll := xAll_in 359 (by decide +kernel) (by decide +kernel)
theorem k_328 : (Jvm.Cond.methodLink "jdk/internal/util/ArraysSupport" (194 : Nat) ({ cls := "java/lang/Math", name := "max", desc := "(II)I" } : Jvm.MethodName)) ∈ xAll := xAll_in 360 (by decide +kernel) (by decide +kernel)
theorem k_329 : (Jvm.Cond.static ({ cls := "java/lang/Math", name := "max", desc := "(II)I" } : Jvm.MethodName)) ∈ xAll := xAll_in 361 (by decide +kernel) (by decide +kernel)
theorem k_330 : (Jvm.Cond.code ({ cls := "java/lang/Math", name := "max", desc := "(II)I" } : Jvm.MethodName) prog_13_method_65_code (2 : Nat) (Option.some Jvm.ClassFile.FieldType.int)) ∈ xAll := xAll_in 362 (by decide +kernel) (by decide +kernel)
theorem k_331 : (Jvm.Cond.constant "jdk/internal/util/ArraysSupport" (200 : Nat) (2147483639 : Int32)) ∈ xAll := xAll_in 363 (by decide +kernel) (by decide +kernel)
theorem k_332 : (Jvm.Cond.methodLink "jdk/internal/util/ArraysSupport" (201 : Nat) ({ cls := "jdk/internal/util/ArraysSupport", name := "hugeLength", desc := "(II)I" } : Jvm.MethodName)) ∈ xAll := xAll_in 364 (by decide +kernel) (by decide +kernel)
theorem k_333 : (Jvm.Cond.static ({ cls := "jdk/internal/util/ArraysSupport", name := "hugeLength", desc := "(II)I" } : Jvm.MethodName)) ∈ xAll := xAll_in 365 (by decide +kernel) (by decide +kernel)
theorem k_334 : (Jvm.Cond.code ({ cls := "jdk/internal/util/ArraysSupport", name := "hugeLength", desc := "(II)I" } : Jvm.MethodName) prog_27_method_28_code (3 : Nat) (Option.some Jvm.ClassFile.FieldType.int)) ∈ xAll := xAll_in 366 (by decide +kernel) (by decide +kernel)
theorem k_335 : (Jvm.Cond.methodLink "java/util/ArrayList" (66 : Nat) ({ cls := "java/util/Arrays", name := "copyOf", desc := "([Ljava/lang/Object;I)[Ljava/lang/Object;" } : Jvm.MethodName)) ∈ xAll := xAll_in 367 (by decide +kernel) (by decide +kernel)
theorem k_336 : (Jvm.Cond.static ({ cls := "java/util/Arrays", name := "copyOf", desc := "([Ljava/lang/Object;I)[Ljava/lang/Object;" } : Jvm.MethodName)) ∈ xAll := xAll_in 368 (by decide +kernel) (by decide +kernel)
theorem k_337 : (Jvm.Cond.code ({ cls := "java/util/Arrays", name := "copyOf", desc := "([Ljava/lang/Object;I)[Ljava/lang/Object;" } : Jvm.MethodName) prog_21_method_119_code (2 : Nat) (Option.some (Jvm.ClassFile.FieldType.array (Jvm.ClassFile.FieldType.object "java/lang/Object")))) ∈ xAll := xAll_in 369 (by decide +kernel) (by decide +kernel)
theorem k_338 : (Jvm.Cond.methodLink "java/util/Arrays" (86 : Nat) ({ cls := "java/lang/Object", name := "getClass", desc := "()Ljava/lang/Class;" } : Jvm.MethodName)) ∈ xAll := xAll_in 370 (by decide +kernel) (by decide +kernel)
theorem k_339 : (Jvm.Cond.instanceMethod ({ cls := "java/lang/Object", name := "getClass", desc := "()Ljava/lang/Class;" } : Jvm.MethodName)) ∈ xAll := xAll_in 371 (by decide +kernel) (by decide +kernel)
theorem k_340 : (Jvm.Cond.sameMethod "java/lang/Object" "java/lang/Object" "getClass" "()Ljava/lang/Class;") ∈ xAll := xAll_in 372 (by decide +kernel) (by decide +kernel)
theorem k_341 : (Jvm.Cond.selects "LeftThings" ({ cls := "java/lang/Object", name := "getClass", desc := "()Ljava/lang/Class;" } : Jvm.MethodName) ({ cls := "java/lang/Object", name := "getClass", desc := "()Ljava/lang/Class;" } : Jvm.MethodName)) ∈ xAll := xAll_in 373 (by decide +kernel) (by decide +kernel)
theorem k_342 : (Jvm.Cond.selects "LeftThings$Tag" ({ cls := "java/lang/Object", name := "getClass", desc := "()Ljava/lang/Class;" } : Jvm.MethodName) ({ cls := "java/lang/Object", name := "getClass", desc := "()Ljava/lang/Class;" } : Jvm.MethodName)) ∈ xAll := xAll_in 374 (by decide +kernel) (by decide +kernel)
theorem k_343 : (Jvm.Cond.selects "LeftThings$Thing" ({ cls := "java/lang/Object", name := "getClass", desc := "()Ljava/lang/Class;" } : Jvm.MethodName) ({ cls := "java/lang/Object", name := "getClass", desc := "()Ljava/lang/Class;" } : Jvm.MethodName)) ∈ xAll := xAll_in 375 (by decide +kernel) (by decide +kernel)
theorem k_344 : (Jvm.Cond.selects "LeftThingsModel" ({ cls := "java/lang/Object", name := "getClass", desc := "()Ljava/lang/Class;" } : Jvm.MethodName) ({ cls := "java/lang/Object", name := "getClass", desc := "()Ljava/lang/Class;" } : Jvm.MethodName)) ∈ xAll := xAll_in 376 (by decide +kernel) (by decide +kernel)
theorem k_345 : (Jvm.Cond.selects "java/lang/IllegalArgumentException" ({ cls := "java/lang/Object", name := "getClass", desc := "()Ljava/lang/Class;" } : Jvm.MethodName) ({ cls := "java/lang/Object", name := "getClass", desc := "()Ljava/lang/Class;" } : Jvm.MethodName)) ∈ xAll := xAll_in 377 (by decide +kernel) (by decide +kernel)
theorem k_346 : (Jvm.Cond.selects "java/lang/IllegalStateException" ({ cls := "java/lang/Object", name := "getClass", desc := "()Ljava/lang/Class;" } : Jvm.MethodName) ({ cls := "java/lang/Object", name := "getClass", desc := "()Ljava/lang/Class;" } : Jvm.MethodName)) ∈ xAll := xAll_in 378 (by decide +kernel) (by decide +kernel)
theorem k_347 : (Jvm.Cond.selects "java/lang/IndexOutOfBoundsException" ({ cls := "java/lang/Object", name := "getClass", desc := "()Ljava/lang/Class;" } : Jvm.MethodName) ({ cls := "java/lang/Object", name := "getClass", desc := "()Ljava/lang/Class;" } : Jvm.MethodName)) ∈ xAll := xAll_in 379 (by decide +kernel) (by decide +kernel)
theorem k_348 : (Jvm.Cond.selects "java/util/ArrayList" ({ cls := "java/lang/Object", name := "getClass", desc := "()Ljava/lang/Class;" } : Jvm.MethodName) ({ cls := "java/lang/Object", name := "getClass", desc := "()Ljava/lang/Class;" } : Jvm.MethodName)) ∈ xAll := xAll_in 380 (by decide +kernel) (by decide +kernel)
theorem k_349 : (Jvm.Cond.native ({ cls := "java/lang/Object", name := "getClass", desc := "()Ljava/lang/Class;" } : Jvm.MethodName)) ∈ xAll := xAll_in 381 (by decide +kernel) (by decide +kernel)
theorem k_350 : (Jvm.Cond.methodLink "java/util/Arrays" (300 : Nat) ({ cls := "java/util/Arrays", name := "copyOf", desc := "([Ljava/lang/Object;ILjava/lang/Class;)[Ljava/lang/Object;" } : Jvm.MethodName)) ∈ xAll := xAll_in 382 (by decide +kernel) (by decide +kernel)
theorem k_351 : (Jvm.Cond.static ({ cls := "java/util/Arrays", name := "copyOf", desc := "([Ljava/lang/Object;ILjava/lang/Class;)[Ljava/lang/Object;" } : Jvm.MethodName)) ∈ xAll := xAll_in 383 (by decide +kernel) (by decide +kernel)
theorem k_352 : (Jvm.Cond.code ({ cls := "java/util/Arrays", name := "copyOf", desc := "([Ljava/lang/Object;ILjava/lang/Class;)[Ljava/lang/Object;" } : Jvm.MethodName) prog_21_method_120_code (4 : Nat) (Option.some (Jvm.ClassFile.FieldType.array (Jvm.ClassFile.FieldType.object "java/lang/Object")))) ∈ xAll := xAll_in 384 (by decide +kernel) (by decide +kernel)
theorem k_353 : (Jvm.Cond.classLink "java/util/Arrays" (110 : Nat) "[Ljava/lang/Object;") ∈ xAll := xAll_in 385 (by decide +kernel) (by decide +kernel)
theorem k_355 : (Jvm.Cond.classLink "java/util/Arrays" (2 : Nat) "java/lang/Object") ∈ xAll := xAll_in 387 (by decide +kernel) (by decide +kernel)
theorem k_356 : (Jvm.Cond.methodLink "java/util/Arrays" (304 : Nat) ({ cls := "java/lang/Math", name := "min", desc := "(II)I" } : Jvm.MethodName)) ∈ xAll := xAll_in 388 (by decide +kernel) (by decide +kernel)
theorem k_357 : (Jvm.Cond.static ({ cls := "java/lang/Math", name := "min", desc := "(II)I" } : Jvm.MethodName)) ∈ xAll := xAll_in 389 (by decide +kernel) (by decide +kernel)
theorem k_358 : (Jvm.Cond.code ({ cls := "java/lang/Math", name := "min", desc := "(II)I" } : Jvm.MethodName) prog_13_method_69_code (2 : Nat) (Option.some Jvm.ClassFile.FieldType.int)) ∈ xAll := xAll_in 390 (by decide +kernel) (by decide +kernel)
theorem k_359 : (Jvm.Cond.methodLink "java/util/Arrays" (150 : Nat) ({ cls := "java/lang/System", name := "arraycopy", desc := "(Ljava/lang/Object;ILjava/lang/Object;II)V" } : Jvm.MethodName)) ∈ xAll := xAll_in 391 (by decide +kernel) (by decide +kernel)
theorem k_360 : (Jvm.Cond.static ({ cls := "java/lang/System", name := "arraycopy", desc := "(Ljava/lang/Object;ILjava/lang/Object;II)V" } : Jvm.MethodName)) ∈ xAll := xAll_in 392 (by decide +kernel) (by decide +kernel)
theorem k_361 : (Jvm.Cond.native ({ cls := "java/lang/System", name := "arraycopy", desc := "(Ljava/lang/Object;ILjava/lang/Object;II)V" } : Jvm.MethodName)) ∈ xAll := xAll_in 393 (by decide +kernel) (by decide +kernel)
theorem k_362 : (Jvm.Cond.methodLink "java/util/ArrayList" (79 : Nat) ({ cls := "java/lang/Math", name := "max", desc := "(II)I" } : Jvm.MethodName)) ∈ xAll := xAll_in 394 (by decide +kernel) (by decide +kernel)
theorem k_363 : (Jvm.Cond.classLink "java/util/ArrayList" (7 : Nat) "java/lang/Object") ∈ xAll := xAll_in 395 (by decide +kernel) (by decide +kernel)
theorem k_364 : (Jvm.Cond.methodLink "LeftThingsLaw" (92 : Nat) ({ cls := "LeftThingsLaw", name := "fetch", desc := "(LLeftThings;I[J)I" } : Jvm.MethodName)) ∈ xAll := xAll_in 396 (by decide +kernel) (by decide +kernel)
theorem k_365 : (Jvm.Cond.static ({ cls := "LeftThingsLaw", name := "fetch", desc := "(LLeftThings;I[J)I" } : Jvm.MethodName)) ∈ xAll := xAll_in 397 (by decide +kernel) (by decide +kernel)
theorem k_366 : (Jvm.Cond.codeWith ({ cls := "LeftThingsLaw", name := "fetch", desc := "(LLeftThings;I[J)I" } : Jvm.MethodName) method_6_code (4 : Nat) (Option.some Jvm.ClassFile.FieldType.int) [((0 : Nat), (9 : Nat), (12 : Nat), (28 : Nat)), ((0 : Nat), (9 : Nat), (15 : Nat), (23 : Nat))]) ∈ xAll := xAll_in 398 (by decide +kernel) (by decide +kernel)
theorem k_367 : (Jvm.Cond.classLink "LeftThingsLaw" (28 : Nat) "java/lang/IndexOutOfBoundsException") ∈ xAll := xAll_in 399 (by decide +kernel) (by decide +kernel)
theorem k_368 : (Jvm.Cond.methodLink "LeftThingsLaw" (25 : Nat) ({ cls := "LeftThings", name := "fetch", desc := "(I)I" } : Jvm.MethodName)) ∈ xAll := xAll_in 400 (by decide +kernel) (by decide +kernel)
theorem k_369 : (Jvm.Cond.instanceMethod ({ cls := "LeftThings", name := "fetch", desc := "(I)I" } : Jvm.MethodName)) ∈ xAll := xAll_in 401 (by decide +kernel) (by decide +kernel)
theorem k_370 : (Jvm.Cond.selects "LeftThings" ({ cls := "LeftThings", name := "fetch", desc := "(I)I" } : Jvm.MethodName) ({ cls := "LeftThings", name := "fetch", desc := "(I)I" } : Jvm.MethodName)) ∈ xAll := xAll_in 402 (by decide +kernel) (by decide +kernel)
theorem k_371 : (Jvm.Cond.code ({ cls := "LeftThings", name := "fetch", desc := "(I)I" } : Jvm.MethodName) prog_1_method_5_code (4 : Nat) (Option.some Jvm.ClassFile.FieldType.int)) ∈ xAll := xAll_in 403 (by decide +kernel) (by decide +kernel)
theorem k_372 : (Jvm.Cond.methodLink "LeftThings" (85 : Nat) ({ cls := "LeftThings", name := "thingNumbered", desc := "(I)LLeftThings$Thing;" } : Jvm.MethodName)) ∈ xAll := xAll_in 404 (by decide +kernel) (by decide +kernel)
theorem k_373 : (Jvm.Cond.privateMethod ({ cls := "LeftThings", name := "thingNumbered", desc := "(I)LLeftThings$Thing;" } : Jvm.MethodName)) ∈ xAll := xAll_in 405 (by decide +kernel) (by decide +kernel)
theorem k_374 : (Jvm.Cond.instanceMethod ({ cls := "LeftThings", name := "thingNumbered", desc := "(I)LLeftThings$Thing;" } : Jvm.MethodName)) ∈ xAll := xAll_in 406 (by decide +kernel) (by decide +kernel)
theorem k_375 : (Jvm.Cond.code ({ cls := "LeftThings", name := "thingNumbered", desc := "(I)LLeftThings$Thing;" } : Jvm.MethodName) prog_1_method_25_code (2 : Nat) (Option.some (Jvm.ClassFile.FieldType.object "LeftThings$Thing"))) ∈ xAll := xAll_in 407 (by decide +kernel) (by decide +kernel)
theorem k_376 : (Jvm.Cond.classLink "LeftThings" (176 : Nat) "java/lang/IndexOutOfBoundsException") ∈ xAll := xAll_in 408 (by decide +kernel) (by decide +kernel)
theorem k_377 : (Jvm.Cond.instantiable "java/lang/IndexOutOfBoundsException" (6 : Nat)) ∈ xAll := xAll_in 409 (by decide +kernel) (by decide +kernel)
theorem k_378 : (Jvm.Cond.castable "java/lang/IndexOutOfBoundsException" "java/lang/IndexOutOfBoundsException") ∈ xAll := xAll_in 410 (by decide +kernel) (by decide +kernel)
theorem k_379 : (Jvm.Cond.selects "java/lang/IndexOutOfBoundsException" ({ cls := "java/lang/Throwable", name := "fillInStackTrace", desc := "(I)Ljava/lang/Throwable;" } : Jvm.MethodName) ({ cls := "java/lang/Throwable", name := "fillInStackTrace", desc := "(I)Ljava/lang/Throwable;" } : Jvm.MethodName)) ∈ xAll := xAll_in 411 (by decide +kernel) (by decide +kernel)
theorem k_380 : (Jvm.Cond.lays "java/lang/IndexOutOfBoundsException" "java/lang/Throwable" "cause" "Ljava/lang/Throwable;") ∈ xAll := xAll_in 412 (by decide +kernel) (by decide +kernel)
theorem k_381 : (Jvm.Cond.lays "java/lang/IndexOutOfBoundsException" "java/lang/Throwable" "stackTrace" "[Ljava/lang/StackTraceElement;") ∈ xAll := xAll_in 413 (by decide +kernel) (by decide +kernel)
theorem k_382 : (Jvm.Cond.lays "java/lang/IndexOutOfBoundsException" "java/lang/Throwable" "suppressedExceptions" "Ljava/util/List;") ∈ xAll := xAll_in 414 (by decide +kernel) (by decide +kernel)
theorem k_383 : (Jvm.Cond.lays "java/lang/IndexOutOfBoundsException" "java/lang/Throwable" "detailMessage" "Ljava/lang/String;") ∈ xAll := xAll_in 415 (by decide +kernel) (by decide +kernel)
theorem k_384 : (Jvm.Cond.lays "java/lang/IndexOutOfBoundsException" "java/lang/Throwable" "backtrace" "Ljava/lang/Object;") ∈ xAll := xAll_in 416 (by decide +kernel) (by decide +kernel)
theorem k_386 : (Jvm.Cond.methodLink "LeftThings" (180 : Nat) ({ cls := "java/lang/IndexOutOfBoundsException", name := "<init>", desc := "(Ljava/lang/String;)V" } : Jvm.MethodName)) ∈ xAll := xAll_in 418 (by decide +kernel) (by decide +kernel)
theorem k_387 : (Jvm.Cond.instanceMethod ({ cls := "java/lang/IndexOutOfBoundsException", name := "<init>", desc := "(Ljava/lang/String;)V" } : Jvm.MethodName)) ∈ xAll := xAll_in 419 (by decide +kernel) (by decide +kernel)
theorem k_388 : (Jvm.Cond.code ({ cls := "java/lang/IndexOutOfBoundsException", name := "<init>", desc := "(Ljava/lang/String;)V" } : Jvm.MethodName) prog_11_method_2_code (2 : Nat) (Option.none : Option Jvm.ClassFile.FieldType)) ∈ xAll := xAll_in 420 (by decide +kernel) (by decide +kernel)
theorem k_389 : (Jvm.Cond.methodLink "java/lang/IndexOutOfBoundsException" (7 : Nat) ({ cls := "java/lang/RuntimeException", name := "<init>", desc := "(Ljava/lang/String;)V" } : Jvm.MethodName)) ∈ xAll := xAll_in 421 (by decide +kernel) (by decide +kernel)
theorem k_390 : (Jvm.Cond.lays "java/lang/IndexOutOfBoundsException" "java/lang/Throwable" "depth" "I") ∈ xAll := xAll_in 422 (by decide +kernel) (by decide +kernel)
theorem k_391 : (Jvm.Cond.superclass "java/lang/IndexOutOfBoundsException" "java/lang/RuntimeException") ∈ xAll := xAll_in 423 (by decide +kernel) (by decide +kernel)
theorem k_392 : (Jvm.Cond.methodLinkNest "LeftThings" (89 : Nat) ({ cls := "LeftThings$Thing", name := "isAtCounter", desc := "()Z" } : Jvm.MethodName) "LeftThings") ∈ xAll := xAll_in 424 (by decide +kernel) (by decide +kernel)
theorem k_393 : (Jvm.Cond.privateMethod ({ cls := "LeftThings$Thing", name := "isAtCounter", desc := "()Z" } : Jvm.MethodName)) ∈ xAll := xAll_in 425 (by decide +kernel) (by decide +kernel)
theorem k_394 : (Jvm.Cond.instanceMethod ({ cls := "LeftThings$Thing", name := "isAtCounter", desc := "()Z" } : Jvm.MethodName)) ∈ xAll := xAll_in 426 (by decide +kernel) (by decide +kernel)
theorem k_395 : (Jvm.Cond.code ({ cls := "LeftThings$Thing", name := "isAtCounter", desc := "()Z" } : Jvm.MethodName) prog_3_method_2_code (1 : Nat) (Option.some Jvm.ClassFile.FieldType.boolean)) ∈ xAll := xAll_in 427 (by decide +kernel) (by decide +kernel)
theorem k_396 : (Jvm.Cond.methodLinkNest "LeftThings$Thing" (54 : Nat) ({ cls := "LeftThings", name := "isCounter", desc := "(I)Z" } : Jvm.MethodName) "LeftThings") ∈ xAll := xAll_in 428 (by decide +kernel) (by decide +kernel)
theorem k_397 : (Jvm.Cond.methodLinkNest "LeftThings" (93 : Nat) ({ cls := "LeftThings$Thing", name := "hasLoan", desc := "()Z" } : Jvm.MethodName) "LeftThings") ∈ xAll := xAll_in 429 (by decide +kernel) (by decide +kernel)
theorem k_398 : (Jvm.Cond.privateMethod ({ cls := "LeftThings$Thing", name := "hasLoan", desc := "()Z" } : Jvm.MethodName)) ∈ xAll := xAll_in 430 (by decide +kernel) (by decide +kernel)
theorem k_399 : (Jvm.Cond.instanceMethod ({ cls := "LeftThings$Thing", name := "hasLoan", desc := "()Z" } : Jvm.MethodName)) ∈ xAll := xAll_in 431 (by decide +kernel) (by decide +kernel)
theorem k_400 : (Jvm.Cond.code ({ cls := "LeftThings$Thing", name := "hasLoan", desc := "()Z" } : Jvm.MethodName) prog_3_method_3_code (1 : Nat) (Option.some Jvm.ClassFile.FieldType.boolean)) ∈ xAll := xAll_in 432 (by decide +kernel) (by decide +kernel)
theorem k_402 : (Jvm.Cond.methodLink "LeftThings" (101 : Nat) ({ cls := "LeftThings", name := "giveAway", desc := "(LLeftThings$Thing;II)V" } : Jvm.MethodName)) ∈ xAll := xAll_in 434 (by decide +kernel) (by decide +kernel)
theorem k_403 : (Jvm.Cond.privateMethod ({ cls := "LeftThings", name := "giveAway", desc := "(LLeftThings$Thing;II)V" } : Jvm.MethodName)) ∈ xAll := xAll_in 435 (by decide +kernel) (by decide +kernel)
theorem k_404 : (Jvm.Cond.instanceMethod ({ cls := "LeftThings", name := "giveAway", desc := "(LLeftThings$Thing;II)V" } : Jvm.MethodName)) ∈ xAll := xAll_in 436 (by decide +kernel) (by decide +kernel)
theorem k_405 : (Jvm.Cond.code ({ cls := "LeftThings", name := "giveAway", desc := "(LLeftThings$Thing;II)V" } : Jvm.MethodName) prog_1_method_30_code (4 : Nat) (Option.none : Option Jvm.ClassFile.FieldType)) ∈ xAll := xAll_in 437 (by decide +kernel) (by decide +kernel)
theorem k_406 : (Jvm.Cond.methodLink "LeftThings" (115 : Nat) ({ cls := "LeftThings", name := "dropEndedWishes", desc := "()V" } : Jvm.MethodName)) ∈ xAll := xAll_in 438 (by decide +kernel) (by decide +kernel)
theorem k_407 : (Jvm.Cond.privateMethod ({ cls := "LeftThings", name := "dropEndedWishes", desc := "()V" } : Jvm.MethodName)) ∈ xAll := xAll_in 439 (by decide +kernel) (by decide +kernel)
theorem k_408 : (Jvm.Cond.instanceMethod ({ cls := "LeftThings", name := "dropEndedWishes", desc := "()V" } : Jvm.MethodName)) ∈ xAll := xAll_in 440 (by decide +kernel) (by decide +kernel)
theorem k_409 : (Jvm.Cond.code ({ cls := "LeftThings", name := "dropEndedWishes", desc := "()V" } : Jvm.MethodName) prog_1_method_29_code (2 : Nat) (Option.none : Option Jvm.ClassFile.FieldType)) ∈ xAll := xAll_in 441 (by decide +kernel) (by decide +kernel)
theorem k_410 : (Jvm.Cond.methodLink "LeftThings" (192 : Nat) ({ cls := "java/util/ArrayList", name := "remove", desc := "(I)Ljava/lang/Object;" } : Jvm.MethodName)) ∈ xAll := xAll_in 442 (by decide +kernel) (by decide +kernel)
theorem k_411 : (Jvm.Cond.instanceMethod ({ cls := "java/util/ArrayList", name := "remove", desc := "(I)Ljava/lang/Object;" } : Jvm.MethodName)) ∈ xAll := xAll_in 443 (by decide +kernel) (by decide +kernel)
theorem k_412 : (Jvm.Cond.selects "java/util/ArrayList" ({ cls := "java/util/ArrayList", name := "remove", desc := "(I)Ljava/lang/Object;" } : Jvm.MethodName) ({ cls := "java/util/ArrayList", name := "remove", desc := "(I)Ljava/lang/Object;" } : Jvm.MethodName)) ∈ xAll := xAll_in 444 (by decide +kernel) (by decide +kernel)
theorem k_413 : (Jvm.Cond.code ({ cls := "java/util/ArrayList", name := "remove", desc := "(I)Ljava/lang/Object;" } : Jvm.MethodName) prog_20_method_29_code (4 : Nat) (Option.some (Jvm.ClassFile.FieldType.object "java/lang/Object"))) ∈ xAll := xAll_in 445 (by decide +kernel) (by decide +kernel)
theorem k_414 : (Jvm.Cond.methodLink "java/util/ArrayList" (144 : Nat) ({ cls := "java/util/ArrayList", name := "fastRemove", desc := "([Ljava/lang/Object;I)V" } : Jvm.MethodName)) ∈ xAll := xAll_in 446 (by decide +kernel) (by decide +kernel)
theorem k_415 : (Jvm.Cond.privateMethod ({ cls := "java/util/ArrayList", name := "fastRemove", desc := "([Ljava/lang/Object;I)V" } : Jvm.MethodName)) ∈ xAll := xAll_in 447 (by decide +kernel) (by decide +kernel)
theorem k_416 : (Jvm.Cond.instanceMethod ({ cls := "java/util/ArrayList", name := "fastRemove", desc := "([Ljava/lang/Object;I)V" } : Jvm.MethodName)) ∈ xAll := xAll_in 448 (by decide +kernel) (by decide +kernel)
theorem k_417 : (Jvm.Cond.code ({ cls := "java/util/ArrayList", name := "fastRemove", desc := "([Ljava/lang/Object;I)V" } : Jvm.MethodName) prog_20_method_39_code (4 : Nat) (Option.none : Option Jvm.ClassFile.FieldType)) ∈ xAll := xAll_in 449 (by decide +kernel) (by decide +kernel)
theorem k_418 : (Jvm.Cond.methodLink "java/util/ArrayList" (112 : Nat) ({ cls := "java/lang/System", name := "arraycopy", desc := "(Ljava/lang/Object;ILjava/lang/Object;II)V" } : Jvm.MethodName)) ∈ xAll := xAll_in 450 (by decide +kernel) (by decide +kernel)
theorem k_419 : (Jvm.Cond.methodLinkNest "LeftThings" (195 : Nat) ({ cls := "LeftThings$Thing", name := "moveTo", desc := "(II)V" } : Jvm.MethodName) "LeftThings") ∈ xAll := xAll_in 451 (by decide +kernel) (by decide +kernel)
theorem k_420 : (Jvm.Cond.privateMethod ({ cls := "LeftThings$Thing", name := "moveTo", desc := "(II)V" } : Jvm.MethodName)) ∈ xAll := xAll_in 452 (by decide +kernel) (by decide +kernel)
theorem k_421 : (Jvm.Cond.instanceMethod ({ cls := "LeftThings$Thing", name := "moveTo", desc := "(II)V" } : Jvm.MethodName)) ∈ xAll := xAll_in 453 (by decide +kernel) (by decide +kernel)
theorem k_422 : (Jvm.Cond.code ({ cls := "LeftThings$Thing", name := "moveTo", desc := "(II)V" } : Jvm.MethodName) prog_3_method_7_code (3 : Nat) (Option.none : Option Jvm.ClassFile.FieldType)) ∈ xAll := xAll_in 454 (by decide +kernel) (by decide +kernel)
theorem k_423 : (Jvm.Cond.methodLink "LeftThingsLaw" (95 : Nat) ({ cls := "LeftThingsLaw", name := "want", desc := "(LLeftThings;II[J)I" } : Jvm.MethodName)) ∈ xAll := xAll_in 455 (by decide +kernel) (by decide +kernel)
theorem k_424 : (Jvm.Cond.static ({ cls := "LeftThingsLaw", name := "want", desc := "(LLeftThings;II[J)I" } : Jvm.MethodName)) ∈ xAll := xAll_in 456 (by decide +kernel) (by decide +kernel)
theorem k_425 : (Jvm.Cond.codeWith ({ cls := "LeftThingsLaw", name := "want", desc := "(LLeftThings;II[J)I" } : Jvm.MethodName) method_7_code (5 : Nat) (Option.some Jvm.ClassFile.FieldType.int) [((0 : Nat), (10 : Nat), (13 : Nat), (28 : Nat)), ((0 : Nat), (10 : Nat), (17 : Nat), (13 : Nat)), ((0 : Nat), (10 : Nat), (21 : Nat), (23 : Nat))]) ∈ xAll := xAll_in 457 (by decide +kernel) (by decide +kernel)
theorem k_426 : (Jvm.Cond.methodLink "LeftThingsLaw" (30 : Nat) ({ cls := "LeftThings", name := "want", desc := "(II)I" } : Jvm.MethodName)) ∈ xAll := xAll_in 458 (by decide +kernel) (by decide +kernel)
theorem k_427 : (Jvm.Cond.instanceMethod ({ cls := "LeftThings", name := "want", desc := "(II)I" } : Jvm.MethodName)) ∈ xAll := xAll_in 459 (by decide +kernel) (by decide +kernel)
theorem k_428 : (Jvm.Cond.selects "LeftThings" ({ cls := "LeftThings", name := "want", desc := "(II)I" } : Jvm.MethodName) ({ cls := "LeftThings", name := "want", desc := "(II)I" } : Jvm.MethodName)) ∈ xAll := xAll_in 460 (by decide +kernel) (by decide +kernel)
theorem k_429 : (Jvm.Cond.code ({ cls := "LeftThings", name := "want", desc := "(II)I" } : Jvm.MethodName) prog_1_method_6_code (4 : Nat) (Option.some Jvm.ClassFile.FieldType.int)) ∈ xAll := xAll_in 461 (by decide +kernel) (by decide +kernel)
theorem k_432 : (Jvm.Cond.methodLink "LeftThingsLaw" (98 : Nat) ({ cls := "LeftThingsLaw", name := "value", desc := "(LLeftThings;II[J)I" } : Jvm.MethodName)) ∈ xAll := xAll_in 464 (by decide +kernel) (by decide +kernel)
theorem k_433 : (Jvm.Cond.static ({ cls := "LeftThingsLaw", name := "value", desc := "(LLeftThings;II[J)I" } : Jvm.MethodName)) ∈ xAll := xAll_in 465 (by decide +kernel) (by decide +kernel)
theorem k_434 : (Jvm.Cond.codeWith ({ cls := "LeftThingsLaw", name := "value", desc := "(LLeftThings;II[J)I" } : Jvm.MethodName) method_8_code (5 : Nat) (Option.some Jvm.ClassFile.FieldType.int) [((0 : Nat), (10 : Nat), (13 : Nat), (28 : Nat)), ((0 : Nat), (10 : Nat), (17 : Nat), (13 : Nat)), ((0 : Nat), (10 : Nat), (21 : Nat), (23 : Nat))]) ∈ xAll := xAll_in 466 (by decide +kernel) (by decide +kernel)
theorem k_435 : (Jvm.Cond.methodLink "LeftThingsLaw" (33 : Nat) ({ cls := "LeftThings", name := "value", desc := "(II)I" } : Jvm.MethodName)) ∈ xAll := xAll_in 467 (by decide +kernel) (by decide +kernel)
theorem k_436 : (Jvm.Cond.instanceMethod ({ cls := "LeftThings", name := "value", desc := "(II)I" } : Jvm.MethodName)) ∈ xAll := xAll_in 468 (by decide +kernel) (by decide +kernel)
theorem k_437 : (Jvm.Cond.selects "LeftThings" ({ cls := "LeftThings", name := "value", desc := "(II)I" } : Jvm.MethodName) ({ cls := "LeftThings", name := "value", desc := "(II)I" } : Jvm.MethodName)) ∈ xAll := xAll_in 469 (by decide +kernel) (by decide +kernel)
theorem k_438 : (Jvm.Cond.code ({ cls := "LeftThings", name := "value", desc := "(II)I" } : Jvm.MethodName) prog_1_method_7_code (5 : Nat) (Option.some Jvm.ClassFile.FieldType.int)) ∈ xAll := xAll_in 470 (by decide +kernel) (by decide +kernel)
theorem k_441 : (Jvm.Cond.methodLink "LeftThingsLaw" (101 : Nat) ({ cls := "LeftThingsLaw", name := "lend", desc := "(LLeftThings;III)I" } : Jvm.MethodName)) ∈ xAll := xAll_in 473 (by decide +kernel) (by decide +kernel)
theorem k_442 : (Jvm.Cond.static ({ cls := "LeftThingsLaw", name := "lend", desc := "(LLeftThings;III)I" } : Jvm.MethodName)) ∈ xAll := xAll_in 474 (by decide +kernel) (by decide +kernel)
theorem k_443 : (Jvm.Cond.codeWith ({ cls := "LeftThingsLaw", name := "lend", desc := "(LLeftThings;III)I" } : Jvm.MethodName) method_9_code (5 : Nat) (Option.some Jvm.ClassFile.FieldType.int) [((0 : Nat), (7 : Nat), (10 : Nat), (28 : Nat)), ((0 : Nat), (7 : Nat), (14 : Nat), (13 : Nat)), ((0 : Nat), (7 : Nat), (18 : Nat), (23 : Nat))]) ∈ xAll := xAll_in 475 (by decide +kernel) (by decide +kernel)
theorem k_444 : (Jvm.Cond.methodLink "LeftThingsLaw" (36 : Nat) ({ cls := "LeftThings", name := "lend", desc := "(III)V" } : Jvm.MethodName)) ∈ xAll := xAll_in 476 (by decide +kernel) (by decide +kernel)
theorem k_445 : (Jvm.Cond.instanceMethod ({ cls := "LeftThings", name := "lend", desc := "(III)V" } : Jvm.MethodName)) ∈ xAll := xAll_in 477 (by decide +kernel) (by decide +kernel)
theorem k_446 : (Jvm.Cond.selects "LeftThings" ({ cls := "LeftThings", name := "lend", desc := "(III)V" } : Jvm.MethodName) ({ cls := "LeftThings", name := "lend", desc := "(III)V" } : Jvm.MethodName)) ∈ xAll := xAll_in 478 (by decide +kernel) (by decide +kernel)
theorem k_447 : (Jvm.Cond.code ({ cls := "LeftThings", name := "lend", desc := "(III)V" } : Jvm.MethodName) prog_1_method_8_code (5 : Nat) (Option.none : Option Jvm.ClassFile.FieldType)) ∈ xAll := xAll_in 479 (by decide +kernel) (by decide +kernel)
theorem k_450 : (Jvm.Cond.methodLinkNest "LeftThings" (132 : Nat) ({ cls := "LeftThings$Thing", name := "beginLoan", desc := "(II)V" } : Jvm.MethodName) "LeftThings") ∈ xAll := xAll_in 482 (by decide +kernel) (by decide +kernel)
theorem k_451 : (Jvm.Cond.privateMethod ({ cls := "LeftThings$Thing", name := "beginLoan", desc := "(II)V" } : Jvm.MethodName)) ∈ xAll := xAll_in 483 (by decide +kernel) (by decide +kernel)
theorem k_452 : (Jvm.Cond.instanceMethod ({ cls := "LeftThings$Thing", name := "beginLoan", desc := "(II)V" } : Jvm.MethodName)) ∈ xAll := xAll_in 484 (by decide +kernel) (by decide +kernel)
theorem k_453 : (Jvm.Cond.code ({ cls := "LeftThings$Thing", name := "beginLoan", desc := "(II)V" } : Jvm.MethodName) prog_3_method_5_code (3 : Nat) (Option.none : Option Jvm.ClassFile.FieldType)) ∈ xAll := xAll_in 485 (by decide +kernel) (by decide +kernel)
theorem k_454 : (Jvm.Cond.methodLink "LeftThings" (136 : Nat) ({ cls := "LeftThings", name := "putIntoPurse", desc := "(II)V" } : Jvm.MethodName)) ∈ xAll := xAll_in 486 (by decide +kernel) (by decide +kernel)
theorem k_455 : (Jvm.Cond.privateMethod ({ cls := "LeftThings", name := "putIntoPurse", desc := "(II)V" } : Jvm.MethodName)) ∈ xAll := xAll_in 487 (by decide +kernel) (by decide +kernel)
theorem k_456 : (Jvm.Cond.instanceMethod ({ cls := "LeftThings", name := "putIntoPurse", desc := "(II)V" } : Jvm.MethodName)) ∈ xAll := xAll_in 488 (by decide +kernel) (by decide +kernel)
theorem k_457 : (Jvm.Cond.code ({ cls := "LeftThings", name := "putIntoPurse", desc := "(II)V" } : Jvm.MethodName) prog_1_method_28_code (3 : Nat) (Option.none : Option Jvm.ClassFile.FieldType)) ∈ xAll := xAll_in 489 (by decide +kernel) (by decide +kernel)
theorem k_458 : (Jvm.Cond.methodLink "LeftThingsLaw" (105 : Nat) ({ cls := "LeftThingsLaw", name := "repay", desc := "(LLeftThings;I[J)I" } : Jvm.MethodName)) ∈ xAll := xAll_in 490 (by decide +kernel) (by decide +kernel)
theorem k_459 : (Jvm.Cond.static ({ cls := "LeftThingsLaw", name := "repay", desc := "(LLeftThings;I[J)I" } : Jvm.MethodName)) ∈ xAll := xAll_in 491 (by decide +kernel) (by decide +kernel)
theorem k_460 : (Jvm.Cond.codeWith ({ cls := "LeftThingsLaw", name := "repay", desc := "(LLeftThings;I[J)I" } : Jvm.MethodName) method_10_code (4 : Nat) (Option.some Jvm.ClassFile.FieldType.int) [((0 : Nat), (9 : Nat), (12 : Nat), (28 : Nat)), ((0 : Nat), (9 : Nat), (15 : Nat), (23 : Nat))]) ∈ xAll := xAll_in 492 (by decide +kernel) (by decide +kernel)
theorem k_461 : (Jvm.Cond.methodLink "LeftThingsLaw" (40 : Nat) ({ cls := "LeftThings", name := "repay", desc := "(I)I" } : Jvm.MethodName)) ∈ xAll := xAll_in 493 (by decide +kernel) (by decide +kernel)
theorem k_462 : (Jvm.Cond.instanceMethod ({ cls := "LeftThings", name := "repay", desc := "(I)I" } : Jvm.MethodName)) ∈ xAll := xAll_in 494 (by decide +kernel) (by decide +kernel)
theorem k_463 : (Jvm.Cond.selects "LeftThings" ({ cls := "LeftThings", name := "repay", desc := "(I)I" } : Jvm.MethodName) ({ cls := "LeftThings", name := "repay", desc := "(I)I" } : Jvm.MethodName)) ∈ xAll := xAll_in 495 (by decide +kernel) (by decide +kernel)
theorem k_464 : (Jvm.Cond.code ({ cls := "LeftThings", name := "repay", desc := "(I)I" } : Jvm.MethodName) prog_1_method_9_code (4 : Nat) (Option.some Jvm.ClassFile.FieldType.int)) ∈ xAll := xAll_in 496 (by decide +kernel) (by decide +kernel)
theorem k_466 : (Jvm.Cond.methodLinkNest "LeftThings" (147 : Nat) ({ cls := "LeftThings$Thing", name := "endLoan", desc := "()V" } : Jvm.MethodName) "LeftThings") ∈ xAll := xAll_in 498 (by decide +kernel) (by decide +kernel)
theorem k_467 : (Jvm.Cond.privateMethod ({ cls := "LeftThings$Thing", name := "endLoan", desc := "()V" } : Jvm.MethodName)) ∈ xAll := xAll_in 499 (by decide +kernel) (by decide +kernel)
theorem k_468 : (Jvm.Cond.instanceMethod ({ cls := "LeftThings$Thing", name := "endLoan", desc := "()V" } : Jvm.MethodName)) ∈ xAll := xAll_in 500 (by decide +kernel) (by decide +kernel)
theorem k_469 : (Jvm.Cond.code ({ cls := "LeftThings$Thing", name := "endLoan", desc := "()V" } : Jvm.MethodName) prog_3_method_6_code (1 : Nat) (Option.none : Option Jvm.ClassFile.FieldType)) ∈ xAll := xAll_in 501 (by decide +kernel) (by decide +kernel)
theorem k_470 : (Jvm.Cond.methodLink "LeftThingsLaw" (108 : Nat) ({ cls := "LeftThingsLaw", name := "doubt", desc := "(LLeftThings;I[J)I" } : Jvm.MethodName)) ∈ xAll := xAll_in 502 (by decide +kernel) (by decide +kernel)
theorem k_471 : (Jvm.Cond.static ({ cls := "LeftThingsLaw", name := "doubt", desc := "(LLeftThings;I[J)I" } : Jvm.MethodName)) ∈ xAll := xAll_in 503 (by decide +kernel) (by decide +kernel)
theorem k_472 : (Jvm.Cond.codeWith ({ cls := "LeftThingsLaw", name := "doubt", desc := "(LLeftThings;I[J)I" } : Jvm.MethodName) method_11_code (4 : Nat) (Option.some Jvm.ClassFile.FieldType.int) [((0 : Nat), (9 : Nat), (12 : Nat), (28 : Nat)), ((0 : Nat), (9 : Nat), (15 : Nat), (23 : Nat))]) ∈ xAll := xAll_in 504 (by decide +kernel) (by decide +kernel)
theorem k_473 : (Jvm.Cond.methodLink "LeftThingsLaw" (43 : Nat) ({ cls := "LeftThings", name := "doubt", desc := "(I)I" } : Jvm.MethodName)) ∈ xAll := xAll_in 505 (by decide +kernel) (by decide +kernel)
theorem k_474 : (Jvm.Cond.instanceMethod ({ cls := "LeftThings", name := "doubt", desc := "(I)I" } : Jvm.MethodName)) ∈ xAll := xAll_in 506 (by decide +kernel) (by decide +kernel)
theorem k_475 : (Jvm.Cond.selects "LeftThings" ({ cls := "LeftThings", name := "doubt", desc := "(I)I" } : Jvm.MethodName) ({ cls := "LeftThings", name := "doubt", desc := "(I)I" } : Jvm.MethodName)) ∈ xAll := xAll_in 507 (by decide +kernel) (by decide +kernel)
theorem k_476 : (Jvm.Cond.code ({ cls := "LeftThings", name := "doubt", desc := "(I)I" } : Jvm.MethodName) prog_1_method_10_code (3 : Nat) (Option.some Jvm.ClassFile.FieldType.int)) ∈ xAll := xAll_in 508 (by decide +kernel) (by decide +kernel)
theorem k_477 : (Jvm.Cond.methodLinkNest "LeftThings" (150 : Nat) ({ cls := "LeftThings$Thing", name := "isCalled", desc := "()Z" } : Jvm.MethodName) "LeftThings") ∈ xAll := xAll_in 509 (by decide +kernel) (by decide +kernel)
theorem k_478 : (Jvm.Cond.privateMethod ({ cls := "LeftThings$Thing", name := "isCalled", desc := "()Z" } : Jvm.MethodName)) ∈ xAll := xAll_in 510 (by decide +kernel) (by decide +kernel)
theorem k_479 : (Jvm.Cond.instanceMethod ({ cls := "LeftThings$Thing", name := "isCalled", desc := "()Z" } : Jvm.MethodName)) ∈ xAll := xAll_in 511 (by decide +kernel) (by decide +kernel)
theorem k_480 : (Jvm.Cond.code ({ cls := "LeftThings$Thing", name := "isCalled", desc := "()Z" } : Jvm.MethodName) prog_3_method_4_code (1 : Nat) (Option.some Jvm.ClassFile.FieldType.boolean)) ∈ xAll := xAll_in 512 (by decide +kernel) (by decide +kernel)
theorem k_482 : (Jvm.Cond.methodLink "LeftThingsLaw" (111 : Nat) ({ cls := "LeftThingsLaw", name := "pass", desc := "(LLeftThings;I[J)I" } : Jvm.MethodName)) ∈ xAll := xAll_in 514 (by decide +kernel) (by decide +kernel)
theorem k_483 : (Jvm.Cond.static ({ cls := "LeftThingsLaw", name := "pass", desc := "(LLeftThings;I[J)I" } : Jvm.MethodName)) ∈ xAll := xAll_in 515 (by decide +kernel) (by decide +kernel)
theorem k_484 : (Jvm.Cond.codeWith ({ cls := "LeftThingsLaw", name := "pass", desc := "(LLeftThings;I[J)I" } : Jvm.MethodName) method_12_code (4 : Nat) (Option.some Jvm.ClassFile.FieldType.int) [((0 : Nat), (9 : Nat), (12 : Nat), (13 : Nat)), ((0 : Nat), (9 : Nat), (15 : Nat), (23 : Nat))]) ∈ xAll := xAll_in 516 (by decide +kernel) (by decide +kernel)
theorem k_485 : (Jvm.Cond.methodLink "LeftThingsLaw" (46 : Nat) ({ cls := "LeftThings", name := "pass", desc := "(I)I" } : Jvm.MethodName)) ∈ xAll := xAll_in 517 (by decide +kernel) (by decide +kernel)
theorem k_486 : (Jvm.Cond.instanceMethod ({ cls := "LeftThings", name := "pass", desc := "(I)I" } : Jvm.MethodName)) ∈ xAll := xAll_in 518 (by decide +kernel) (by decide +kernel)
theorem k_487 : (Jvm.Cond.selects "LeftThings" ({ cls := "LeftThings", name := "pass", desc := "(I)I" } : Jvm.MethodName) ({ cls := "LeftThings", name := "pass", desc := "(I)I" } : Jvm.MethodName)) ∈ xAll := xAll_in 519 (by decide +kernel) (by decide +kernel)
theorem k_488 : (Jvm.Cond.code ({ cls := "LeftThings", name := "pass", desc := "(I)I" } : Jvm.MethodName) prog_1_method_11_code (4 : Nat) (Option.some Jvm.ClassFile.FieldType.int)) ∈ xAll := xAll_in 520 (by decide +kernel) (by decide +kernel)
theorem k_491 : (Jvm.Cond.methodLink "LeftThings" (162 : Nat) ({ cls := "LeftThings", name := "endDay", desc := "()I" } : Jvm.MethodName)) ∈ xAll := xAll_in 523 (by decide +kernel) (by decide +kernel)
theorem k_492 : (Jvm.Cond.privateMethod ({ cls := "LeftThings", name := "endDay", desc := "()I" } : Jvm.MethodName)) ∈ xAll := xAll_in 524 (by decide +kernel) (by decide +kernel)
theorem k_493 : (Jvm.Cond.instanceMethod ({ cls := "LeftThings", name := "endDay", desc := "()I" } : Jvm.MethodName)) ∈ xAll := xAll_in 525 (by decide +kernel) (by decide +kernel)
theorem k_494 : (Jvm.Cond.code ({ cls := "LeftThings", name := "endDay", desc := "()I" } : Jvm.MethodName) prog_1_method_32_code (2 : Nat) (Option.some Jvm.ClassFile.FieldType.int)) ∈ xAll := xAll_in 526 (by decide +kernel) (by decide +kernel)
theorem k_495 : (Jvm.Cond.methodLink "LeftThings" (204 : Nat) ({ cls := "LeftThings", name := "oweFees", desc := "()V" } : Jvm.MethodName)) ∈ xAll := xAll_in 527 (by decide +kernel) (by decide +kernel)
theorem k_496 : (Jvm.Cond.privateMethod ({ cls := "LeftThings", name := "oweFees", desc := "()V" } : Jvm.MethodName)) ∈ xAll := xAll_in 528 (by decide +kernel) (by decide +kernel)
theorem k_497 : (Jvm.Cond.instanceMethod ({ cls := "LeftThings", name := "oweFees", desc := "()V" } : Jvm.MethodName)) ∈ xAll := xAll_in 529 (by decide +kernel) (by decide +kernel)
theorem k_498 : (Jvm.Cond.code ({ cls := "LeftThings", name := "oweFees", desc := "()V" } : Jvm.MethodName) prog_1_method_33_code (3 : Nat) (Option.none : Option Jvm.ClassFile.FieldType)) ∈ xAll := xAll_in 530 (by decide +kernel) (by decide +kernel)
theorem k_499 : (Jvm.Cond.methodLink "LeftThings" (207 : Nat) ({ cls := "LeftThings", name := "sellCalled", desc := "()I" } : Jvm.MethodName)) ∈ xAll := xAll_in 531 (by decide +kernel) (by decide +kernel)
theorem k_500 : (Jvm.Cond.privateMethod ({ cls := "LeftThings", name := "sellCalled", desc := "()I" } : Jvm.MethodName)) ∈ xAll := xAll_in 532 (by decide +kernel) (by decide +kernel)
theorem k_501 : (Jvm.Cond.instanceMethod ({ cls := "LeftThings", name := "sellCalled", desc := "()I" } : Jvm.MethodName)) ∈ xAll := xAll_in 533 (by decide +kernel) (by decide +kernel)
theorem k_502 : (Jvm.Cond.code ({ cls := "LeftThings", name := "sellCalled", desc := "()I" } : Jvm.MethodName) prog_1_method_34_code (4 : Nat) (Option.some Jvm.ClassFile.FieldType.int)) ∈ xAll := xAll_in 534 (by decide +kernel) (by decide +kernel)
theorem k_503 : (Jvm.Cond.methodLink "LeftThings" (216 : Nat) ({ cls := "LeftThings", name := "sell", desc := "(LLeftThings$Thing;)V" } : Jvm.MethodName)) ∈ xAll := xAll_in 535 (by decide +kernel) (by decide +kernel)
theorem k_504 : (Jvm.Cond.privateMethod ({ cls := "LeftThings", name := "sell", desc := "(LLeftThings$Thing;)V" } : Jvm.MethodName)) ∈ xAll := xAll_in 536 (by decide +kernel) (by decide +kernel)
theorem k_505 : (Jvm.Cond.instanceMethod ({ cls := "LeftThings", name := "sell", desc := "(LLeftThings$Thing;)V" } : Jvm.MethodName)) ∈ xAll := xAll_in 537 (by decide +kernel) (by decide +kernel)
theorem k_506 : (Jvm.Cond.code ({ cls := "LeftThings", name := "sell", desc := "(LLeftThings$Thing;)V" } : Jvm.MethodName) prog_1_method_31_code (5 : Nat) (Option.none : Option Jvm.ClassFile.FieldType)) ∈ xAll := xAll_in 538 (by decide +kernel) (by decide +kernel)
theorem k_507 : (Jvm.Cond.methodLink "LeftThings" (198 : Nat) ({ cls := "java/lang/Math", name := "min", desc := "(II)I" } : Jvm.MethodName)) ∈ xAll := xAll_in 539 (by decide +kernel) (by decide +kernel)
theorem k_508 : (Jvm.Cond.methodLink "LeftThings" (210 : Nat) ({ cls := "LeftThings", name := "sellUnfetched", desc := "()I" } : Jvm.MethodName)) ∈ xAll := xAll_in 540 (by decide +kernel) (by decide +kernel)
theorem k_509 : (Jvm.Cond.privateMethod ({ cls := "LeftThings", name := "sellUnfetched", desc := "()I" } : Jvm.MethodName)) ∈ xAll := xAll_in 541 (by decide +kernel) (by decide +kernel)
theorem k_510 : (Jvm.Cond.instanceMethod ({ cls := "LeftThings", name := "sellUnfetched", desc := "()I" } : Jvm.MethodName)) ∈ xAll := xAll_in 542 (by decide +kernel) (by decide +kernel)
theorem k_511 : (Jvm.Cond.code ({ cls := "LeftThings", name := "sellUnfetched", desc := "()I" } : Jvm.MethodName) prog_1_method_35_code (5 : Nat) (Option.some Jvm.ClassFile.FieldType.int)) ∈ xAll := xAll_in 543 (by decide +kernel) (by decide +kernel)
theorem k_512 : (Jvm.Cond.methodLink "LeftThings" (213 : Nat) ({ cls := "LeftThings", name := "driveVan", desc := "()V" } : Jvm.MethodName)) ∈ xAll := xAll_in 544 (by decide +kernel) (by decide +kernel)
theorem k_513 : (Jvm.Cond.privateMethod ({ cls := "LeftThings", name := "driveVan", desc := "()V" } : Jvm.MethodName)) ∈ xAll := xAll_in 545 (by decide +kernel) (by decide +kernel)
theorem k_514 : (Jvm.Cond.instanceMethod ({ cls := "LeftThings", name := "driveVan", desc := "()V" } : Jvm.MethodName)) ∈ xAll := xAll_in 546 (by decide +kernel) (by decide +kernel)
theorem k_515 : (Jvm.Cond.code ({ cls := "LeftThings", name := "driveVan", desc := "()V" } : Jvm.MethodName) prog_1_method_36_code (5 : Nat) (Option.none : Option Jvm.ClassFile.FieldType)) ∈ xAll := xAll_in 547 (by decide +kernel) (by decide +kernel)
theorem k_516 : (Jvm.Cond.methodLink "LeftThingsLaw" (122 : Nat) ({ cls := "LeftThingsLaw", name := "where", desc := "(LLeftThings;I[J)I" } : Jvm.MethodName)) ∈ xAll := xAll_in 548 (by decide +kernel) (by decide +kernel)
theorem k_517 : (Jvm.Cond.static ({ cls := "LeftThingsLaw", name := "where", desc := "(LLeftThings;I[J)I" } : Jvm.MethodName)) ∈ xAll := xAll_in 549 (by decide +kernel) (by decide +kernel)
theorem k_518 : (Jvm.Cond.codeWith ({ cls := "LeftThingsLaw", name := "where", desc := "(LLeftThings;I[J)I" } : Jvm.MethodName) method_13_code (4 : Nat) (Option.some Jvm.ClassFile.FieldType.int) [((0 : Nat), (9 : Nat), (12 : Nat), (28 : Nat))]) ∈ xAll := xAll_in 550 (by decide +kernel) (by decide +kernel)
theorem k_519 : (Jvm.Cond.methodLink "LeftThingsLaw" (49 : Nat) ({ cls := "LeftThings", name := "where", desc := "(I)I" } : Jvm.MethodName)) ∈ xAll := xAll_in 551 (by decide +kernel) (by decide +kernel)
theorem k_520 : (Jvm.Cond.instanceMethod ({ cls := "LeftThings", name := "where", desc := "(I)I" } : Jvm.MethodName)) ∈ xAll := xAll_in 552 (by decide +kernel) (by decide +kernel)
theorem k_521 : (Jvm.Cond.selects "LeftThings" ({ cls := "LeftThings", name := "where", desc := "(I)I" } : Jvm.MethodName) ({ cls := "LeftThings", name := "where", desc := "(I)I" } : Jvm.MethodName)) ∈ xAll := xAll_in 553 (by decide +kernel) (by decide +kernel)
theorem k_522 : (Jvm.Cond.code ({ cls := "LeftThings", name := "where", desc := "(I)I" } : Jvm.MethodName) prog_1_method_14_code (2 : Nat) (Option.some Jvm.ClassFile.FieldType.int)) ∈ xAll := xAll_in 554 (by decide +kernel) (by decide +kernel)
theorem k_523 : (Jvm.Cond.methodLink "LeftThingsLaw" (125 : Nat) ({ cls := "LeftThingsLaw", name := "whereOn", desc := "(LLeftThings;II[J)I" } : Jvm.MethodName)) ∈ xAll := xAll_in 555 (by decide +kernel) (by decide +kernel)
theorem k_524 : (Jvm.Cond.static ({ cls := "LeftThingsLaw", name := "whereOn", desc := "(LLeftThings;II[J)I" } : Jvm.MethodName)) ∈ xAll := xAll_in 556 (by decide +kernel) (by decide +kernel)
theorem k_525 : (Jvm.Cond.codeWith ({ cls := "LeftThingsLaw", name := "whereOn", desc := "(LLeftThings;II[J)I" } : Jvm.MethodName) method_14_code (5 : Nat) (Option.some Jvm.ClassFile.FieldType.int) [((0 : Nat), (10 : Nat), (13 : Nat), (28 : Nat)), ((0 : Nat), (10 : Nat), (17 : Nat), (13 : Nat))]) ∈ xAll := xAll_in 557 (by decide +kernel) (by decide +kernel)
theorem k_526 : (Jvm.Cond.methodLink "LeftThingsLaw" (52 : Nat) ({ cls := "LeftThings", name := "whereOn", desc := "(II)I" } : Jvm.MethodName)) ∈ xAll := xAll_in 558 (by decide +kernel) (by decide +kernel)
theorem k_527 : (Jvm.Cond.instanceMethod ({ cls := "LeftThings", name := "whereOn", desc := "(II)I" } : Jvm.MethodName)) ∈ xAll := xAll_in 559 (by decide +kernel) (by decide +kernel)
theorem k_528 : (Jvm.Cond.selects "LeftThings" ({ cls := "LeftThings", name := "whereOn", desc := "(II)I" } : Jvm.MethodName) ({ cls := "LeftThings", name := "whereOn", desc := "(II)I" } : Jvm.MethodName)) ∈ xAll := xAll_in 560 (by decide +kernel) (by decide +kernel)
theorem k_529 : (Jvm.Cond.code ({ cls := "LeftThings", name := "whereOn", desc := "(II)I" } : Jvm.MethodName) prog_1_method_15_code (4 : Nat) (Option.some Jvm.ClassFile.FieldType.int)) ∈ xAll := xAll_in 561 (by decide +kernel) (by decide +kernel)
theorem k_531 : (Jvm.Cond.methodLinkNest "LeftThings" (167 : Nat) ({ cls := "LeftThings$Thing", name := "placeAtBeginningOf", desc := "(I)I" } : Jvm.MethodName) "LeftThings") ∈ xAll := xAll_in 563 (by decide +kernel) (by decide +kernel)
theorem k_532 : (Jvm.Cond.privateMethod ({ cls := "LeftThings$Thing", name := "placeAtBeginningOf", desc := "(I)I" } : Jvm.MethodName)) ∈ xAll := xAll_in 564 (by decide +kernel) (by decide +kernel)
theorem k_533 : (Jvm.Cond.instanceMethod ({ cls := "LeftThings$Thing", name := "placeAtBeginningOf", desc := "(I)I" } : Jvm.MethodName)) ∈ xAll := xAll_in 565 (by decide +kernel) (by decide +kernel)
theorem k_534 : (Jvm.Cond.code ({ cls := "LeftThings$Thing", name := "placeAtBeginningOf", desc := "(I)I" } : Jvm.MethodName) prog_3_method_8_code (3 : Nat) (Option.some Jvm.ClassFile.FieldType.int)) ∈ xAll := xAll_in 566 (by decide +kernel) (by decide +kernel)
theorem k_535 : (Jvm.Cond.methodLink "LeftThingsLaw" (128 : Nat) ({ cls := "LeftThingsLaw", name := "load", desc := "(LLeftThings;I[J)I" } : Jvm.MethodName)) ∈ xAll := xAll_in 567 (by decide +kernel) (by decide +kernel)
theorem k_536 : (Jvm.Cond.static ({ cls := "LeftThingsLaw", name := "load", desc := "(LLeftThings;I[J)I" } : Jvm.MethodName)) ∈ xAll := xAll_in 568 (by decide +kernel) (by decide +kernel)
theorem k_537 : (Jvm.Cond.codeWith ({ cls := "LeftThingsLaw", name := "load", desc := "(LLeftThings;I[J)I" } : Jvm.MethodName) method_15_code (4 : Nat) (Option.some Jvm.ClassFile.FieldType.int) [((0 : Nat), (9 : Nat), (12 : Nat), (13 : Nat))]) ∈ xAll := xAll_in 569 (by decide +kernel) (by decide +kernel)
theorem k_538 : (Jvm.Cond.methodLink "LeftThingsLaw" (55 : Nat) ({ cls := "LeftThings", name := "load", desc := "(I)I" } : Jvm.MethodName)) ∈ xAll := xAll_in 570 (by decide +kernel) (by decide +kernel)
theorem k_539 : (Jvm.Cond.instanceMethod ({ cls := "LeftThings", name := "load", desc := "(I)I" } : Jvm.MethodName)) ∈ xAll := xAll_in 571 (by decide +kernel) (by decide +kernel)
theorem k_540 : (Jvm.Cond.selects "LeftThings" ({ cls := "LeftThings", name := "load", desc := "(I)I" } : Jvm.MethodName) ({ cls := "LeftThings", name := "load", desc := "(I)I" } : Jvm.MethodName)) ∈ xAll := xAll_in 572 (by decide +kernel) (by decide +kernel)
theorem k_541 : (Jvm.Cond.code ({ cls := "LeftThings", name := "load", desc := "(I)I" } : Jvm.MethodName) prog_1_method_16_code (2 : Nat) (Option.some Jvm.ClassFile.FieldType.int)) ∈ xAll := xAll_in 573 (by decide +kernel) (by decide +kernel)
theorem k_542 : (Jvm.Cond.methodLink "LeftThingsLaw" (131 : Nat) ({ cls := "LeftThingsLaw", name := "fees", desc := "(LLeftThings;I[J)I" } : Jvm.MethodName)) ∈ xAll := xAll_in 574 (by decide +kernel) (by decide +kernel)
theorem k_543 : (Jvm.Cond.static ({ cls := "LeftThingsLaw", name := "fees", desc := "(LLeftThings;I[J)I" } : Jvm.MethodName)) ∈ xAll := xAll_in 575 (by decide +kernel) (by decide +kernel)
theorem k_544 : (Jvm.Cond.codeWith ({ cls := "LeftThingsLaw", name := "fees", desc := "(LLeftThings;I[J)I" } : Jvm.MethodName) method_16_code (4 : Nat) (Option.some Jvm.ClassFile.FieldType.int) [((0 : Nat), (9 : Nat), (12 : Nat), (28 : Nat))]) ∈ xAll := xAll_in 576 (by decide +kernel) (by decide +kernel)
theorem k_545 : (Jvm.Cond.methodLink "LeftThingsLaw" (58 : Nat) ({ cls := "LeftThings", name := "fees", desc := "(I)I" } : Jvm.MethodName)) ∈ xAll := xAll_in 577 (by decide +kernel) (by decide +kernel)
theorem k_546 : (Jvm.Cond.instanceMethod ({ cls := "LeftThings", name := "fees", desc := "(I)I" } : Jvm.MethodName)) ∈ xAll := xAll_in 578 (by decide +kernel) (by decide +kernel)
theorem k_547 : (Jvm.Cond.selects "LeftThings" ({ cls := "LeftThings", name := "fees", desc := "(I)I" } : Jvm.MethodName) ({ cls := "LeftThings", name := "fees", desc := "(I)I" } : Jvm.MethodName)) ∈ xAll := xAll_in 579 (by decide +kernel) (by decide +kernel)
theorem k_548 : (Jvm.Cond.code ({ cls := "LeftThings", name := "fees", desc := "(I)I" } : Jvm.MethodName) prog_1_method_17_code (2 : Nat) (Option.some Jvm.ClassFile.FieldType.int)) ∈ xAll := xAll_in 580 (by decide +kernel) (by decide +kernel)
theorem k_549 : (Jvm.Cond.methodLink "LeftThingsLaw" (134 : Nat) ({ cls := "LeftThingsLaw", name := "loan", desc := "(LLeftThings;I[J)I" } : Jvm.MethodName)) ∈ xAll := xAll_in 581 (by decide +kernel) (by decide +kernel)
theorem k_550 : (Jvm.Cond.static ({ cls := "LeftThingsLaw", name := "loan", desc := "(LLeftThings;I[J)I" } : Jvm.MethodName)) ∈ xAll := xAll_in 582 (by decide +kernel) (by decide +kernel)
theorem k_551 : (Jvm.Cond.codeWith ({ cls := "LeftThingsLaw", name := "loan", desc := "(LLeftThings;I[J)I" } : Jvm.MethodName) method_17_code (4 : Nat) (Option.some Jvm.ClassFile.FieldType.int) [((0 : Nat), (9 : Nat), (12 : Nat), (28 : Nat))]) ∈ xAll := xAll_in 583 (by decide +kernel) (by decide +kernel)
theorem k_552 : (Jvm.Cond.methodLink "LeftThingsLaw" (61 : Nat) ({ cls := "LeftThings", name := "loan", desc := "(I)I" } : Jvm.MethodName)) ∈ xAll := xAll_in 584 (by decide +kernel) (by decide +kernel)
theorem k_553 : (Jvm.Cond.instanceMethod ({ cls := "LeftThings", name := "loan", desc := "(I)I" } : Jvm.MethodName)) ∈ xAll := xAll_in 585 (by decide +kernel) (by decide +kernel)
theorem k_554 : (Jvm.Cond.selects "LeftThings" ({ cls := "LeftThings", name := "loan", desc := "(I)I" } : Jvm.MethodName) ({ cls := "LeftThings", name := "loan", desc := "(I)I" } : Jvm.MethodName)) ∈ xAll := xAll_in 586 (by decide +kernel) (by decide +kernel)
theorem k_555 : (Jvm.Cond.code ({ cls := "LeftThings", name := "loan", desc := "(I)I" } : Jvm.MethodName) prog_1_method_18_code (2 : Nat) (Option.some Jvm.ClassFile.FieldType.int)) ∈ xAll := xAll_in 587 (by decide +kernel) (by decide +kernel)
theorem k_556 : (Jvm.Cond.methodLink "LeftThingsLaw" (137 : Nat) ({ cls := "LeftThingsLaw", name := "purse", desc := "(LLeftThings;I[J)I" } : Jvm.MethodName)) ∈ xAll := xAll_in 588 (by decide +kernel) (by decide +kernel)
theorem k_557 : (Jvm.Cond.static ({ cls := "LeftThingsLaw", name := "purse", desc := "(LLeftThings;I[J)I" } : Jvm.MethodName)) ∈ xAll := xAll_in 589 (by decide +kernel) (by decide +kernel)
theorem k_558 : (Jvm.Cond.codeWith ({ cls := "LeftThingsLaw", name := "purse", desc := "(LLeftThings;I[J)I" } : Jvm.MethodName) method_18_code (4 : Nat) (Option.some Jvm.ClassFile.FieldType.int) [((0 : Nat), (9 : Nat), (12 : Nat), (13 : Nat))]) ∈ xAll := xAll_in 590 (by decide +kernel) (by decide +kernel)
theorem k_559 : (Jvm.Cond.methodLink "LeftThingsLaw" (64 : Nat) ({ cls := "LeftThings", name := "purse", desc := "(I)I" } : Jvm.MethodName)) ∈ xAll := xAll_in 591 (by decide +kernel) (by decide +kernel)
theorem k_560 : (Jvm.Cond.instanceMethod ({ cls := "LeftThings", name := "purse", desc := "(I)I" } : Jvm.MethodName)) ∈ xAll := xAll_in 592 (by decide +kernel) (by decide +kernel)
theorem k_561 : (Jvm.Cond.selects "LeftThings" ({ cls := "LeftThings", name := "purse", desc := "(I)I" } : Jvm.MethodName) ({ cls := "LeftThings", name := "purse", desc := "(I)I" } : Jvm.MethodName)) ∈ xAll := xAll_in 593 (by decide +kernel) (by decide +kernel)
theorem k_562 : (Jvm.Cond.code ({ cls := "LeftThings", name := "purse", desc := "(I)I" } : Jvm.MethodName) prog_1_method_19_code (2 : Nat) (Option.some Jvm.ClassFile.FieldType.int)) ∈ xAll := xAll_in 594 (by decide +kernel) (by decide +kernel)
theorem k_564 : (Jvm.Cond.methodLink "LeftThingsLaw" (144 : Nat) ({ cls := "LeftThingsLaw", name := "wish", desc := "(LLeftThings;I[J)I" } : Jvm.MethodName)) ∈ xAll := xAll_in 596 (by decide +kernel) (by decide +kernel)
theorem k_565 : (Jvm.Cond.static ({ cls := "LeftThingsLaw", name := "wish", desc := "(LLeftThings;I[J)I" } : Jvm.MethodName)) ∈ xAll := xAll_in 597 (by decide +kernel) (by decide +kernel)
theorem k_566 : (Jvm.Cond.codeWith ({ cls := "LeftThingsLaw", name := "wish", desc := "(LLeftThings;I[J)I" } : Jvm.MethodName) method_19_code (4 : Nat) (Option.some Jvm.ClassFile.FieldType.int) [((0 : Nat), (9 : Nat), (12 : Nat), (28 : Nat))]) ∈ xAll := xAll_in 598 (by decide +kernel) (by decide +kernel)
theorem k_567 : (Jvm.Cond.methodLink "LeftThingsLaw" (67 : Nat) ({ cls := "LeftThings", name := "wish", desc := "(I)I" } : Jvm.MethodName)) ∈ xAll := xAll_in 599 (by decide +kernel) (by decide +kernel)
theorem k_568 : (Jvm.Cond.instanceMethod ({ cls := "LeftThings", name := "wish", desc := "(I)I" } : Jvm.MethodName)) ∈ xAll := xAll_in 600 (by decide +kernel) (by decide +kernel)
theorem k_569 : (Jvm.Cond.selects "LeftThings" ({ cls := "LeftThings", name := "wish", desc := "(I)I" } : Jvm.MethodName) ({ cls := "LeftThings", name := "wish", desc := "(I)I" } : Jvm.MethodName)) ∈ xAll := xAll_in 601 (by decide +kernel) (by decide +kernel)
theorem k_570 : (Jvm.Cond.code ({ cls := "LeftThings", name := "wish", desc := "(I)I" } : Jvm.MethodName) prog_1_method_21_code (2 : Nat) (Option.some Jvm.ClassFile.FieldType.int)) ∈ xAll := xAll_in 602 (by decide +kernel) (by decide +kernel)
theorem k_572 : (Jvm.Cond.classLink "LeftThingsLaw" (71 : Nat) "LeftThingsModel") ∈ xAll := xAll_in 604 (by decide +kernel) (by decide +kernel)
theorem k_573 : (Jvm.Cond.instantiable "LeftThingsModel" (20 : Nat)) ∈ xAll := xAll_in 605 (by decide +kernel) (by decide +kernel)
theorem k_574 : (Jvm.Cond.methodLink "LeftThingsLaw" (73 : Nat) ({ cls := "LeftThingsModel", name := "<init>", desc := "()V" } : Jvm.MethodName)) ∈ xAll := xAll_in 606 (by decide +kernel) (by decide +kernel)
theorem k_575 : (Jvm.Cond.instanceMethod ({ cls := "LeftThingsModel", name := "<init>", desc := "()V" } : Jvm.MethodName)) ∈ xAll := xAll_in 607 (by decide +kernel) (by decide +kernel)
theorem k_576 : (Jvm.Cond.code ({ cls := "LeftThingsModel", name := "<init>", desc := "()V" } : Jvm.MethodName) prog_5_method_1_code (2 : Nat) (Option.none : Option Jvm.ClassFile.FieldType)) ∈ xAll := xAll_in 608 (by decide +kernel) (by decide +kernel)
theorem k_577 : (Jvm.Cond.methodLink "LeftThingsModel" (1 : Nat) ({ cls := "java/lang/Object", name := "<init>", desc := "()V" } : Jvm.MethodName)) ∈ xAll := xAll_in 609 (by decide +kernel) (by decide +kernel)
theorem k_578 : (Jvm.Cond.fieldLink "LeftThingsModel" (7 : Nat) "LeftThingsModel" "room" "[I") ∈ xAll := xAll_in 610 (by decide +kernel) (by decide +kernel)
theorem k_579 : (Jvm.Cond.fieldLink "LeftThingsModel" (13 : Nat) "LeftThingsModel" "van" "I") ∈ xAll := xAll_in 611 (by decide +kernel) (by decide +kernel)
theorem k_580 : (Jvm.Cond.fieldLink "LeftThingsModel" (17 : Nat) "LeftThingsModel" "purse" "[I") ∈ xAll := xAll_in 612 (by decide +kernel) (by decide +kernel)
theorem k_581 : (Jvm.Cond.fieldLink "LeftThingsModel" (89 : Nat) "LeftThingsModel" "taken" "I") ∈ xAll := xAll_in 613 (by decide +kernel) (by decide +kernel)
theorem k_582 : (Jvm.Cond.fieldLink "LeftThingsModel" (77 : Nat) "LeftThingsModel" "day" "I") ∈ xAll := xAll_in 614 (by decide +kernel) (by decide +kernel)
theorem k_583 : (Jvm.Cond.fieldLink "LeftThingsModel" (63 : Nat) "LeftThingsModel" "things" "I") ∈ xAll := xAll_in 615 (by decide +kernel) (by decide +kernel)
theorem k_584 : (Jvm.Cond.fieldLink "LeftThingsModel" (20 : Nat) "LeftThingsModel" "owner" "[I") ∈ xAll := xAll_in 616 (by decide +kernel) (by decide +kernel)
theorem k_585 : (Jvm.Cond.fieldLink "LeftThingsModel" (23 : Nat) "LeftThingsModel" "size" "[I") ∈ xAll := xAll_in 617 (by decide +kernel) (by decide +kernel)
theorem k_586 : (Jvm.Cond.fieldLink "LeftThingsModel" (26 : Nat) "LeftThingsModel" "worth" "[I") ∈ xAll := xAll_in 618 (by decide +kernel) (by decide +kernel)
theorem k_587 : (Jvm.Cond.fieldLink "LeftThingsModel" (29 : Nat) "LeftThingsModel" "where" "[I") ∈ xAll := xAll_in 619 (by decide +kernel) (by decide +kernel)
theorem k_588 : (Jvm.Cond.fieldLink "LeftThingsModel" (32 : Nat) "LeftThingsModel" "leftOn" "[I") ∈ xAll := xAll_in 620 (by decide +kernel) (by decide +kernel)
theorem k_589 : (Jvm.Cond.fieldLink "LeftThingsModel" (35 : Nat) "LeftThingsModel" "fees" "[I") ∈ xAll := xAll_in 621 (by decide +kernel) (by decide +kernel)
theorem k_590 : (Jvm.Cond.fieldLink "LeftThingsModel" (38 : Nat) "LeftThingsModel" "loan" "[I") ∈ xAll := xAll_in 622 (by decide +kernel) (by decide +kernel)
theorem k_591 : (Jvm.Cond.fieldLink "LeftThingsModel" (41 : Nat) "LeftThingsModel" "lender" "[I") ∈ xAll := xAll_in 623 (by decide +kernel) (by decide +kernel)
theorem k_592 : (Jvm.Cond.fieldLink "LeftThingsModel" (44 : Nat) "LeftThingsModel" "called" "[I") ∈ xAll := xAll_in 624 (by decide +kernel) (by decide +kernel)
theorem k_593 : (Jvm.Cond.fieldLink "LeftThingsModel" (47 : Nat) "LeftThingsModel" "goal" "[I") ∈ xAll := xAll_in 625 (by decide +kernel) (by decide +kernel)
theorem k_594 : (Jvm.Cond.fieldLink "LeftThingsModel" (50 : Nat) "LeftThingsModel" "wishes" "[I") ∈ xAll := xAll_in 626 (by decide +kernel) (by decide +kernel)
theorem k_595 : (Jvm.Cond.fieldLink "LeftThingsModel" (80 : Nat) "LeftThingsModel" "wanted" "I") ∈ xAll := xAll_in 627 (by decide +kernel) (by decide +kernel)
theorem k_596 : (Jvm.Cond.fieldLink "LeftThingsModel" (53 : Nat) "LeftThingsModel" "began" "[I") ∈ xAll := xAll_in 628 (by decide +kernel) (by decide +kernel)
theorem k_597 : (Jvm.Cond.fieldLink "LeftThingsModel" (56 : Nat) "LeftThingsModel" "thrown" "I") ∈ xAll := xAll_in 629 (by decide +kernel) (by decide +kernel)
theorem k_598 : (Jvm.Cond.laysFinal "LeftThingsModel" "LeftThingsModel" "room" "[I") ∈ xAll := xAll_in 630 (by decide +kernel) (by decide +kernel)
theorem k_599 : (Jvm.Cond.soleField "LeftThingsModel" "room") ∈ xAll := xAll_in 631 (by decide +kernel) (by decide +kernel)
theorem k_600 : (Jvm.Cond.lays "LeftThingsModel" "LeftThingsModel" "van" "I") ∈ xAll := xAll_in 632 (by decide +kernel) (by decide +kernel)
theorem k_601 : (Jvm.Cond.soleField "LeftThingsModel" "van") ∈ xAll := xAll_in 633 (by decide +kernel) (by decide +kernel)
theorem k_602 : (Jvm.Cond.laysFinal "LeftThingsModel" "LeftThingsModel" "purse" "[I") ∈ xAll := xAll_in 634 (by decide +kernel) (by decide +kernel)
theorem k_603 : (Jvm.Cond.soleField "LeftThingsModel" "purse") ∈ xAll := xAll_in 635 (by decide +kernel) (by decide +kernel)
theorem k_604 : (Jvm.Cond.lays "LeftThingsModel" "LeftThingsModel" "taken" "I") ∈ xAll := xAll_in 636 (by decide +kernel) (by decide +kernel)
theorem k_605 : (Jvm.Cond.soleField "LeftThingsModel" "taken") ∈ xAll := xAll_in 637 (by decide +kernel) (by decide +kernel)
theorem k_606 : (Jvm.Cond.lays "LeftThingsModel" "LeftThingsModel" "day" "I") ∈ xAll := xAll_in 638 (by decide +kernel) (by decide +kernel)
theorem k_607 : (Jvm.Cond.soleField "LeftThingsModel" "day") ∈ xAll := xAll_in 639 (by decide +kernel) (by decide +kernel)
theorem k_608 : (Jvm.Cond.lays "LeftThingsModel" "LeftThingsModel" "things" "I") ∈ xAll := xAll_in 640 (by decide +kernel) (by decide +kernel)
theorem k_609 : (Jvm.Cond.soleField "LeftThingsModel" "things") ∈ xAll := xAll_in 641 (by decide +kernel) (by decide +kernel)
theorem k_610 : (Jvm.Cond.laysFinal "LeftThingsModel" "LeftThingsModel" "owner" "[I") ∈ xAll := xAll_in 642 (by decide +kernel) (by decide +kernel)
theorem k_611 : (Jvm.Cond.soleField "LeftThingsModel" "owner") ∈ xAll := xAll_in 643 (by decide +kernel) (by decide +kernel)
theorem k_612 : (Jvm.Cond.laysFinal "LeftThingsModel" "LeftThingsModel" "size" "[I") ∈ xAll := xAll_in 644 (by decide +kernel) (by decide +kernel)
theorem k_613 : (Jvm.Cond.soleField "LeftThingsModel" "size") ∈ xAll := xAll_in 645 (by decide +kernel) (by decide +kernel)
theorem k_614 : (Jvm.Cond.laysFinal "LeftThingsModel" "LeftThingsModel" "worth" "[I") ∈ xAll := xAll_in 646 (by decide +kernel) (by decide +kernel)
theorem k_615 : (Jvm.Cond.soleField "LeftThingsModel" "worth") ∈ xAll := xAll_in 647 (by decide +kernel) (by decide +kernel)
theorem k_616 : (Jvm.Cond.laysFinal "LeftThingsModel" "LeftThingsModel" "where" "[I") ∈ xAll := xAll_in 648 (by decide +kernel) (by decide +kernel)
theorem k_617 : (Jvm.Cond.soleField "LeftThingsModel" "where") ∈ xAll := xAll_in 649 (by decide +kernel) (by decide +kernel)
theorem k_618 : (Jvm.Cond.laysFinal "LeftThingsModel" "LeftThingsModel" "leftOn" "[I") ∈ xAll := xAll_in 650 (by decide +kernel) (by decide +kernel)
theorem k_619 : (Jvm.Cond.soleField "LeftThingsModel" "leftOn") ∈ xAll := xAll_in 651 (by decide +kernel) (by decide +kernel)
theorem k_620 : (Jvm.Cond.laysFinal "LeftThingsModel" "LeftThingsModel" "fees" "[I") ∈ xAll := xAll_in 652 (by decide +kernel) (by decide +kernel)
theorem k_621 : (Jvm.Cond.soleField "LeftThingsModel" "fees") ∈ xAll := xAll_in 653 (by decide +kernel) (by decide +kernel)
theorem k_622 : (Jvm.Cond.laysFinal "LeftThingsModel" "LeftThingsModel" "loan" "[I") ∈ xAll := xAll_in 654 (by decide +kernel) (by decide +kernel)
theorem k_623 : (Jvm.Cond.soleField "LeftThingsModel" "loan") ∈ xAll := xAll_in 655 (by decide +kernel) (by decide +kernel)
theorem k_624 : (Jvm.Cond.laysFinal "LeftThingsModel" "LeftThingsModel" "lender" "[I") ∈ xAll := xAll_in 656 (by decide +kernel) (by decide +kernel)
theorem k_625 : (Jvm.Cond.soleField "LeftThingsModel" "lender") ∈ xAll := xAll_in 657 (by decide +kernel) (by decide +kernel)
theorem k_626 : (Jvm.Cond.laysFinal "LeftThingsModel" "LeftThingsModel" "called" "[I") ∈ xAll := xAll_in 658 (by decide +kernel) (by decide +kernel)
theorem k_627 : (Jvm.Cond.soleField "LeftThingsModel" "called") ∈ xAll := xAll_in 659 (by decide +kernel) (by decide +kernel)
theorem k_628 : (Jvm.Cond.laysFinal "LeftThingsModel" "LeftThingsModel" "goal" "[I") ∈ xAll := xAll_in 660 (by decide +kernel) (by decide +kernel)
theorem k_629 : (Jvm.Cond.soleField "LeftThingsModel" "goal") ∈ xAll := xAll_in 661 (by decide +kernel) (by decide +kernel)
theorem k_630 : (Jvm.Cond.laysFinal "LeftThingsModel" "LeftThingsModel" "wishes" "[I") ∈ xAll := xAll_in 662 (by decide +kernel) (by decide +kernel)
theorem k_631 : (Jvm.Cond.soleField "LeftThingsModel" "wishes") ∈ xAll := xAll_in 663 (by decide +kernel) (by decide +kernel)
theorem k_632 : (Jvm.Cond.lays "LeftThingsModel" "LeftThingsModel" "wanted" "I") ∈ xAll := xAll_in 664 (by decide +kernel) (by decide +kernel)
theorem k_633 : (Jvm.Cond.soleField "LeftThingsModel" "wanted") ∈ xAll := xAll_in 665 (by decide +kernel) (by decide +kernel)
theorem k_634 : (Jvm.Cond.laysFinal "LeftThingsModel" "LeftThingsModel" "began" "[I") ∈ xAll := xAll_in 666 (by decide +kernel) (by decide +kernel)
theorem k_635 : (Jvm.Cond.soleField "LeftThingsModel" "began") ∈ xAll := xAll_in 667 (by decide +kernel) (by decide +kernel)
theorem k_636 : (Jvm.Cond.lays "LeftThingsModel" "LeftThingsModel" "thrown" "I") ∈ xAll := xAll_in 668 (by decide +kernel) (by decide +kernel)
theorem k_637 : (Jvm.Cond.soleField "LeftThingsModel" "thrown") ∈ xAll := xAll_in 669 (by decide +kernel) (by decide +kernel)
theorem k_638 : (Jvm.Cond.superclass "LeftThingsModel" "java/lang/Object") ∈ xAll := xAll_in 670 (by decide +kernel) (by decide +kernel)
theorem k_639 : (Jvm.Cond.methodLink "LeftThingsLaw" (80 : Nat) ({ cls := "LeftThingsModel", name := "thrown", desc := "()I" } : Jvm.MethodName)) ∈ xAll := xAll_in 671 (by decide +kernel) (by decide +kernel)
theorem k_640 : (Jvm.Cond.instanceMethod ({ cls := "LeftThingsModel", name := "thrown", desc := "()I" } : Jvm.MethodName)) ∈ xAll := xAll_in 672 (by decide +kernel) (by decide +kernel)
theorem k_641 : (Jvm.Cond.selects "LeftThingsModel" ({ cls := "LeftThingsModel", name := "thrown", desc := "()I" } : Jvm.MethodName) ({ cls := "LeftThingsModel", name := "thrown", desc := "()I" } : Jvm.MethodName)) ∈ xAll := xAll_in 673 (by decide +kernel) (by decide +kernel)
theorem k_642 : (Jvm.Cond.code ({ cls := "LeftThingsModel", name := "thrown", desc := "()I" } : Jvm.MethodName) prog_5_method_2_code (1 : Nat) (Option.some Jvm.ClassFile.FieldType.int)) ∈ xAll := xAll_in 674 (by decide +kernel) (by decide +kernel)
theorem k_643 : (Jvm.Cond.methodLink "LeftThingsLaw" (79 : Nat) ({ cls := "LeftThingsModel", name := "setRoom", desc := "(II)I" } : Jvm.MethodName)) ∈ xAll := xAll_in 675 (by decide +kernel) (by decide +kernel)
theorem k_644 : (Jvm.Cond.instanceMethod ({ cls := "LeftThingsModel", name := "setRoom", desc := "(II)I" } : Jvm.MethodName)) ∈ xAll := xAll_in 676 (by decide +kernel) (by decide +kernel)
theorem k_645 : (Jvm.Cond.selects "LeftThingsModel" ({ cls := "LeftThingsModel", name := "setRoom", desc := "(II)I" } : Jvm.MethodName) ({ cls := "LeftThingsModel", name := "setRoom", desc := "(II)I" } : Jvm.MethodName)) ∈ xAll := xAll_in 677 (by decide +kernel) (by decide +kernel)
theorem k_646 : (Jvm.Cond.code ({ cls := "LeftThingsModel", name := "setRoom", desc := "(II)I" } : Jvm.MethodName) prog_5_method_8_code (4 : Nat) (Option.some Jvm.ClassFile.FieldType.int)) ∈ xAll := xAll_in 678 (by decide +kernel) (by decide +kernel)
theorem k_647 : (Jvm.Cond.methodLink "LeftThingsModel" (66 : Nat) ({ cls := "LeftThingsModel", name := "isCounter", desc := "(I)Z" } : Jvm.MethodName)) ∈ xAll := xAll_in 679 (by decide +kernel) (by decide +kernel)
theorem k_648 : (Jvm.Cond.static ({ cls := "LeftThingsModel", name := "isCounter", desc := "(I)Z" } : Jvm.MethodName)) ∈ xAll := xAll_in 680 (by decide +kernel) (by decide +kernel)
theorem k_649 : (Jvm.Cond.code ({ cls := "LeftThingsModel", name := "isCounter", desc := "(I)Z" } : Jvm.MethodName) prog_5_method_5_code (1 : Nat) (Option.some Jvm.ClassFile.FieldType.boolean)) ∈ xAll := xAll_in 681 (by decide +kernel) (by decide +kernel)
theorem k_650 : (Jvm.Cond.methodLink "LeftThingsModel" (59 : Nat) ({ cls := "LeftThingsModel", name := "in", desc := "(III)Z" } : Jvm.MethodName)) ∈ xAll := xAll_in 682 (by decide +kernel) (by decide +kernel)
theorem k_651 : (Jvm.Cond.static ({ cls := "LeftThingsModel", name := "in", desc := "(III)Z" } : Jvm.MethodName)) ∈ xAll := xAll_in 683 (by decide +kernel) (by decide +kernel)
theorem k_652 : (Jvm.Cond.code ({ cls := "LeftThingsModel", name := "in", desc := "(III)Z" } : Jvm.MethodName) prog_5_method_3_code (3 : Nat) (Option.some Jvm.ClassFile.FieldType.boolean)) ∈ xAll := xAll_in 684 (by decide +kernel) (by decide +kernel)
theorem k_653 : (Jvm.Cond.methodLink "LeftThingsModel" (70 : Nat) ({ cls := "LeftThingsModel", name := "isFine", desc := "(I)Z" } : Jvm.MethodName)) ∈ xAll := xAll_in 685 (by decide +kernel) (by decide +kernel)
theorem k_654 : (Jvm.Cond.privateMethod ({ cls := "LeftThingsModel", name := "isFine", desc := "(I)Z" } : Jvm.MethodName)) ∈ xAll := xAll_in 686 (by decide +kernel) (by decide +kernel)
theorem k_655 : (Jvm.Cond.instanceMethod ({ cls := "LeftThingsModel", name := "isFine", desc := "(I)Z" } : Jvm.MethodName)) ∈ xAll := xAll_in 687 (by decide +kernel) (by decide +kernel)
theorem k_656 : (Jvm.Cond.code ({ cls := "LeftThingsModel", name := "isFine", desc := "(I)Z" } : Jvm.MethodName) prog_5_method_4_code (2 : Nat) (Option.some Jvm.ClassFile.FieldType.boolean)) ∈ xAll := xAll_in 688 (by decide +kernel) (by decide +kernel)
theorem k_657 : (Jvm.Cond.methodLink "LeftThingsLaw" (87 : Nat) ({ cls := "LeftThingsModel", name := "setVan", desc := "(I)I" } : Jvm.MethodName)) ∈ xAll := xAll_in 689 (by decide +kernel) (by decide +kernel)
theorem k_658 : (Jvm.Cond.instanceMethod ({ cls := "LeftThingsModel", name := "setVan", desc := "(I)I" } : Jvm.MethodName)) ∈ xAll := xAll_in 690 (by decide +kernel) (by decide +kernel)
theorem k_659 : (Jvm.Cond.selects "LeftThingsModel" ({ cls := "LeftThingsModel", name := "setVan", desc := "(I)I" } : Jvm.MethodName) ({ cls := "LeftThingsModel", name := "setVan", desc := "(I)I" } : Jvm.MethodName)) ∈ xAll := xAll_in 691 (by decide +kernel) (by decide +kernel)
theorem k_660 : (Jvm.Cond.code ({ cls := "LeftThingsModel", name := "setVan", desc := "(I)I" } : Jvm.MethodName) prog_5_method_9_code (3 : Nat) (Option.some Jvm.ClassFile.FieldType.int)) ∈ xAll := xAll_in 692 (by decide +kernel) (by decide +kernel)
theorem k_661 : (Jvm.Cond.methodLink "LeftThingsLaw" (91 : Nat) ({ cls := "LeftThingsModel", name := "leave", desc := "(III)I" } : Jvm.MethodName)) ∈ xAll := xAll_in 693 (by decide +kernel) (by decide +kernel)
theorem k_662 : (Jvm.Cond.instanceMethod ({ cls := "LeftThingsModel", name := "leave", desc := "(III)I" } : Jvm.MethodName)) ∈ xAll := xAll_in 694 (by decide +kernel) (by decide +kernel)
theorem k_663 : (Jvm.Cond.selects "LeftThingsModel" ({ cls := "LeftThingsModel", name := "leave", desc := "(III)I" } : Jvm.MethodName) ({ cls := "LeftThingsModel", name := "leave", desc := "(III)I" } : Jvm.MethodName)) ∈ xAll := xAll_in 695 (by decide +kernel) (by decide +kernel)
theorem k_664 : (Jvm.Cond.code ({ cls := "LeftThingsModel", name := "leave", desc := "(III)I" } : Jvm.MethodName) prog_5_method_11_code (5 : Nat) (Option.some Jvm.ClassFile.FieldType.int)) ∈ xAll := xAll_in 696 (by decide +kernel) (by decide +kernel)
theorem k_665 : (Jvm.Cond.methodLink "LeftThingsModel" (73 : Nat) ({ cls := "LeftThingsModel", name := "loadOf", desc := "(I)I" } : Jvm.MethodName)) ∈ xAll := xAll_in 697 (by decide +kernel) (by decide +kernel)
theorem k_666 : (Jvm.Cond.privateMethod ({ cls := "LeftThingsModel", name := "loadOf", desc := "(I)I" } : Jvm.MethodName)) ∈ xAll := xAll_in 698 (by decide +kernel) (by decide +kernel)
theorem k_667 : (Jvm.Cond.instanceMethod ({ cls := "LeftThingsModel", name := "loadOf", desc := "(I)I" } : Jvm.MethodName)) ∈ xAll := xAll_in 699 (by decide +kernel) (by decide +kernel)
theorem k_668 : (Jvm.Cond.code ({ cls := "LeftThingsModel", name := "loadOf", desc := "(I)I" } : Jvm.MethodName) prog_5_method_10_code (4 : Nat) (Option.some Jvm.ClassFile.FieldType.int)) ∈ xAll := xAll_in 700 (by decide +kernel) (by decide +kernel)
theorem k_669 : (Jvm.Cond.methodLink "LeftThingsLaw" (94 : Nat) ({ cls := "LeftThingsModel", name := "fetch", desc := "(I)I" } : Jvm.MethodName)) ∈ xAll := xAll_in 701 (by decide +kernel) (by decide +kernel)
theorem k_670 : (Jvm.Cond.instanceMethod ({ cls := "LeftThingsModel", name := "fetch", desc := "(I)I" } : Jvm.MethodName)) ∈ xAll := xAll_in 702 (by decide +kernel) (by decide +kernel)
theorem k_671 : (Jvm.Cond.selects "LeftThingsModel" ({ cls := "LeftThingsModel", name := "fetch", desc := "(I)I" } : Jvm.MethodName) ({ cls := "LeftThingsModel", name := "fetch", desc := "(I)I" } : Jvm.MethodName)) ∈ xAll := xAll_in 703 (by decide +kernel) (by decide +kernel)
theorem k_672 : (Jvm.Cond.code ({ cls := "LeftThingsModel", name := "fetch", desc := "(I)I" } : Jvm.MethodName) prog_5_method_13_code (2 : Nat) (Option.some Jvm.ClassFile.FieldType.int)) ∈ xAll := xAll_in 704 (by decide +kernel) (by decide +kernel)
theorem k_673 : (Jvm.Cond.methodLink "LeftThingsModel" (83 : Nat) ({ cls := "LeftThingsModel", name := "isThing", desc := "(I)Z" } : Jvm.MethodName)) ∈ xAll := xAll_in 705 (by decide +kernel) (by decide +kernel)
theorem k_674 : (Jvm.Cond.privateMethod ({ cls := "LeftThingsModel", name := "isThing", desc := "(I)Z" } : Jvm.MethodName)) ∈ xAll := xAll_in 706 (by decide +kernel) (by decide +kernel)
theorem k_675 : (Jvm.Cond.instanceMethod ({ cls := "LeftThingsModel", name := "isThing", desc := "(I)Z" } : Jvm.MethodName)) ∈ xAll := xAll_in 707 (by decide +kernel) (by decide +kernel)
theorem k_676 : (Jvm.Cond.code ({ cls := "LeftThingsModel", name := "isThing", desc := "(I)Z" } : Jvm.MethodName) prog_5_method_6_code (2 : Nat) (Option.some Jvm.ClassFile.FieldType.boolean)) ∈ xAll := xAll_in 708 (by decide +kernel) (by decide +kernel)
theorem k_677 : (Jvm.Cond.methodLink "LeftThingsModel" (86 : Nat) ({ cls := "LeftThingsModel", name := "isAt", desc := "(I)Z" } : Jvm.MethodName)) ∈ xAll := xAll_in 709 (by decide +kernel) (by decide +kernel)
theorem k_678 : (Jvm.Cond.privateMethod ({ cls := "LeftThingsModel", name := "isAt", desc := "(I)Z" } : Jvm.MethodName)) ∈ xAll := xAll_in 710 (by decide +kernel) (by decide +kernel)
theorem k_679 : (Jvm.Cond.instanceMethod ({ cls := "LeftThingsModel", name := "isAt", desc := "(I)Z" } : Jvm.MethodName)) ∈ xAll := xAll_in 711 (by decide +kernel) (by decide +kernel)
theorem k_680 : (Jvm.Cond.code ({ cls := "LeftThingsModel", name := "isAt", desc := "(I)Z" } : Jvm.MethodName) prog_5_method_7_code (2 : Nat) (Option.some Jvm.ClassFile.FieldType.boolean)) ∈ xAll := xAll_in 712 (by decide +kernel) (by decide +kernel)
theorem k_681 : (Jvm.Cond.methodLink "LeftThingsModel" (92 : Nat) ({ cls := "LeftThingsModel", name := "forgets", desc := "(I)V" } : Jvm.MethodName)) ∈ xAll := xAll_in 713 (by decide +kernel) (by decide +kernel)
theorem k_682 : (Jvm.Cond.privateMethod ({ cls := "LeftThingsModel", name := "forgets", desc := "(I)V" } : Jvm.MethodName)) ∈ xAll := xAll_in 714 (by decide +kernel) (by decide +kernel)
theorem k_683 : (Jvm.Cond.instanceMethod ({ cls := "LeftThingsModel", name := "forgets", desc := "(I)V" } : Jvm.MethodName)) ∈ xAll := xAll_in 715 (by decide +kernel) (by decide +kernel)
theorem k_684 : (Jvm.Cond.code ({ cls := "LeftThingsModel", name := "forgets", desc := "(I)V" } : Jvm.MethodName) prog_5_method_12_code (4 : Nat) (Option.none : Option Jvm.ClassFile.FieldType)) ∈ xAll := xAll_in 716 (by decide +kernel) (by decide +kernel)
theorem k_685 : (Jvm.Cond.methodLink "LeftThingsLaw" (97 : Nat) ({ cls := "LeftThingsModel", name := "want", desc := "(II)I" } : Jvm.MethodName)) ∈ xAll := xAll_in 717 (by decide +kernel) (by decide +kernel)
theorem k_686 : (Jvm.Cond.instanceMethod ({ cls := "LeftThingsModel", name := "want", desc := "(II)I" } : Jvm.MethodName)) ∈ xAll := xAll_in 718 (by decide +kernel) (by decide +kernel)
theorem k_687 : (Jvm.Cond.selects "LeftThingsModel" ({ cls := "LeftThingsModel", name := "want", desc := "(II)I" } : Jvm.MethodName) ({ cls := "LeftThingsModel", name := "want", desc := "(II)I" } : Jvm.MethodName)) ∈ xAll := xAll_in 719 (by decide +kernel) (by decide +kernel)
theorem k_688 : (Jvm.Cond.code ({ cls := "LeftThingsModel", name := "want", desc := "(II)I" } : Jvm.MethodName) prog_5_method_14_code (4 : Nat) (Option.some Jvm.ClassFile.FieldType.int)) ∈ xAll := xAll_in 720 (by decide +kernel) (by decide +kernel)
theorem k_689 : (Jvm.Cond.methodLink "LeftThingsLaw" (100 : Nat) ({ cls := "LeftThingsModel", name := "value", desc := "(II)I" } : Jvm.MethodName)) ∈ xAll := xAll_in 721 (by decide +kernel) (by decide +kernel)
theorem k_690 : (Jvm.Cond.instanceMethod ({ cls := "LeftThingsModel", name := "value", desc := "(II)I" } : Jvm.MethodName)) ∈ xAll := xAll_in 722 (by decide +kernel) (by decide +kernel)
theorem k_691 : (Jvm.Cond.selects "LeftThingsModel" ({ cls := "LeftThingsModel", name := "value", desc := "(II)I" } : Jvm.MethodName) ({ cls := "LeftThingsModel", name := "value", desc := "(II)I" } : Jvm.MethodName)) ∈ xAll := xAll_in 723 (by decide +kernel) (by decide +kernel)
theorem k_692 : (Jvm.Cond.code ({ cls := "LeftThingsModel", name := "value", desc := "(II)I" } : Jvm.MethodName) prog_5_method_15_code (4 : Nat) (Option.some Jvm.ClassFile.FieldType.int)) ∈ xAll := xAll_in 724 (by decide +kernel) (by decide +kernel)
theorem k_693 : (Jvm.Cond.methodLink "LeftThingsLaw" (104 : Nat) ({ cls := "LeftThingsModel", name := "lend", desc := "(III)V" } : Jvm.MethodName)) ∈ xAll := xAll_in 725 (by decide +kernel) (by decide +kernel)
theorem k_694 : (Jvm.Cond.instanceMethod ({ cls := "LeftThingsModel", name := "lend", desc := "(III)V" } : Jvm.MethodName)) ∈ xAll := xAll_in 726 (by decide +kernel) (by decide +kernel)
theorem k_695 : (Jvm.Cond.selects "LeftThingsModel" ({ cls := "LeftThingsModel", name := "lend", desc := "(III)V" } : Jvm.MethodName) ({ cls := "LeftThingsModel", name := "lend", desc := "(III)V" } : Jvm.MethodName)) ∈ xAll := xAll_in 727 (by decide +kernel) (by decide +kernel)
theorem k_696 : (Jvm.Cond.code ({ cls := "LeftThingsModel", name := "lend", desc := "(III)V" } : Jvm.MethodName) prog_5_method_16_code (5 : Nat) (Option.none : Option Jvm.ClassFile.FieldType)) ∈ xAll := xAll_in 728 (by decide +kernel) (by decide +kernel)
theorem k_697 : (Jvm.Cond.methodLink "LeftThingsLaw" (107 : Nat) ({ cls := "LeftThingsModel", name := "repay", desc := "(I)I" } : Jvm.MethodName)) ∈ xAll := xAll_in 729 (by decide +kernel) (by decide +kernel)
theorem k_698 : (Jvm.Cond.instanceMethod ({ cls := "LeftThingsModel", name := "repay", desc := "(I)I" } : Jvm.MethodName)) ∈ xAll := xAll_in 730 (by decide +kernel) (by decide +kernel)
theorem k_699 : (Jvm.Cond.selects "LeftThingsModel" ({ cls := "LeftThingsModel", name := "repay", desc := "(I)I" } : Jvm.MethodName) ({ cls := "LeftThingsModel", name := "repay", desc := "(I)I" } : Jvm.MethodName)) ∈ xAll := xAll_in 731 (by decide +kernel) (by decide +kernel)
theorem k_700 : (Jvm.Cond.code ({ cls := "LeftThingsModel", name := "repay", desc := "(I)I" } : Jvm.MethodName) prog_5_method_17_code (3 : Nat) (Option.some Jvm.ClassFile.FieldType.int)) ∈ xAll := xAll_in 732 (by decide +kernel) (by decide +kernel)
theorem k_701 : (Jvm.Cond.methodLink "LeftThingsLaw" (110 : Nat) ({ cls := "LeftThingsModel", name := "doubt", desc := "(I)I" } : Jvm.MethodName)) ∈ xAll := xAll_in 733 (by decide +kernel) (by decide +kernel)
theorem k_702 : (Jvm.Cond.instanceMethod ({ cls := "LeftThingsModel", name := "doubt", desc := "(I)I" } : Jvm.MethodName)) ∈ xAll := xAll_in 734 (by decide +kernel) (by decide +kernel)
theorem k_703 : (Jvm.Cond.selects "LeftThingsModel" ({ cls := "LeftThingsModel", name := "doubt", desc := "(I)I" } : Jvm.MethodName) ({ cls := "LeftThingsModel", name := "doubt", desc := "(I)I" } : Jvm.MethodName)) ∈ xAll := xAll_in 735 (by decide +kernel) (by decide +kernel)
theorem k_704 : (Jvm.Cond.code ({ cls := "LeftThingsModel", name := "doubt", desc := "(I)I" } : Jvm.MethodName) prog_5_method_18_code (2 : Nat) (Option.some Jvm.ClassFile.FieldType.int)) ∈ xAll := xAll_in 736 (by decide +kernel) (by decide +kernel)
theorem k_705 : (Jvm.Cond.methodLink "LeftThingsLaw" (113 : Nat) ({ cls := "LeftThingsModel", name := "pass", desc := "(I)I" } : Jvm.MethodName)) ∈ xAll := xAll_in 737 (by decide +kernel) (by decide +kernel)
theorem k_706 : (Jvm.Cond.instanceMethod ({ cls := "LeftThingsModel", name := "pass", desc := "(I)I" } : Jvm.MethodName)) ∈ xAll := xAll_in 738 (by decide +kernel) (by decide +kernel)
theorem k_707 : (Jvm.Cond.selects "LeftThingsModel" ({ cls := "LeftThingsModel", name := "pass", desc := "(I)I" } : Jvm.MethodName) ({ cls := "LeftThingsModel", name := "pass", desc := "(I)I" } : Jvm.MethodName)) ∈ xAll := xAll_in 739 (by decide +kernel) (by decide +kernel)
theorem k_708 : (Jvm.Cond.code ({ cls := "LeftThingsModel", name := "pass", desc := "(I)I" } : Jvm.MethodName) prog_5_method_22_code (4 : Nat) (Option.some Jvm.ClassFile.FieldType.int)) ∈ xAll := xAll_in 740 (by decide +kernel) (by decide +kernel)
theorem k_709 : (Jvm.Cond.methodLink "LeftThingsModel" (102 : Nat) ({ cls := "LeftThingsModel", name := "endsDay", desc := "()I" } : Jvm.MethodName)) ∈ xAll := xAll_in 741 (by decide +kernel) (by decide +kernel)
theorem k_710 : (Jvm.Cond.privateMethod ({ cls := "LeftThingsModel", name := "endsDay", desc := "()I" } : Jvm.MethodName)) ∈ xAll := xAll_in 742 (by decide +kernel) (by decide +kernel)
theorem k_711 : (Jvm.Cond.instanceMethod ({ cls := "LeftThingsModel", name := "endsDay", desc := "()I" } : Jvm.MethodName)) ∈ xAll := xAll_in 743 (by decide +kernel) (by decide +kernel)
theorem k_712 : (Jvm.Cond.code ({ cls := "LeftThingsModel", name := "endsDay", desc := "()I" } : Jvm.MethodName) prog_5_method_21_code (3 : Nat) (Option.some Jvm.ClassFile.FieldType.int)) ∈ xAll := xAll_in 744 (by decide +kernel) (by decide +kernel)
theorem k_713 : (Jvm.Cond.methodLink "LeftThingsModel" (96 : Nat) ({ cls := "LeftThingsModel", name := "sells", desc := "(I)V" } : Jvm.MethodName)) ∈ xAll := xAll_in 745 (by decide +kernel) (by decide +kernel)
theorem k_714 : (Jvm.Cond.privateMethod ({ cls := "LeftThingsModel", name := "sells", desc := "(I)V" } : Jvm.MethodName)) ∈ xAll := xAll_in 746 (by decide +kernel) (by decide +kernel)
theorem k_715 : (Jvm.Cond.instanceMethod ({ cls := "LeftThingsModel", name := "sells", desc := "(I)V" } : Jvm.MethodName)) ∈ xAll := xAll_in 747 (by decide +kernel) (by decide +kernel)
theorem k_716 : (Jvm.Cond.code ({ cls := "LeftThingsModel", name := "sells", desc := "(I)V" } : Jvm.MethodName) prog_5_method_19_code (4 : Nat) (Option.none : Option Jvm.ClassFile.FieldType)) ∈ xAll := xAll_in 748 (by decide +kernel) (by decide +kernel)
theorem k_717 : (Jvm.Cond.methodLink "LeftThingsModel" (99 : Nat) ({ cls := "LeftThingsModel", name := "drives", desc := "()V" } : Jvm.MethodName)) ∈ xAll := xAll_in 749 (by decide +kernel) (by decide +kernel)
theorem k_718 : (Jvm.Cond.privateMethod ({ cls := "LeftThingsModel", name := "drives", desc := "()V" } : Jvm.MethodName)) ∈ xAll := xAll_in 750 (by decide +kernel) (by decide +kernel)
theorem k_719 : (Jvm.Cond.instanceMethod ({ cls := "LeftThingsModel", name := "drives", desc := "()V" } : Jvm.MethodName)) ∈ xAll := xAll_in 751 (by decide +kernel) (by decide +kernel)
theorem k_720 : (Jvm.Cond.code ({ cls := "LeftThingsModel", name := "drives", desc := "()V" } : Jvm.MethodName) prog_5_method_20_code (5 : Nat) (Option.none : Option Jvm.ClassFile.FieldType)) ∈ xAll := xAll_in 752 (by decide +kernel) (by decide +kernel)
theorem k_721 : (Jvm.Cond.methodLink "LeftThingsLaw" (117 : Nat) ({ cls := "LeftThingsModel", name := "day", desc := "()I" } : Jvm.MethodName)) ∈ xAll := xAll_in 753 (by decide +kernel) (by decide +kernel)
theorem k_722 : (Jvm.Cond.instanceMethod ({ cls := "LeftThingsModel", name := "day", desc := "()I" } : Jvm.MethodName)) ∈ xAll := xAll_in 754 (by decide +kernel) (by decide +kernel)
theorem k_723 : (Jvm.Cond.selects "LeftThingsModel" ({ cls := "LeftThingsModel", name := "day", desc := "()I" } : Jvm.MethodName) ({ cls := "LeftThingsModel", name := "day", desc := "()I" } : Jvm.MethodName)) ∈ xAll := xAll_in 755 (by decide +kernel) (by decide +kernel)
theorem k_724 : (Jvm.Cond.code ({ cls := "LeftThingsModel", name := "day", desc := "()I" } : Jvm.MethodName) prog_5_method_23_code (1 : Nat) (Option.some Jvm.ClassFile.FieldType.int)) ∈ xAll := xAll_in 756 (by decide +kernel) (by decide +kernel)
theorem k_725 : (Jvm.Cond.methodLink "LeftThingsLaw" (121 : Nat) ({ cls := "LeftThingsModel", name := "things", desc := "()I" } : Jvm.MethodName)) ∈ xAll := xAll_in 757 (by decide +kernel) (by decide +kernel)
theorem k_726 : (Jvm.Cond.instanceMethod ({ cls := "LeftThingsModel", name := "things", desc := "()I" } : Jvm.MethodName)) ∈ xAll := xAll_in 758 (by decide +kernel) (by decide +kernel)
theorem k_727 : (Jvm.Cond.selects "LeftThingsModel" ({ cls := "LeftThingsModel", name := "things", desc := "()I" } : Jvm.MethodName) ({ cls := "LeftThingsModel", name := "things", desc := "()I" } : Jvm.MethodName)) ∈ xAll := xAll_in 759 (by decide +kernel) (by decide +kernel)
theorem k_728 : (Jvm.Cond.code ({ cls := "LeftThingsModel", name := "things", desc := "()I" } : Jvm.MethodName) prog_5_method_24_code (1 : Nat) (Option.some Jvm.ClassFile.FieldType.int)) ∈ xAll := xAll_in 760 (by decide +kernel) (by decide +kernel)
theorem k_729 : (Jvm.Cond.methodLink "LeftThingsLaw" (124 : Nat) ({ cls := "LeftThingsModel", name := "where", desc := "(I)I" } : Jvm.MethodName)) ∈ xAll := xAll_in 761 (by decide +kernel) (by decide +kernel)
theorem k_730 : (Jvm.Cond.instanceMethod ({ cls := "LeftThingsModel", name := "where", desc := "(I)I" } : Jvm.MethodName)) ∈ xAll := xAll_in 762 (by decide +kernel) (by decide +kernel)
theorem k_731 : (Jvm.Cond.selects "LeftThingsModel" ({ cls := "LeftThingsModel", name := "where", desc := "(I)I" } : Jvm.MethodName) ({ cls := "LeftThingsModel", name := "where", desc := "(I)I" } : Jvm.MethodName)) ∈ xAll := xAll_in 763 (by decide +kernel) (by decide +kernel)
theorem k_732 : (Jvm.Cond.code ({ cls := "LeftThingsModel", name := "where", desc := "(I)I" } : Jvm.MethodName) prog_5_method_25_code (2 : Nat) (Option.some Jvm.ClassFile.FieldType.int)) ∈ xAll := xAll_in 764 (by decide +kernel) (by decide +kernel)
theorem k_733 : (Jvm.Cond.methodLink "LeftThingsLaw" (127 : Nat) ({ cls := "LeftThingsModel", name := "whereOn", desc := "(II)I" } : Jvm.MethodName)) ∈ xAll := xAll_in 765 (by decide +kernel) (by decide +kernel)
theorem k_734 : (Jvm.Cond.instanceMethod ({ cls := "LeftThingsModel", name := "whereOn", desc := "(II)I" } : Jvm.MethodName)) ∈ xAll := xAll_in 766 (by decide +kernel) (by decide +kernel)
theorem k_735 : (Jvm.Cond.selects "LeftThingsModel" ({ cls := "LeftThingsModel", name := "whereOn", desc := "(II)I" } : Jvm.MethodName) ({ cls := "LeftThingsModel", name := "whereOn", desc := "(II)I" } : Jvm.MethodName)) ∈ xAll := xAll_in 767 (by decide +kernel) (by decide +kernel)
theorem k_736 : (Jvm.Cond.code ({ cls := "LeftThingsModel", name := "whereOn", desc := "(II)I" } : Jvm.MethodName) prog_5_method_26_code (3 : Nat) (Option.some Jvm.ClassFile.FieldType.int)) ∈ xAll := xAll_in 768 (by decide +kernel) (by decide +kernel)
theorem k_737 : (Jvm.Cond.methodLink "LeftThingsLaw" (130 : Nat) ({ cls := "LeftThingsModel", name := "load", desc := "(I)I" } : Jvm.MethodName)) ∈ xAll := xAll_in 769 (by decide +kernel) (by decide +kernel)
theorem k_738 : (Jvm.Cond.instanceMethod ({ cls := "LeftThingsModel", name := "load", desc := "(I)I" } : Jvm.MethodName)) ∈ xAll := xAll_in 770 (by decide +kernel) (by decide +kernel)
theorem k_739 : (Jvm.Cond.selects "LeftThingsModel" ({ cls := "LeftThingsModel", name := "load", desc := "(I)I" } : Jvm.MethodName) ({ cls := "LeftThingsModel", name := "load", desc := "(I)I" } : Jvm.MethodName)) ∈ xAll := xAll_in 771 (by decide +kernel) (by decide +kernel)
theorem k_740 : (Jvm.Cond.code ({ cls := "LeftThingsModel", name := "load", desc := "(I)I" } : Jvm.MethodName) prog_5_method_27_code (2 : Nat) (Option.some Jvm.ClassFile.FieldType.int)) ∈ xAll := xAll_in 772 (by decide +kernel) (by decide +kernel)
theorem k_741 : (Jvm.Cond.methodLink "LeftThingsLaw" (133 : Nat) ({ cls := "LeftThingsModel", name := "fees", desc := "(I)I" } : Jvm.MethodName)) ∈ xAll := xAll_in 773 (by decide +kernel) (by decide +kernel)
theorem k_742 : (Jvm.Cond.instanceMethod ({ cls := "LeftThingsModel", name := "fees", desc := "(I)I" } : Jvm.MethodName)) ∈ xAll := xAll_in 774 (by decide +kernel) (by decide +kernel)
theorem k_743 : (Jvm.Cond.selects "LeftThingsModel" ({ cls := "LeftThingsModel", name := "fees", desc := "(I)I" } : Jvm.MethodName) ({ cls := "LeftThingsModel", name := "fees", desc := "(I)I" } : Jvm.MethodName)) ∈ xAll := xAll_in 775 (by decide +kernel) (by decide +kernel)
theorem k_744 : (Jvm.Cond.code ({ cls := "LeftThingsModel", name := "fees", desc := "(I)I" } : Jvm.MethodName) prog_5_method_28_code (2 : Nat) (Option.some Jvm.ClassFile.FieldType.int)) ∈ xAll := xAll_in 776 (by decide +kernel) (by decide +kernel)
theorem k_745 : (Jvm.Cond.methodLink "LeftThingsLaw" (136 : Nat) ({ cls := "LeftThingsModel", name := "loan", desc := "(I)I" } : Jvm.MethodName)) ∈ xAll := xAll_in 777 (by decide +kernel) (by decide +kernel)
theorem k_746 : (Jvm.Cond.instanceMethod ({ cls := "LeftThingsModel", name := "loan", desc := "(I)I" } : Jvm.MethodName)) ∈ xAll := xAll_in 778 (by decide +kernel) (by decide +kernel)
theorem k_747 : (Jvm.Cond.selects "LeftThingsModel" ({ cls := "LeftThingsModel", name := "loan", desc := "(I)I" } : Jvm.MethodName) ({ cls := "LeftThingsModel", name := "loan", desc := "(I)I" } : Jvm.MethodName)) ∈ xAll := xAll_in 779 (by decide +kernel) (by decide +kernel)
theorem k_748 : (Jvm.Cond.code ({ cls := "LeftThingsModel", name := "loan", desc := "(I)I" } : Jvm.MethodName) prog_5_method_29_code (2 : Nat) (Option.some Jvm.ClassFile.FieldType.int)) ∈ xAll := xAll_in 780 (by decide +kernel) (by decide +kernel)
theorem k_749 : (Jvm.Cond.methodLink "LeftThingsLaw" (139 : Nat) ({ cls := "LeftThingsModel", name := "purse", desc := "(I)I" } : Jvm.MethodName)) ∈ xAll := xAll_in 781 (by decide +kernel) (by decide +kernel)
theorem k_750 : (Jvm.Cond.instanceMethod ({ cls := "LeftThingsModel", name := "purse", desc := "(I)I" } : Jvm.MethodName)) ∈ xAll := xAll_in 782 (by decide +kernel) (by decide +kernel)
theorem k_751 : (Jvm.Cond.selects "LeftThingsModel" ({ cls := "LeftThingsModel", name := "purse", desc := "(I)I" } : Jvm.MethodName) ({ cls := "LeftThingsModel", name := "purse", desc := "(I)I" } : Jvm.MethodName)) ∈ xAll := xAll_in 783 (by decide +kernel) (by decide +kernel)
theorem k_752 : (Jvm.Cond.code ({ cls := "LeftThingsModel", name := "purse", desc := "(I)I" } : Jvm.MethodName) prog_5_method_30_code (2 : Nat) (Option.some Jvm.ClassFile.FieldType.int)) ∈ xAll := xAll_in 784 (by decide +kernel) (by decide +kernel)
theorem k_753 : (Jvm.Cond.methodLink "LeftThingsLaw" (143 : Nat) ({ cls := "LeftThingsModel", name := "taken", desc := "()I" } : Jvm.MethodName)) ∈ xAll := xAll_in 785 (by decide +kernel) (by decide +kernel)
theorem k_754 : (Jvm.Cond.instanceMethod ({ cls := "LeftThingsModel", name := "taken", desc := "()I" } : Jvm.MethodName)) ∈ xAll := xAll_in 786 (by decide +kernel) (by decide +kernel)
theorem k_755 : (Jvm.Cond.selects "LeftThingsModel" ({ cls := "LeftThingsModel", name := "taken", desc := "()I" } : Jvm.MethodName) ({ cls := "LeftThingsModel", name := "taken", desc := "()I" } : Jvm.MethodName)) ∈ xAll := xAll_in 787 (by decide +kernel) (by decide +kernel)
theorem k_756 : (Jvm.Cond.code ({ cls := "LeftThingsModel", name := "taken", desc := "()I" } : Jvm.MethodName) prog_5_method_31_code (1 : Nat) (Option.some Jvm.ClassFile.FieldType.int)) ∈ xAll := xAll_in 788 (by decide +kernel) (by decide +kernel)
theorem k_757 : (Jvm.Cond.methodLink "LeftThingsLaw" (146 : Nat) ({ cls := "LeftThingsModel", name := "wish", desc := "(I)I" } : Jvm.MethodName)) ∈ xAll := xAll_in 789 (by decide +kernel) (by decide +kernel)
theorem k_758 : (Jvm.Cond.instanceMethod ({ cls := "LeftThingsModel", name := "wish", desc := "(I)I" } : Jvm.MethodName)) ∈ xAll := xAll_in 790 (by decide +kernel) (by decide +kernel)
theorem k_759 : (Jvm.Cond.selects "LeftThingsModel" ({ cls := "LeftThingsModel", name := "wish", desc := "(I)I" } : Jvm.MethodName) ({ cls := "LeftThingsModel", name := "wish", desc := "(I)I" } : Jvm.MethodName)) ∈ xAll := xAll_in 791 (by decide +kernel) (by decide +kernel)
theorem k_760 : (Jvm.Cond.code ({ cls := "LeftThingsModel", name := "wish", desc := "(I)I" } : Jvm.MethodName) prog_5_method_32_code (2 : Nat) (Option.some Jvm.ClassFile.FieldType.int)) ∈ xAll := xAll_in 792 (by decide +kernel) (by decide +kernel)
theorem k_762 : (Jvm.Cond.sameMethod "java/lang/Throwable" "java/lang/Throwable" "fillInStackTrace" "(I)Ljava/lang/Throwable;") ∈ xAll := xAll_in 794 (by decide +kernel) (by decide +kernel)
theorem k_763 : (Jvm.Cond.castable "LeftThings" "java/lang/Object") ∈ xAll := xAll_in 795 (by decide +kernel) (by decide +kernel)
theorem k_764 : (Jvm.Cond.castable "java/util/ArrayList" "java/lang/Object") ∈ xAll := xAll_in 796 (by decide +kernel) (by decide +kernel)
theorem k_765 : (Jvm.Cond.castable "LeftThingsModel" "java/lang/Object") ∈ xAll := xAll_in 797 (by decide +kernel) (by decide +kernel)
theorem k_766 : (Jvm.Cond.castable "java/lang/IllegalArgumentException" "java/lang/Object") ∈ xAll := xAll_in 798 (by decide +kernel) (by decide +kernel)
theorem k_767 : (Jvm.Cond.castable "java/lang/IllegalStateException" "java/lang/Object") ∈ xAll := xAll_in 799 (by decide +kernel) (by decide +kernel)
theorem k_768 : (Jvm.Cond.castable "LeftThings$Thing" "java/lang/Object") ∈ xAll := xAll_in 800 (by decide +kernel) (by decide +kernel)
theorem k_769 : (Jvm.Cond.castable "LeftThings$Tag" "java/lang/Object") ∈ xAll := xAll_in 801 (by decide +kernel) (by decide +kernel)
theorem k_770 : (Jvm.Cond.castable "java/lang/IndexOutOfBoundsException" "java/lang/Object") ∈ xAll := xAll_in 802 (by decide +kernel) (by decide +kernel)
theorem k_771 : (Jvm.Cond.castable "java/lang/Throwable" "java/lang/Object") ∈ xAll := xAll_in 803 (by decide +kernel) (by decide +kernel)
theorem k_772 : (Jvm.Cond.castable "java/lang/String" "java/lang/Object") ∈ xAll := xAll_in 804 (by decide +kernel) (by decide +kernel)
theorem k_773 : (Jvm.Cond.sameMethod "[Ljava/lang/Object;" "java/lang/Object" "getClass" "()Ljava/lang/Class;") ∈ xAll := xAll_in 805 (by decide +kernel) (by decide +kernel)
theorem k_774 : (Jvm.Cond.selects "[Ljava/lang/Object;" ({ cls := "java/lang/Object", name := "getClass", desc := "()Ljava/lang/Class;" } : Jvm.MethodName) ({ cls := "java/lang/Object", name := "getClass", desc := "()Ljava/lang/Class;" } : Jvm.MethodName)) ∈ xAll := xAll_in 806 (by decide +kernel) (by decide +kernel)
theorem k_775 : (Jvm.Cond.declares ({ cls := "java/lang/Object", name := "getClass", desc := "()Ljava/lang/Class;" } : Jvm.MethodName)) ∈ xAll := xAll_in 807 (by decide +kernel) (by decide +kernel)
theorem k_776 : (Jvm.Cond.castable "[I" "java/lang/Object") ∈ xAll := xAll_in 808 (by decide +kernel) (by decide +kernel)
theorem k_777 : (Jvm.Cond.castable "[B" "java/lang/Object") ∈ xAll := xAll_in 809 (by decide +kernel) (by decide +kernel)
theorem k_778 : (Jvm.Cond.castable "[Ljava/lang/Object;" "java/lang/Object") ∈ xAll := xAll_in 810 (by decide +kernel) (by decide +kernel)
theorem k_779 : (Jvm.Cond.castable "[J" "java/lang/Object") ∈ xAll := xAll_in 811 (by decide +kernel) (by decide +kernel)
theorem s_0 : Cond.selects (⟨"java/lang/Throwable", "fillInStackTrace", "(I)Ljava/lang/Throwable;"⟩ : MethodName).cls ⟨"java/lang/Throwable", "fillInStackTrace", "(I)Ljava/lang/Throwable;"⟩ ⟨"java/lang/Throwable", "fillInStackTrace", "(I)Ljava/lang/Throwable;"⟩ ∈ xAll := xAll_in 0 (by decide +kernel) (by decide +kernel)
theorem s_1 : Cond.selects (⟨"LeftThings", "hasRoomFor", "(II)Z"⟩ : MethodName).cls ⟨"LeftThings", "hasRoomFor", "(II)Z"⟩ ⟨"LeftThings", "hasRoomFor", "(II)Z"⟩ ∈ xAll := xAll_in 1 (by decide +kernel) (by decide +kernel)
theorem s_2 : Cond.selects (⟨"LeftThings", "sizesAt", "(I)I"⟩ : MethodName).cls ⟨"LeftThings", "sizesAt", "(I)I"⟩ ⟨"LeftThings", "sizesAt", "(I)I"⟩ ∈ xAll := xAll_in 2 (by decide +kernel) (by decide +kernel)
theorem s_3 : Cond.selects (⟨"java/util/ArrayList", "add", "(Ljava/lang/Object;[Ljava/lang/Object;I)V"⟩ : MethodName).cls ⟨"java/util/ArrayList", "add", "(Ljava/lang/Object;[Ljava/lang/Object;I)V"⟩ ⟨"java/util/ArrayList", "add", "(Ljava/lang/Object;[Ljava/lang/Object;I)V"⟩ ∈ xAll := xAll_in 3 (by decide +kernel) (by decide +kernel)
theorem s_4 : Cond.selects (⟨"java/util/ArrayList", "grow", "()[Ljava/lang/Object;"⟩ : MethodName).cls ⟨"java/util/ArrayList", "grow", "()[Ljava/lang/Object;"⟩ ⟨"java/util/ArrayList", "grow", "()[Ljava/lang/Object;"⟩ ∈ xAll := xAll_in 4 (by decide +kernel) (by decide +kernel)
theorem s_5 : Cond.selects (⟨"java/util/ArrayList", "grow", "(I)[Ljava/lang/Object;"⟩ : MethodName).cls ⟨"java/util/ArrayList", "grow", "(I)[Ljava/lang/Object;"⟩ ⟨"java/util/ArrayList", "grow", "(I)[Ljava/lang/Object;"⟩ ∈ xAll := xAll_in 5 (by decide +kernel) (by decide +kernel)
theorem s_6 : Cond.selects (⟨"LeftThings", "thingNumbered", "(I)LLeftThings$Thing;"⟩ : MethodName).cls ⟨"LeftThings", "thingNumbered", "(I)LLeftThings$Thing;"⟩ ⟨"LeftThings", "thingNumbered", "(I)LLeftThings$Thing;"⟩ ∈ xAll := xAll_in 6 (by decide +kernel) (by decide +kernel)
theorem s_7 : Cond.selects (⟨"LeftThings$Thing", "isAtCounter", "()Z"⟩ : MethodName).cls ⟨"LeftThings$Thing", "isAtCounter", "()Z"⟩ ⟨"LeftThings$Thing", "isAtCounter", "()Z"⟩ ∈ xAll := xAll_in 7 (by decide +kernel) (by decide +kernel)
theorem s_8 : Cond.selects (⟨"LeftThings$Thing", "hasLoan", "()Z"⟩ : MethodName).cls ⟨"LeftThings$Thing", "hasLoan", "()Z"⟩ ⟨"LeftThings$Thing", "hasLoan", "()Z"⟩ ∈ xAll := xAll_in 8 (by decide +kernel) (by decide +kernel)
theorem s_9 : Cond.selects (⟨"LeftThings", "giveAway", "(LLeftThings$Thing;II)V"⟩ : MethodName).cls ⟨"LeftThings", "giveAway", "(LLeftThings$Thing;II)V"⟩ ⟨"LeftThings", "giveAway", "(LLeftThings$Thing;II)V"⟩ ∈ xAll := xAll_in 9 (by decide +kernel) (by decide +kernel)
theorem s_10 : Cond.selects (⟨"LeftThings", "dropEndedWishes", "()V"⟩ : MethodName).cls ⟨"LeftThings", "dropEndedWishes", "()V"⟩ ⟨"LeftThings", "dropEndedWishes", "()V"⟩ ∈ xAll := xAll_in 10 (by decide +kernel) (by decide +kernel)
theorem s_11 : Cond.selects (⟨"java/util/ArrayList", "fastRemove", "([Ljava/lang/Object;I)V"⟩ : MethodName).cls ⟨"java/util/ArrayList", "fastRemove", "([Ljava/lang/Object;I)V"⟩ ⟨"java/util/ArrayList", "fastRemove", "([Ljava/lang/Object;I)V"⟩ ∈ xAll := xAll_in 11 (by decide +kernel) (by decide +kernel)
theorem s_12 : Cond.selects (⟨"LeftThings$Thing", "moveTo", "(II)V"⟩ : MethodName).cls ⟨"LeftThings$Thing", "moveTo", "(II)V"⟩ ⟨"LeftThings$Thing", "moveTo", "(II)V"⟩ ∈ xAll := xAll_in 12 (by decide +kernel) (by decide +kernel)
theorem s_13 : Cond.selects (⟨"LeftThings$Thing", "beginLoan", "(II)V"⟩ : MethodName).cls ⟨"LeftThings$Thing", "beginLoan", "(II)V"⟩ ⟨"LeftThings$Thing", "beginLoan", "(II)V"⟩ ∈ xAll := xAll_in 13 (by decide +kernel) (by decide +kernel)
theorem s_14 : Cond.selects (⟨"LeftThings", "putIntoPurse", "(II)V"⟩ : MethodName).cls ⟨"LeftThings", "putIntoPurse", "(II)V"⟩ ⟨"LeftThings", "putIntoPurse", "(II)V"⟩ ∈ xAll := xAll_in 14 (by decide +kernel) (by decide +kernel)
theorem s_15 : Cond.selects (⟨"LeftThings$Thing", "endLoan", "()V"⟩ : MethodName).cls ⟨"LeftThings$Thing", "endLoan", "()V"⟩ ⟨"LeftThings$Thing", "endLoan", "()V"⟩ ∈ xAll := xAll_in 15 (by decide +kernel) (by decide +kernel)
theorem s_16 : Cond.selects (⟨"LeftThings$Thing", "isCalled", "()Z"⟩ : MethodName).cls ⟨"LeftThings$Thing", "isCalled", "()Z"⟩ ⟨"LeftThings$Thing", "isCalled", "()Z"⟩ ∈ xAll := xAll_in 16 (by decide +kernel) (by decide +kernel)
theorem s_17 : Cond.selects (⟨"LeftThings", "endDay", "()I"⟩ : MethodName).cls ⟨"LeftThings", "endDay", "()I"⟩ ⟨"LeftThings", "endDay", "()I"⟩ ∈ xAll := xAll_in 17 (by decide +kernel) (by decide +kernel)
theorem s_18 : Cond.selects (⟨"LeftThings", "oweFees", "()V"⟩ : MethodName).cls ⟨"LeftThings", "oweFees", "()V"⟩ ⟨"LeftThings", "oweFees", "()V"⟩ ∈ xAll := xAll_in 18 (by decide +kernel) (by decide +kernel)
theorem s_19 : Cond.selects (⟨"LeftThings", "sellCalled", "()I"⟩ : MethodName).cls ⟨"LeftThings", "sellCalled", "()I"⟩ ⟨"LeftThings", "sellCalled", "()I"⟩ ∈ xAll := xAll_in 19 (by decide +kernel) (by decide +kernel)
theorem s_20 : Cond.selects (⟨"LeftThings", "sell", "(LLeftThings$Thing;)V"⟩ : MethodName).cls ⟨"LeftThings", "sell", "(LLeftThings$Thing;)V"⟩ ⟨"LeftThings", "sell", "(LLeftThings$Thing;)V"⟩ ∈ xAll := xAll_in 20 (by decide +kernel) (by decide +kernel)
theorem s_21 : Cond.selects (⟨"LeftThings", "sellUnfetched", "()I"⟩ : MethodName).cls ⟨"LeftThings", "sellUnfetched", "()I"⟩ ⟨"LeftThings", "sellUnfetched", "()I"⟩ ∈ xAll := xAll_in 21 (by decide +kernel) (by decide +kernel)
theorem s_22 : Cond.selects (⟨"LeftThings", "driveVan", "()V"⟩ : MethodName).cls ⟨"LeftThings", "driveVan", "()V"⟩ ⟨"LeftThings", "driveVan", "()V"⟩ ∈ xAll := xAll_in 22 (by decide +kernel) (by decide +kernel)
theorem s_23 : Cond.selects (⟨"LeftThings$Thing", "placeAtBeginningOf", "(I)I"⟩ : MethodName).cls ⟨"LeftThings$Thing", "placeAtBeginningOf", "(I)I"⟩ ⟨"LeftThings$Thing", "placeAtBeginningOf", "(I)I"⟩ ∈ xAll := xAll_in 23 (by decide +kernel) (by decide +kernel)
theorem s_24 : Cond.selects (⟨"LeftThingsModel", "isFine", "(I)Z"⟩ : MethodName).cls ⟨"LeftThingsModel", "isFine", "(I)Z"⟩ ⟨"LeftThingsModel", "isFine", "(I)Z"⟩ ∈ xAll := xAll_in 24 (by decide +kernel) (by decide +kernel)
theorem s_25 : Cond.selects (⟨"LeftThingsModel", "loadOf", "(I)I"⟩ : MethodName).cls ⟨"LeftThingsModel", "loadOf", "(I)I"⟩ ⟨"LeftThingsModel", "loadOf", "(I)I"⟩ ∈ xAll := xAll_in 25 (by decide +kernel) (by decide +kernel)
theorem s_26 : Cond.selects (⟨"LeftThingsModel", "isThing", "(I)Z"⟩ : MethodName).cls ⟨"LeftThingsModel", "isThing", "(I)Z"⟩ ⟨"LeftThingsModel", "isThing", "(I)Z"⟩ ∈ xAll := xAll_in 26 (by decide +kernel) (by decide +kernel)
theorem s_27 : Cond.selects (⟨"LeftThingsModel", "isAt", "(I)Z"⟩ : MethodName).cls ⟨"LeftThingsModel", "isAt", "(I)Z"⟩ ⟨"LeftThingsModel", "isAt", "(I)Z"⟩ ∈ xAll := xAll_in 27 (by decide +kernel) (by decide +kernel)
theorem s_28 : Cond.selects (⟨"LeftThingsModel", "forgets", "(I)V"⟩ : MethodName).cls ⟨"LeftThingsModel", "forgets", "(I)V"⟩ ⟨"LeftThingsModel", "forgets", "(I)V"⟩ ∈ xAll := xAll_in 28 (by decide +kernel) (by decide +kernel)
theorem s_29 : Cond.selects (⟨"LeftThingsModel", "endsDay", "()I"⟩ : MethodName).cls ⟨"LeftThingsModel", "endsDay", "()I"⟩ ⟨"LeftThingsModel", "endsDay", "()I"⟩ ∈ xAll := xAll_in 29 (by decide +kernel) (by decide +kernel)
theorem s_30 : Cond.selects (⟨"LeftThingsModel", "sells", "(I)V"⟩ : MethodName).cls ⟨"LeftThingsModel", "sells", "(I)V"⟩ ⟨"LeftThingsModel", "sells", "(I)V"⟩ ∈ xAll := xAll_in 30 (by decide +kernel) (by decide +kernel)
theorem s_31 : Cond.selects (⟨"LeftThingsModel", "drives", "()V"⟩ : MethodName).cls ⟨"LeftThingsModel", "drives", "()V"⟩ ⟨"LeftThingsModel", "drives", "()V"⟩ ∈ xAll := xAll_in 31 (by decide +kernel) (by decide +kernel)
theorem xin_RJx4a65c : ∀ w ∈ u_ws RJx4a65c TJx4a65c 3, w ∈ xAll := xAll_list [83, 79, 81] (by decide +kernel) (by decide +kernel)
theorem xin_RX0 : ∀ w ∈ u_ws RX0 TX0 3, w ∈ xAll := xAll_list [286, 288, 290] (by decide +kernel) (by decide +kernel)
theorem xin_RX1 : ∀ w ∈ u_ws RX1 TX1 12, w ∈ xAll := xAll_list [316, 318, 320, 322, 324, 326, 328, 330, 332, 334, 336, 338] (by decide +kernel) (by decide +kernel)
theorem xin_RX2 : ∀ w ∈ u_ws RX2 TX2 7, w ∈ xAll := xAll_list [97, 99, 101, 103, 105, 107, 109] (by decide +kernel) (by decide +kernel)
theorem xin_RX3 : ∀ w ∈ u_ws RX3 TX3 20, w ∈ xAll := xAll_list [630, 632, 634, 636, 638, 640, 642, 644, 646, 648, 650, 652, 654, 656, 658, 660, 662, 664, 666, 668] (by decide +kernel) (by decide +kernel)
end
section
section XHP
/-- what the rows ask of a class: its place, its fields' words, their types, their names -/
def xKl (C : String) (T : u_T) (N ci : Nat) (ty0 : Nat → FieldType) : Prop :=
  vwCl[ci]? = some (C, T, N) ∧ (∀ w ∈ u_ws C T N, w ∈ xAll) ∧ (∀ k, k < N → parseFieldDescriptor (T k).2.2.1 = some (ty0 k)) ∧ ∀ a, a < N → ∀ b, b < N → a ≠ b → (T a).2.1 ≠ (T b).2.1
theorem kl0 : xKl RJx4a65c TJx4a65c 3 0 tyJx4a65c := ⟨rfl, xin_RJx4a65c, tyJx4a65c_ok, nmJx4a65c⟩
theorem kl1 : xKl RX0 TX0 3 1 tyX0 := ⟨rfl, xin_RX0, tyX0_ok, nmX0⟩
theorem kl2 : xKl RX1 TX1 12 2 tyX1 := ⟨rfl, xin_RX1, tyX1_ok, nmX1⟩
theorem kl3 : xKl RX2 TX2 7 3 tyX2 := ⟨rfl, xin_RX2, tyX2_ok, nmX2⟩
theorem kl4 : xKl RX3 TX3 20 4 tyX3 := ⟨rfl, xin_RX3, tyX3_ok, nmX3⟩
variable {p : Program} {l : Launch} {e : Env} {R : Room} {s : State} {m : MethodId} {args : Array Value} {below : List Frame} {meth : Method} {c : Code} {G : xG} {cc : ByteArray} {nL : Nat} {own : String} {rt : Option FieldType} {Q : State → Prop} {P P' : xW → Prop} {k n pc : Nat} {lv : List (Nat × Value)} {st : List Value}
theorem x_getf (Γ : xC p s m meth c G cc nL own rt) {C ref : String} {T : u_T} {N ci idx a : Nat} {ty0 : Nat → FieldType} (K : xKl C T N ci ty0) (j : Nat) {v : Value} (hv : ∀ w, P w → ∃ k0 fs, w a = some (k0, .inr (ci, fs)) ∧ fs[j]? = some v) (hj : j < N)
    (hlink : Cond.fieldLink own idx ref (T j).2.1 (T j).2.2.1 ∈ xAll) (hsame : ref = (T j).1 ∨ Cond.sameField ref (T j).1 (T j).2.1 (T j).2.2.1 ∈ xAll) (hd : decode cc pc = .ok (.getfield idx, 3))
    (kk : xJ p l e R s m args below meth c G nL Q P k n (pc + 3) lv (v :: st)) : xJ p l e R s m args below meth c G nL Q P k n pc lv (.ref a :: st) := fun w H locs ls hp hh hs hl => by
  obtain ⟨k0, fs, ha, hf⟩ := hv w hp
  obtain ⟨hx, hb, hml, hown, hr, hlk, hE, hB⟩ := Γ
  refine va_get (Ts := xAll) (q0 := 0) hx hb (fun w hw => hE.w hw) K.2.1 hown hE.1 (hh.P ha) rfl K.1 j hj (hE.w hlink) ?_ hf hd (kk w H locs ls hp hh hs hl)
  rcases hsame with rfl | hsame
  · exact fun _ h9 => h9
  · exact u_same (hE.w (args := args) hsame)
theorem x_getfN (Γ : xC p s m meth c G cc nL own rt) {C host : String} {T : u_T} {N ci idx a : Nat} {ty0 : Nat → FieldType} (K : xKl C T N ci ty0) (j : Nat) {v : Value} (hv : ∀ w, P w → ∃ k0 fs, w a = some (k0, .inr (ci, fs)) ∧ fs[j]? = some v) (hj : j < N)
    (hlink : Cond.fieldLinkNest own idx (T j).1 (T j).2.1 (T j).2.2.1 host ∈ xAll) (hd : decode cc pc = .ok (.getfield idx, 3))
    (kk : xJ p l e R s m args below meth c G nL Q P k n (pc + 3) lv (v :: st)) : xJ p l e R s m args below meth c G nL Q P k n pc lv (.ref a :: st) := fun w H locs ls hp hh hs hl => by
  obtain ⟨k0, fs, ha, hf⟩ := hv w hp
  obtain ⟨hx, hb, hml, hown, hr, hlk, hE, hB⟩ := Γ
  exact va_getN (Ts := xAll) (q0 := 0) hx hb (fun w hw => hE.w hw) K.2.1 hown hE.1 (hh.P ha) rfl K.1 j hj (hE.w hlink) (fun _ h9 => h9) hf hd (kk w H locs ls hp hh hs hl)
theorem x_putf (Γ : xC p s m meth c G cc nL own rt) {C ref : String} {T : u_T} {N ci idx a : Nat} {ty0 : Nat → FieldType} (K : xKl C T N ci ty0) (j : Nat) {v : Value} (hv : ∀ w, P w → ∃ k0 fs, w a = some (k0, .inr (ci, fs)) ∧ j < fs.length ∧ P' (xu w a (k0, .inr (ci, fs.set j v)))) (hj : j < N)
    (hlink : Cond.fieldLink own idx ref (T j).2.1 (T j).2.2.1 ∈ xAll) (hsame : ref = (T j).1 ∨ Cond.sameField ref (T j).1 (T j).2.1 (T j).2.2.1 ∈ xAll) (hfin : (T j).2.2.2 = false) (hn : narrow (ty0 j) v = v) (hfit : fits (ty0 j) v = true) (hd : decode cc pc = .ok (.putfield idx, 3))
    (kk : xJ p l e R s m args below meth c G nL Q P' k n (pc + 3) lv st) : xJ p l e R s m args below meth c G nL Q P k n pc lv (v :: .ref a :: st) := fun w H locs ls hp hh hs hl => by
  obtain ⟨k0, fs, ha, hlen, hp'⟩ := hv w hp
  obtain ⟨hx, hb, hml, hown, hr, hlk, hE, hB⟩ := Γ
  obtain ⟨hc, hin, hty, hnm⟩ := K
  have hts : ∀ w ∈ xAll, w.before args s = true := fun w hw => hE.w hw
  have hap := va_apart (own := own) hts hin ty0 hty hnm hE.1 hc
  obtain ⟨r, h1, cell, q1, q2, q3, q4⟩ := (hh.2 a _ ha).2
  have hr : r = (C, T, N) := Option.some.inj (h1.symm.trans hc)
  subst hr
  obtain ⟨hS, hfc, kC, hkC, hkind⟩ := hE.1.1 ci _ hc
  obtain ⟨cf, kf, fi, f, hi, hsl⟩ := hS j hj
  have hlay := hts _ (hin _ (u_in_lay hj))
  unfold u_lay at hlay
  rw [if_neg (by rw [hfin]; decide)] at hlay
  have hst := (u_facts hfc hkC (u_lays hts hin hj) hi).1
  have h6 := u_store hfc hkC hkind hlay hi (hty j hj) hn hfit
  have hi2 : s.fieldFound? ref (T j).2.1 (T j).2.2.1 = some (cf, kf, fi, f) := by
    rcases hsame with rfl | hsame
    · exact hi
    · exact u_same (hE.w (args := args) hsame) _ hi
  refine W.putK hx hb (f := f) ⟨hown, hE.w hlink, ⟨_, _, _, hi2⟩, hst⟩ (by rw [q2]; exact h6) q1 q3 (by rw [hsl]; exact k2_hasslot (q4 j hj)) rfl rfl hd fun H' e1 e2 e3 => ?_
  rw [hsl] at e1 ⊢
  exact kk _ H' _ ls hp' (hh.set ha ⟨_, hc, t_OB.to (V := updV (vp_V fs) j v) ⟨_, e1, q2, q3, t_set q4 hap hj v⟩ (fun i _ => vp_updV_set hlen v i)⟩ e3 e2) (hs.put e2 e3 (hh.2 a _ ha).1) hl
theorem x_putfN (Γ : xC p s m meth c G cc nL own rt) {C host : String} {T : u_T} {N ci idx a : Nat} {ty0 : Nat → FieldType} (K : xKl C T N ci ty0) (j : Nat) {v : Value} (hv : ∀ w, P w → ∃ k0 fs, w a = some (k0, .inr (ci, fs)) ∧ j < fs.length ∧ P' (xu w a (k0, .inr (ci, fs.set j v)))) (hj : j < N)
    (hlink : Cond.fieldLinkNest own idx (T j).1 (T j).2.1 (T j).2.2.1 host ∈ xAll) (hfin : (T j).2.2.2 = false) (hn : narrow (ty0 j) v = v) (hfit : fits (ty0 j) v = true) (hd : decode cc pc = .ok (.putfield idx, 3))
    (kk : xJ p l e R s m args below meth c G nL Q P' k n (pc + 3) lv st) : xJ p l e R s m args below meth c G nL Q P k n pc lv (v :: .ref a :: st) := fun w H locs ls hp hh hs hl => by
  obtain ⟨k0, fs, ha, hlen, hp'⟩ := hv w hp
  obtain ⟨hx, hb, hml, hown, hr, hlk, hE, hB⟩ := Γ
  obtain ⟨hc, hin, hty, hnm⟩ := K
  have hts : ∀ w ∈ xAll, w.before args s = true := fun w hw => hE.w hw
  have hap := va_apart (own := own) hts hin ty0 hty hnm hE.1 hc
  obtain ⟨r, h1, cell, q1, q2, q3, q4⟩ := (hh.2 a _ ha).2
  have hr : r = (C, T, N) := Option.some.inj (h1.symm.trans hc)
  subst hr
  obtain ⟨hS, hfc, kC, hkC, hkind⟩ := hE.1.1 ci _ hc
  obtain ⟨cf, kf, fi, f, hi, hsl⟩ := hS j hj
  have hlay := hts _ (hin _ (u_in_lay hj))
  unfold u_lay at hlay
  rw [if_neg (by rw [hfin]; decide)] at hlay
  have hst := (u_facts hfc hkC (u_lays hts hin hj) hi).1
  have h6 := u_store hfc hkC hkind hlay hi (hty j hj) hn hfit
  refine va_WputK hx hb (f := f) hown (hE.w hlink) hi hst (by rw [q2]; exact h6) q1 q3 (by rw [hsl]; exact k2_hasslot (q4 j hj)) rfl rfl hd fun H' e1 e2 e3 => ?_
  rw [hsl] at e1 ⊢
  exact kk _ H' _ ls hp' (hh.set ha ⟨_, hc, t_OB.to (V := updV (vp_V fs) j v) ⟨_, e1, q2, q3, t_set q4 hap hj v⟩ (fun i _ => vp_updV_set hlen v i)⟩ e3 e2) (hs.put e2 e3 (hh.2 a _ ha).1) hl
theorem x_putfF (Γ : xC p s m meth c G cc nL own rt) (hin2 : meth.name = "<init>") {C : String} {T : u_T} {N ci idx a : Nat} {ty0 : Nat → FieldType} (K : xKl C T N ci ty0) (j : Nat) {v : Value} (hv : ∀ w, P w → ∃ k0 fs, w a = some (k0, .inr (ci, fs)) ∧ j < fs.length ∧ P' (xu w a (k0, .inr (ci, fs.set j v)))) (hj : j < N)
    (hlink : Cond.fieldLink own idx (T j).1 (T j).2.1 (T j).2.2.1 ∈ xAll) (hfin : (T j).2.2.2 = true) (hdecl : (T j).1 = own) (hn : narrow (ty0 j) v = v) (hfit : fits (ty0 j) v = true) (hd : decode cc pc = .ok (.putfield idx, 3))
    (kk : xJ p l e R s m args below meth c G nL Q P' k n (pc + 3) lv st) : xJ p l e R s m args below meth c G nL Q P k n pc lv (v :: .ref a :: st) := fun w H locs ls hp hh hs hl => by
  obtain ⟨k0, fs, ha, hlen, hp'⟩ := hv w hp
  obtain ⟨hx, hb, hml, hown, hr, hlk, hE, hB⟩ := Γ
  obtain ⟨hc, hin, hty, hnm⟩ := K
  have hts : ∀ w ∈ xAll, w.before args s = true := fun w hw => hE.w hw
  have hap := va_apart (own := own) hts hin ty0 hty hnm hE.1 hc
  obtain ⟨r, h1, cell, q1, q2, q3, q4⟩ := (hh.2 a _ ha).2
  have hr : r = (C, T, N) := Option.some.inj (h1.symm.trans hc)
  subst hr
  obtain ⟨hS, hfc, kC, hkC, hkind⟩ := hE.1.1 ci _ hc
  obtain ⟨cf, kf, fi, f, hi, hsl⟩ := hS j hj
  have hlay := hts _ (hin _ (u_in_lay hj))
  unfold u_lay at hlay
  rw [if_pos hfin] at hlay
  have hst := (u_facts hfc hkC (u_lays hts hin hj) hi).1
  have hcf : m.cls = cf := by
    obtain ⟨_, _, c', _, _, _, -, -, hf', -, -, -, hown2, -⟩ := Cond.laysFinal_spec hlay
    have e1 : c' = cf := by have := hi.symm.trans hf'; simp at this; exact this.1.symm
    rw [hdecl] at hown2
    rw [← e1]; exact Option.some.inj (hown.symm.trans hown2)
  have h6 := u_fits hfc hkC hkind (Or.inr hlay) hi (hty j hj) hn hfit
  refine W.putFinK hx hb hown (hE.w hlink) hi hst hcf hin2 (by rw [q2]; exact h6) q1 q3 (by rw [hsl]; exact k2_hasslot (q4 j hj)) rfl rfl hd fun H' e1 e2 e3 => ?_
  rw [hsl] at e1 ⊢
  exact kk _ H' _ ls hp' (hh.set ha ⟨_, hc, t_OB.to (V := updV (vp_V fs) j v) ⟨_, e1, q2, q3, t_set q4 hap hj v⟩ (fun i _ => vp_updV_set hlen v i)⟩ e3 e2) (hs.put e2 e3 (hh.2 a _ ha).1) hl
/-! arrays -/
theorem x_iald (Γ : xC p s m meth c G cc nL own rt) {a N : Nat} {f : Nat → Int32} {i : Int32} (hv : ∀ w, P w → ∃ k0, w a = some (k0, .inl (G.2 1, N, .inl f))) (hin : vp_in i N) {x : Int32} (he : f i.toNatClampNeg = x) (hd : decode cc pc = .ok (.iaload, 1))
    (kk : xJ p l e R s m args below meth c G nL Q P k n (pc + 1) lv (.int x :: st)) : xJ p l e R s m args below meth c G nL Q P k n pc lv (.int i :: .ref a :: st) := fun w H locs ls hp hh hs hl => by
  obtain ⟨k0, ha⟩ := hv w hp
  subst he
  exact va_iald Γ.1 Γ.2.1 Γ.2.2.2.2.2.2.1.1 (hh.P ha) 0 0 rfl rfl hin hd (kk w H locs ls hp hh hs hl)
theorem x_lald (Γ : xC p s m meth c G cc nL own rt) {a N : Nat} {f : Nat → Int64} {i : Int32} (hv : ∀ w, P w → ∃ k0, w a = some (k0, .inl (G.2 2, N, .inr (.inl f)))) (hin : vp_in i N) {x : Int64} (he : f i.toNatClampNeg = x) (hd : decode cc pc = .ok (.laload, 1))
    (kk : xJ p l e R s m args below meth c G nL Q P k n (pc + 1) lv (.long x :: st)) : xJ p l e R s m args below meth c G nL Q P k n pc lv (.int i :: .ref a :: st) := fun w H locs ls hp hh hs hl => by
  obtain ⟨k0, ha⟩ := hv w hp
  subst he
  exact va_lald Γ.1 Γ.2.1 Γ.2.2.2.2.2.2.1.1 (hh.P ha) 0 1 rfl rfl hin hd (kk w H locs ls hp hh hs hl)
theorem x_aald (Γ : xC p s m meth c G cc nL own rt) {a N b : Nat} {f : Nat → Option Nat} {i : Int32} (hv : ∀ w, P w → ∃ k0, w a = some (k0, .inl (G.2 3, N, .inr (.inr (.inr (.inr f)))))) (hin : vp_in i N) (he : f i.toNatClampNeg = some b) (hd : decode cc pc = .ok (.aaload, 1))
    (kk : xJ p l e R s m args below meth c G nL Q P k n (pc + 1) lv (.ref b :: st)) : xJ p l e R s m args below meth c G nL Q P k n pc lv (.int i :: .ref a :: st) := fun w H locs ls hp hh hs hl => by
  obtain ⟨k0, ha⟩ := hv w hp
  have h := kk w H locs ls hp hh hs hl
  refine va_aldq Γ.1 Γ.2.1 Γ.2.2.2.2.2.2.1.1 (hh.P ha) 0 2 rfl rfl hin hd ?_
  rw [he]
  exact h
theorem x_alen (Γ : xC p s m meth c G cc nL own rt) {a N : Nat} (hv : ∀ w, P w → ∃ k0 x, (w a = some (k0, .inl (G.2 1, N, x)) ∨ w a = some (k0, .inl (G.2 2, N, x)) ∨ w a = some (k0, .inl (G.2 3, N, x)))) (hd : decode cc pc = .ok (.arraylength, 1))
    (kk : xJ p l e R s m args below meth c G nL Q P k n (pc + 1) lv (.int (nI N) :: st)) : xJ p l e R s m args below meth c G nL Q P k n pc lv (.ref a :: st) := fun w H locs ls hp hh hs hl => by
  obtain ⟨k0, x, ha | ha | ha⟩ := hv w hp
  · exact va_alen Γ.1 Γ.2.1 Γ.2.2.2.2.2.2.1.1 (hh.P ha) 0 0 rfl rfl rfl hd (kk w H locs ls hp hh hs hl)
  · exact va_alen Γ.1 Γ.2.1 Γ.2.2.2.2.2.2.1.1 (hh.P ha) 0 1 rfl rfl rfl hd (kk w H locs ls hp hh hs hl)
  · exact va_alen Γ.1 Γ.2.1 Γ.2.2.2.2.2.2.1.1 (hh.P ha) 0 2 rfl rfl rfl hd (kk w H locs ls hp hh hs hl)
theorem x_iast (Γ : xC p s m meth c G cc nL own rt) {a N : Nat} {f : Nat → Int32} {i x : Int32} (hv : ∀ w, P w → ∃ k0, w a = some (k0, .inl (G.2 1, N, .inl f)) ∧ P' (xu w a (k0, .inl (G.2 1, N, .inl (upd f i.toNatClampNeg x))))) (hin : vp_in i N) (hd : decode cc pc = .ok (.iastore, 1))
    (kk : xJ p l e R s m args below meth c G nL Q P' k n (pc + 1) lv st) : xJ p l e R s m args below meth c G nL Q P k n pc lv (.int x :: .int i :: .ref a :: st) := fun w H locs ls hp hh hs hl => by
  obtain ⟨k0, ha, hp'⟩ := hv w hp
  obtain ⟨hx, hb, hml, hown, hr, hlk, hE, hB⟩ := Γ
  refine W.iast hx hb (hh.2 a _ ha).2 ((hE.1.2 0 _ rfl).1 N (fun j => .int (f j))) (fun q => by cases q) (by show ¬ (i < 0 ∨ (arrV _ _ _).slots.size ≤ _); rw [arrV_size]; exact hin) rfl rfl hd fun H1 e z oq => ?_
  refine kk _ H1 _ ls hp' (hh.set ha ?_ oq z) (hs.put z oq (hh.2 a _ ha).1) hl
  show H1[a]? = some (vp_cell _ _)
  rw [e]
  rw [vp_cell_i, vp_cell_i, arrV_store]
  congr 2
  funext q
  by_cases hq : q = i.toNatClampNeg
  · subst hq
    simp [updV, upd]
  · simp [updV, upd, hq]
theorem x_last (Γ : xC p s m meth c G cc nL own rt) {a N : Nat} {f : Nat → Int64} {i : Int32} {x : Int64} (hv : ∀ w, P w → ∃ k0, w a = some (k0, .inl (G.2 2, N, .inr (.inl f))) ∧ P' (xu w a (k0, .inl (G.2 2, N, .inr (.inl (vp_updL f i.toNatClampNeg x)))))) (hin : vp_in i N) (hd : decode cc pc = .ok (.lastore, 1))
    (kk : xJ p l e R s m args below meth c G nL Q P' k n (pc + 1) lv st) : xJ p l e R s m args below meth c G nL Q P k n pc lv (.long x :: .int i :: .ref a :: st) := fun w H locs ls hp hh hs hl => by
  obtain ⟨k0, ha, hp'⟩ := hv w hp
  obtain ⟨hx, hb, hml, hown, hr, hlk, hE, hB⟩ := Γ
  refine W.last hx hb (hh.2 a _ ha).2 ((hE.1.2 1 _ rfl).1 N (fun j => .long (f j))) (fun q => by cases q) (by show ¬ (i < 0 ∨ (arrV _ _ _).slots.size ≤ _); rw [arrV_size]; exact hin) rfl rfl hd fun H1 e z oq => ?_
  refine kk _ H1 _ ls hp' (hh.set ha ?_ oq z) (hs.put z oq (hh.2 a _ ha).1) hl
  show H1[a]? = some (vp_cell _ _)
  rw [e]
  rw [vp_cell_l, vp_cell_l, arrV_store]
  congr 2
  funext q
  by_cases hq : q = i.toNatClampNeg
  · subst hq
    simp [updV, vp_updL]
  · simp [updV, vp_updL, hq]
theorem xAny (hE : xE G s s.heap) {w : xW} {H : Heap} (hh : xH G w H) {v k1 ci : Nat} {fs : List Value} {q : vw_C} (hv : w v = some (k1, .inr (ci, fs))) (hc : vwCl[ci]? = some q) (hca : Cond.castable q.1 "java/lang/Object" ∈ xAll) : va_Any "java/lang/Object" s H v := by
  refine va_rAny hE.1 (hh.P hv) (q0 := 0) rfl hc (fun comp c0 h1 h2 => ?_)
  obtain ⟨a0, b0, f1, f2, f3⟩ := Cond.castable_spec (hE.w (args := #[]) hca)
  cases h2.symm.trans f1
  cases h1.symm.trans f2
  exact f3
theorem x_aast (Γ : xC p s m meth c G cc nL own rt) {a N v : Nat} {f : Nat → Option Nat} {i : Int32} (hv : ∀ w, P w → ∃ k0, w a = some (k0, .inl (G.2 3, N, .inr (.inr (.inr (.inr f))))) ∧ P' (xu w a (k0, .inl (G.2 3, N, .inr (.inr (.inr (.inr (va_up f i.toNatClampNeg (some v)))))))))
    (hel : ∀ w, P w → ∃ k1 ci fs, w v = some (k1, .inr (ci, fs)) ∧ ∃ q, vwCl[ci]? = some q ∧ Cond.castable q.1 "java/lang/Object" ∈ xAll) (hin : vp_in i N) (hd : decode cc pc = .ok (.aastore, 1))
    (kk : xJ p l e R s m args below meth c G nL Q P' k n (pc + 1) lv st) : xJ p l e R s m args below meth c G nL Q P k n pc lv (.ref v :: .int i :: .ref a :: st) := fun w H locs ls hp hh hs hl => by
  obtain ⟨k0, ha, hp'⟩ := hv w hp
  obtain ⟨hx, hb, hml, hown, hr, hlk, hE, hB⟩ := Γ
  obtain ⟨k1, ci, fs, hv1, q, hq, hca⟩ := hel w hp
  obtain ⟨cellV, g1, g3, ⟨kC, hkC⟩, hasg⟩ := xAny hE hh hv1 hq hca
  have hlt : i.toNatClampNeg < N := Nat.not_le.mp fun q => hin (Or.inr q)
  have h0 : ¬ i < 0 := fun q => hin (Or.inl q)
  obtain ⟨kA, comp, k1, k2, k3, -⟩ := (hE.1.2 2 _ rfl).2
  obtain ⟨kE, hkE, -⟩ := Vm.findClass_spec k3
  refine W.aast hx hb (hh.2 a _ ha).2 (fun q h => by cases h) (fun h => by cases h) k1 k2 rfl hkE ⟨h0, by show _ < (arrV _ _ _).slots.size; rw [arrV_size]; exact hlt⟩ g1 (fun q h => by rw [h] at g3; cases g3) hkC (hasg _ k3) rfl rfl hd fun H1 e z oq => ?_
  refine kk _ H1 _ ls hp' (hh.set ha ?_ oq z) (hs.put z oq (hh.2 a _ ha).1) hl
  show H1[a]? = some (vp_cell _ _)
  rw [e]
  rw [vp_cell_q, vp_cell_q, arrV_store]
  congr 2
  funext q
  by_cases hq : q = i.toNatClampNeg
  · subst hq
    simp [updV, va_up, va_rf]
  · simp [updV, va_up, hq]
theorem x_aastN (Γ : xC p s m meth c G cc nL own rt) {a N : Nat} {f : Nat → Option Nat} {i : Int32} (hv : ∀ w, P w → ∃ k0, w a = some (k0, .inl (G.2 3, N, .inr (.inr (.inr (.inr f))))) ∧ P' (xu w a (k0, .inl (G.2 3, N, .inr (.inr (.inr (.inr (va_up f i.toNatClampNeg none)))))))) (hin : vp_in i N) (hd : decode cc pc = .ok (.aastore, 1))
    (kk : xJ p l e R s m args below meth c G nL Q P' k n (pc + 1) lv st) : xJ p l e R s m args below meth c G nL Q P k n pc lv (.null :: .int i :: .ref a :: st) := fun w H locs ls hp hh hs hl => by
  obtain ⟨k0, ha, hp'⟩ := hv w hp
  obtain ⟨hx, hb, hml, hown, hr, hlk, hE, hB⟩ := Γ
  refine va_WaastN (C := "java/lang/Object") hx hb (hh.2 a _ ha).2 ((hE.1.2 2 _ rfl).1 N (fun j => va_rf (f j))) (fun h => by cases h) (by show ¬ (i < 0 ∨ (arrV _ _ _).slots.size ≤ _); rw [arrV_size]; exact hin) rfl rfl hd fun H1 e z oq => ?_
  refine kk _ H1 _ ls hp' (hh.set ha ?_ oq z) (hs.put z oq (hh.2 a _ ha).1) hl
  show H1[a]? = some (vp_cell _ _)
  rw [e]
  rw [vp_cell_q, vp_cell_q, arrV_store]
  congr 2
  funext q
  by_cases hq : q = i.toNatClampNeg
  · subst hq
    simp [updV, va_up, va_rf]
  · simp [updV, va_up, hq]
/-! makings -/
theorem x_new (Γ : xC p s m meth c G cc nL own rt) {C : String} {T : u_T} {N ci idx : Nat} {ty0 : Nat → FieldType} (K : xKl C T N ci ty0) (fs : List Value) (col : Nat) {F : Nat → xW → Prop} (hfs : ∀ j, j < N → defaultValue (ty0 j) = vp_V fs j) (hcl : Cond.classLink own idx C ∈ xAll) (hinst : Cond.instantiable C N ∈ xAll) (hini : Cond.initialized C ∈ xAll)
    (hv : ∀ w a, P w → w a = none → F a (xu w a (col, .inr (ci, fs)))) (hR : k + 1 ≤ R.cells ∧ n + N ≤ R.slots) (hd : decode cc pc = .ok (.new idx, 3))
    (kk : ∀ a, xJ p l e R s m args below meth c G nL Q (F a) (k + 1) (n + N) (pc + 3) lv (.ref a :: st)) : xJ p l e R s m args below meth c G nL Q P k n pc lv st := fun w H locs ls hp hh hs hl => by
  obtain ⟨hx, hb, hml, hown, hr, hlk, hE, hB⟩ := Γ
  obtain ⟨hc, hin, hty, hnm⟩ := K
  have hts : ∀ w ∈ xAll, w.before args s = true := fun w hw => hE.w hw
  have hKn := hE.1.1 ci _ hc
  refine W.newcK hx hb hown (hE.w hcl) (hE.w hinst) (hE.w hini) rfl hd hR.1 hR.2 hKn.2.1 rfl fun H1 kC hkC e1 z1 o1 => ?_
  exact kk H.size _ H1 locs ls (hv w H.size hp hh.none) (hh.new ⟨_, hc, (u_born ty0 hts hin hKn hkC e1 hty).to hfs⟩ z1 o1) ⟨Nat.le_trans hs.1 (by omega), fun x h1 h2 => (o1 x (Nat.lt_of_lt_of_le h1 hs.1)).trans (hs.2.1 x h1 h2), hs.2.2⟩ hl
theorem x_newI (Γ : xC p s m meth c G cc nL own rt) (col : Nat) {F : Nat → xW → Prop} {i : Int32} {N : Nat} (hi : i = nI N) (hN : N < 100000) (hv : ∀ w a, P w → w a = none → F a (xu w a (col, .inl (G.2 1, N, .inl (fun _ => 0))))) (hR : k + 1 ≤ R.cells ∧ n + N ≤ R.slots) (hd : decode cc pc = .ok (.newarray .int, 2))
    (kk : ∀ a, xJ p l e R s m args below meth c G nL Q (F a) (k + 1) (n + N) (pc + 2) lv (.ref a :: st)) : xJ p l e R s m args below meth c G nL Q P k n pc lv (.int i :: st) := fun w H locs ls hp hh hs hl => by
  obtain ⟨hx, hb, hml, hown, hr, hlk, hE, hB⟩ := Γ
  subst hi
  refine va_newaK (atype := .int) hx hb (word_at (State.WarmedH.refl s) (Or.inr ⟨_, rfl⟩) hE.2.2.1) rfl hd rfl (nI_pos (by omega)) (nI_clamp (by omega)) (show N * 4 ≤ 536870912 by omega) hR.1 hR.2 rfl fun H1 cA e1 z1 o1 hAr hNm => ?_
  have hcA : cA = G.2 1 := Option.some.inj (hNm.symm.trans (hE.1.2 0 _ rfl).2)
  subst hcA
  exact kk H.size _ H1 locs ls (hv w H.size hp hh.none) (hh.new e1 z1 o1) ⟨Nat.le_trans hs.1 (by omega), fun x h1 h2 => (o1 x (Nat.lt_of_lt_of_le h1 hs.1)).trans (hs.2.1 x h1 h2), hs.2.2⟩ hl
theorem x_newL (Γ : xC p s m meth c G cc nL own rt) (col : Nat) {F : Nat → xW → Prop} {i : Int32} {N : Nat} (hi : i = nI N) (hN : N < 100000) (hv : ∀ w a, P w → w a = none → F a (xu w a (col, .inl (G.2 2, N, .inr (.inl (fun _ => 0)))))) (hR : k + 1 ≤ R.cells ∧ n + N ≤ R.slots) (hd : decode cc pc = .ok (.newarray .long, 2))
    (kk : ∀ a, xJ p l e R s m args below meth c G nL Q (F a) (k + 1) (n + N) (pc + 2) lv (.ref a :: st)) : xJ p l e R s m args below meth c G nL Q P k n pc lv (.int i :: st) := fun w H locs ls hp hh hs hl => by
  obtain ⟨hx, hb, hml, hown, hr, hlk, hE, hB⟩ := Γ
  subst hi
  refine va_newaK (atype := .long) hx hb (word_at (State.WarmedH.refl s) (Or.inr ⟨_, rfl⟩) hE.2.2.2.1) rfl hd rfl (nI_pos (by omega)) (nI_clamp (by omega)) (show N * 8 ≤ 536870912 by omega) hR.1 hR.2 rfl fun H1 cA e1 z1 o1 hAr hNm => ?_
  have hcA : cA = G.2 2 := Option.some.inj (hNm.symm.trans (hE.1.2 1 _ rfl).2)
  subst hcA
  exact kk H.size _ H1 locs ls (hv w H.size hp hh.none) (hh.new e1 z1 o1) ⟨Nat.le_trans hs.1 (by omega), fun x h1 h2 => (o1 x (Nat.lt_of_lt_of_le h1 hs.1)).trans (hs.2.1 x h1 h2), hs.2.2⟩ hl
theorem x_newA (Γ : xC p s m meth c G cc nL own rt) (col : Nat) {F : Nat → xW → Prop} {i : Int32} {N idx : Nat} (hi : i = nI N) (hN : N < 100000) (hcl : Cond.classLink own idx "java/lang/Object" ∈ xAll) (hv : ∀ w a, P w → w a = none → F a (xu w a (col, .inl (G.2 3, N, .inr (.inr (.inr (.inr (fun _ => none)))))))) (hR : k + 1 ≤ R.cells ∧ n + N ≤ R.slots) (hd : decode cc pc = .ok (.anewarray idx, 3))
    (kk : ∀ a, xJ p l e R s m args below meth c G nL Q (F a) (k + 1) (n + N) (pc + 3) lv (.ref a :: st)) : xJ p l e R s m args below meth c G nL Q P k n pc lv (.int i :: st) := fun w H locs ls hp hh hs hl => by
  obtain ⟨hx, hb, hml, hown, hr, hlk, hE, hB⟩ := Γ
  subst hi
  have hcl0 : (nI N).toNatClampNeg = N := nI_clamp (by omega)
  refine W.anew hx hb hown (hE.w hcl) (va_AO.use hE.2.2.2.2.1) rfl hd rfl (nI_pos (by omega)) (by rw [hcl0]; omega) hR.1 (by rw [hcl0]; exact hR.2) fun cA kA comp f1 f2 f3 f4 => ?_
  rw [hcl0]
  generalize hH1 : H.push ({ cls := cA, slots := Array.replicate N .null, vm := .none } : Cell) = H1
  have z1 : H1.size = H.size + 1 := by rw [← hH1, Array.size_push]
  have e1 : H1[H.size]? = some (arrV cA N (fun _ => .null)) := by rw [← hH1, Array.getElem?_push_size, ← arrV_new]
  have o1 : ∀ q : Nat, q < H.size → H1[q]? = H[q]? := fun q hq => by rw [← hH1, Array.getElem?_push, if_neg (Nat.ne_of_lt hq)]
  have hcA : cA = G.2 3 := by
    obtain ⟨kA', comp', k1, k2, k3, k4⟩ := (hE.1.2 2 _ rfl).2
    exact Option.some.inj (f1.symm.trans k4)
  subst hcA
  refine kk H.size _ H1 locs ls (hv w H.size hp hh.none) (hh.new ?_ z1 o1) ⟨Nat.le_trans hs.1 (by omega), fun x h1 h2 => (o1 x (Nat.lt_of_lt_of_le h1 hs.1)).trans (hs.2.1 x h1 h2), hs.2.2⟩ hl
  show H1[H.size]? = some (vp_cell _ _)
  rw [vp_cell_q]
  exact e1
end XHP
end
section
theorem at_IAE : ∀ w ∈ vx_atS RX2 53 "java/lang/IllegalArgumentException" ["java/lang/RuntimeException", "java/lang/Exception"], w ∈ xAll := xAll_list [39, 164, 173, 177, 180, 182, 165, 166, 58, 59, 167, 172, 178, 198, 154, 199, 156, 200, 158, 168, 170, 160, 194, 195, 197, 160, 185, 186, 187, 188, 146, 188, 189, 190, 191, 148, 191, 192, 193, 194, 150, 184, 143, 144, 151, 152, 153, 155, 157, 159, 163, 162, 161] (by decide +kernel) (by decide +kernel)
theorem at_ISE : ∀ w ∈ vx_atS RX2 75 "java/lang/IllegalStateException" ["java/lang/RuntimeException", "java/lang/Exception"], w ∈ xAll := xAll_list [39, 164, 173, 177, 180, 182, 165, 166, 58, 59, 167, 172, 178, 198, 154, 199, 156, 200, 158, 168, 170, 160, 194, 195, 197, 160, 264, 265, 266, 188, 146, 188, 189, 190, 191, 148, 191, 192, 193, 194, 150, 263, 254, 255, 256, 175, 257, 258, 259, 260, 163, 162, 261] (by decide +kernel) (by decide +kernel)
theorem at_IOE : ∀ w ∈ vx_atS RX2 180 "java/lang/IndexOutOfBoundsException" ["java/lang/RuntimeException", "java/lang/Exception"], w ∈ xAll := xAll_list [39, 164, 173, 177, 180, 182, 165, 166, 58, 59, 167, 172, 178, 198, 154, 199, 156, 200, 158, 168, 170, 160, 194, 195, 197, 160, 419, 420, 421, 188, 146, 188, 189, 190, 191, 148, 191, 192, 193, 194, 150, 418, 409, 410, 411, 176, 412, 413, 414, 415, 163, 162, 416] (by decide +kernel) (by decide +kernel)
section XCL
theorem xMet_of {α : Type} {l : Launch} {G : xG} {y : MethodName} {cc : ByteArray} {maxL : Nat} {rt : Option FieldType} {rm : Room} {av : List Value} {w : xW} {emb : α → Option Value} {post : α → xW → Prop} (hy : plainName y.cls = true) (hn : (lg_sl av).length ≤ maxL)
    (body : ∀ p e s m below meth c, xC p s m meth c G cc maxL y.cls rt → meth.name = y.name → xJ p l e rm s m av.toArray below meth c G maxL (MQ below (xQ G emb post) av.toArray s rm.cells rm.slots (xA G)) (fun w' => w' = w) 0 0 0 (lv_args 0 av) []) : xMet l G y cc maxL rt rm av w emb post := by
  refine Met.ofW (cc := cc) (maxL := maxL) (ret := rt) hy rfl ?_
  intro p e s m args below meth c s₁ B hml hv
  obtain ⟨rfl, hE, hH⟩ := hv
  rw [lg_entry_eq]
  exact body p e s m below meth c ⟨B.exec, B.bytes, hml, findClass_of_methodNamed B.named, B.returns, B.notSynchronized, hE, hH.1⟩ (name_of_methodNamed B.named B.method).1 w s.heap [] _ rfl hH va_S.rf (lv_entry av hn)
theorem xMet_ofF {α : Type} {l : Launch} {G : xG} {y : MethodName} {cc : ByteArray} {maxL : Nat} {rt : Option FieldType} {rm : Room} {av : List Value} {w : xW} {emb : α → Option Value} {post : α → xW → Prop} (hy : plainFor y = true) (hn : (lg_sl av).length ≤ maxL)
    (body : ∀ p e s m below meth c, xC p s m meth c G cc maxL y.cls rt → meth.name = y.name → xJ p l e rm s m av.toArray below meth c G maxL (MQ below (xQ G emb post) av.toArray s rm.cells rm.slots (xA G)) (fun w' => w' = w) 0 0 0 (lv_args 0 av) []) : xMet l G y cc maxL rt rm av w emb post := by
  refine va_MetF (cc := cc) (maxL := maxL) (ret := rt) hy rfl ?_
  intro p e s m args below meth c s₁ B hml hv
  obtain ⟨rfl, hE, hH⟩ := hv
  rw [lg_entry_eq]
  exact body p e s m below meth c ⟨B.exec, B.bytes, hml, findClass_of_methodNamed B.named, B.returns, B.notSynchronized, hE, hH.1⟩ (name_of_methodNamed B.named B.method).1 w s.heap [] _ rfl hH va_S.rf (lv_entry av hn)
theorem xMetX_of {α : Type} {l : Launch} {G : xG} {y : MethodName} {cc : ByteArray} {maxL : Nat} {rt : Option FieldType} {rm : Room} {av : List Value} {w : xW} {emb : α → Option Value} {post : α → xW → Prop} {px : String → xW → Prop} (hy : plainName y.cls = true) (hn : (lg_sl av).length ≤ maxL)
    (body : ∀ p e s m below meth c, xC p s m meth c G cc maxL y.cls rt → (∀ x ∈ c.exceptionTable.toList, False) → xJ p l e rm s m av.toArray below meth c G maxL (vx_MQ below (xQ G emb post) (xX G px) av.toArray s rm.cells rm.slots (xA G)) (fun w' => w' = w) 0 0 0 (lv_args 0 av) []) : xMetX l G y cc maxL rt rm av w emb post px := by
  refine vx_ofW (cc := cc) (maxL := maxL) (ret := rt) hy rfl ?_
  intro p e s m args below meth c s₁ B hml ht hv
  obtain ⟨rfl, hE, hH⟩ := hv
  rw [lg_entry_eq]
  exact body p e s m below meth c ⟨B.exec, B.bytes, hml, findClass_of_methodNamed B.named, B.returns, B.notSynchronized, hE, hH.1⟩ ht w s.heap [] _ rfl hH va_S.rf (lv_entry av hn)
variable {p : Program} {l : Launch} {e : Env} {R : Room} {s : State} {m : MethodId} {args : Array Value} {below : List Frame} {meth : Method} {c : Code} {G : xG} {cc : ByteArray} {nL : Nat} {own : String} {rt : Option FieldType} {Q : State → Prop} {P P' : xW → Prop} {k n pc : Nat} {lv : List (Nat × Value)} {st : List Value}
/-! returns -/
theorem x_iret (Γ : xC p s m meth c G cc nL own rt) {post : Int32 → xW → Prop} {kc nc : Nat} {ty : FieldType} {v : Int32} (hrt : rt = some ty) (hn : narrow ty (.int v) = .int v) (hp : ∀ w, P w → post v w) (hk : k ≤ kc ∧ n ≤ nc) (hd : decode cc pc = .ok (.ireturn, 1)) :
    xJ p l e R s m args below meth c G nL (MQ below (xQ G embI post) args s kc nc (xA G)) P k n pc lv [.int v] := fun w H locs ls hpw hh hs hl => by
  obtain ⟨hx, hb, hml, hown, hr, hlk, hE, hB⟩ := Γ
  exact W.widen hk.1 hk.2 (W.zret hx hb (hr.trans hrt) hn (fun t ht hW => ⟨⟨v, w, rfl, hp w hpw, by rw [ht]; exact hh⟩, hs.F ht⟩) hs.2.2 hd hlk)
theorem x_vret (Γ : xC p s m meth c G cc nL own rt) {post : Unit → xW → Prop} {kc nc : Nat} (hrt : rt = none) (hp : ∀ w, P w → post () w) (hk : k ≤ kc ∧ n ≤ nc) (hd : decode cc pc = .ok (.return_, 1)) :
    xJ p l e R s m args below meth c G nL (MQ below (xQ G embV post) args s kc nc (xA G)) P k n pc lv [] := fun w H locs ls hpw hh hs hl => by
  obtain ⟨hx, hb, hml, hown, hr, hlk, hE, hB⟩ := Γ
  exact W.widen hk.1 hk.2 (W.vret hx hb (hr.trans hrt) (fun t ht hW => ⟨⟨(), w, rfl, hp w hpw, by rw [ht]; exact hh⟩, hs.F ht⟩) hs.2.2 hd hlk)
theorem x_aret (Γ : xC p s m meth c G cc nL own rt) {post : Nat → xW → Prop} {kc nc : Nat} {ty : FieldType} {v : Nat} (hrt : rt = some ty) (hty : (∃ n, ty = .object n) ∨ ∃ t, ty = .array t) (hp : ∀ w, P w → post v w) (hk : k ≤ kc ∧ n ≤ nc) (hd : decode cc pc = .ok (.areturn, 1)) :
    xJ p l e R s m args below meth c G nL (MQ below (xQ G embA post) args s kc nc (xA G)) P k n pc lv [.ref v] := fun w H locs ls hpw hh hs hl => by
  obtain ⟨hx, hb, hml, hown, hr, hlk, hE, hB⟩ := Γ
  exact W.widen hk.1 hk.2 (W.aret hx hb (hr.trans hrt) hty (Or.inr ⟨_, rfl⟩) (fun t ht hW => ⟨⟨v, w, rfl, hp w hpw, by rw [ht]; exact hh⟩, hs.F ht⟩) hs.2.2 hd hlk)
theorem x_ends {Qc : Array Value → State → Outcome → State → Prop} {XC : String → State → State → Prop} {kc nc : Nat} {free : Addr → Prop} (kk : xJ p l e R s m args below meth c G nL (MQ below Qc args s kc nc free) P k n pc lv st) : xJ p l e R s m args below meth c G nL (vx_MQ below Qc XC args s kc nc free) P k n pc lv st :=
  fun w H locs ls hp hh hs hl => vx_ret (kk w H locs ls hp hh hs hl)
/-! calls -/
theorem x_call {α : Type} {emb : α → Option Value} {post : xW → α → xW → Prop} {mc ms : Nat} {st0 : List Value} {a : Array Value} (hr : ∀ w H locs ls, P w → xH G w H → va_S (xA G) s.heap H locs → lv_has ls nL lv → va_Run p l e R s m args below meth c H locs k n mc ms (F0 m pc ls st0) st (xQ G emb (post w) a) (xA G))
    (kk : ∀ v, xJ p l e R s m args below meth c G nL Q (fun w' => ∃ w, P w ∧ post w v w') (k + mc) (n + ms) (pc + 3) lv ((emb v).toList ++ st)) : xJ p l e R s m args below meth c G nL Q P k n pc lv st0 := fun w H locs ls hp hh hs hl => by
  intro T hT X
  obtain ⟨v, st₀, t, T', L, h0, X', hL, e1, e2, ⟨⟨u, w', hv, hpo, hh'⟩, hF⟩, st9⟩ := hr w H locs ls hp hh hs hl T hT X
  cases hv
  obtain ⟨k1, k2, k3⟩ := vx_keep h0 e1 hs (fun _ _ h => h) (fun _ h => h) hL hF
  obtain ⟨t2, a1, b1⟩ := kk u w' T'.heap (locs ++ L) ls ⟨w, hp, hpo⟩ (by rw [e1]; exact hh') k3 hl T' rfl X'
  exact ⟨t2, st9 t2 a1, b1⟩
theorem x_callX {α : Type} {emb : α → Option Value} {post : xW → α → xW → Prop} {px : xW → String → xW → Prop} {PX : String → xW → Prop} {Qc : Array Value → State → Outcome → State → Prop} {kc nc : Nat} {mc ms : Nat} {st0 : List Value} {a : Array Value} (hlk : meth.locks = false) (hout : ∀ x ∈ c.exceptionTable.toList, False) (hx : ∀ w E w', P w → px w E w' → PX E w') (hk : k + mc ≤ kc ∧ n + ms ≤ nc)
    (hr : ∀ w H locs ls, P w → xH G w H → va_S (xA G) s.heap H locs → lv_has ls nL lv → vx_Run p l e R s m args below meth c H locs k n mc ms (F0 m pc ls st0) st (xQ G emb (post w) a) (xX G (px w)) (xA G))
    (kk : ∀ v, xJ p l e R s m args below meth c G nL (vx_MQ below Qc (xX G PX) args s kc nc (xA G)) (fun w' => ∃ w, P w ∧ post w v w') (k + mc) (n + ms) (pc + 3) lv ((emb v).toList ++ st)) : xJ p l e R s m args below meth c G nL (vx_MQ below Qc (xX G PX) args s kc nc (xA G)) P k n pc lv st0 := fun w H locs ls hp hh hs hl => by
  intro T hT X
  rcases hr w H locs ls hp hh hs hl T hT X with ⟨v, st₀, t, T', L, h0, X', hL, e1, e2, ⟨⟨u, w', hv, hpo, hh'⟩, hF⟩, st9⟩ | ⟨q, st₀, t, T', L, E, ce, h0, X', hL, e1, e2, ⟨⟨w', hpx, hh'⟩, hF⟩, hce, hcv, hcl, st9⟩
  · cases hv
    obtain ⟨k1, k2, k3⟩ := vx_keep h0 e1 hs (fun _ _ h => h) (fun _ h => h) hL hF
    obtain ⟨t2, a1, b1⟩ := kk u w' T'.heap (locs ++ L) ls ⟨w, hp, hpo⟩ (by rw [e1]; exact hh') k3 hl T' rfl X'
    exact ⟨t2, st9 t2 a1, b1⟩
  · obtain ⟨k1, k2, k3⟩ := vx_keep h0 e1 hs (fun _ _ h => h) (fun _ h => h) hL hF
    obtain ⟨t2, a1, b1⟩ := vx_out (p := p) (l := l) (e := e) (R := R) (s := s) (m := m) (args := args) (below := below) (meth := meth) (c := c) (H := T'.heap) (locs := locs ++ L) (cells := k + mc) (slots := n + ms) (Qc := Qc) (XC := xX G PX) (free := xA G) (ls := ls) (rest := st) (pc := pc) (fun x hx => (hout x hx).elim) hlk (by rw [e1]; exact hce) hcv hcl
      (fun t' ht' _ => ⟨⟨w', hx w E w' hp hpx, by rw [ht', e1]; exact hh'⟩, k3.F ht'⟩) k3.2.2 hk.1 hk.2 T' rfl X'
    exact ⟨t2, st9.trans a1, b1⟩
theorem xCallB (Γ : xC p s m meth c G cc nL own rt) {y : MethodName} {bytes : ByteArray} {maxL N idx : Nat} {ret : Option FieldType} {rm : Room} (hcode : Cond.code y bytes maxL ret ∈ xAll) (hini : Cond.initialized y.cls ∈ xAll) (hlink : Cond.methodLink own idx y ∈ xAll)
    (hd : y.cls ≠ "java/lang/invoke/MethodHandle" ∧ y.cls ≠ "java/lang/invoke/VarHandle" ∧ (parseMethodDescriptor y.desc).map (fun d => d.parameters.length) = some N) (hR : rm.frames + 1 ≤ R.frames ∧ 8 + (maxL + 11) + rm.locals ≤ R.locals) :
    CallB R s args own idx y bytes maxL ret [.code y bytes maxL ret] rm rm.cells rm.slots N := by
  obtain ⟨hx, hb, hml, hown, hr, hlk, hE, hB⟩ := Γ
  refine ⟨rfl, rfl, hR.1, hR.2, fun w hw a' U hW => ?_, List.mem_cons_self, hE.w hcode, hE.w hini, ⟨hd.1, hd.2.1⟩, fun sig h => ?_, hE.w hlink⟩
  · rcases List.mem_singleton.mp hw with rfl
    exact va_Nw.use (xAll_tb hcode) (xNw_warm (xAll_ok hcode) hW (hE.2.1 _ hcode))
  · have h2 := hd.2.2
    rw [h] at h2
    exact (Option.some.inj h2).symm
theorem xCN (Γ : xC p s m meth c G cc nL own rt) {y : MethodName} {host : String} {bytes : ByteArray} {maxL N idx : Nat} {ret : Option FieldType} {rm : Room} (hcode : Cond.code y bytes maxL ret ∈ xAll) (hini : Cond.initialized y.cls ∈ xAll) (hlink : Cond.methodLinkNest own idx y host ∈ xAll)
    (hd : y.cls ≠ "java/lang/invoke/MethodHandle" ∧ y.cls ≠ "java/lang/invoke/VarHandle" ∧ (parseMethodDescriptor y.desc).map (fun d => d.parameters.length) = some N) (hR : rm.frames + 1 ≤ R.frames ∧ 8 + (maxL + 11) + rm.locals ≤ R.locals) :
    va_CN R s args own idx y host bytes maxL ret [.code y bytes maxL ret] rm rm.cells rm.slots N := by
  obtain ⟨hx, hb, hml, hown, hr, hlk, hE, hB⟩ := Γ
  refine ⟨⟨rfl, rfl, hR.1, hR.2, fun w hw a' U hW => ?_, List.mem_cons_self⟩, hE.w hcode, hE.w hini, ⟨hd.1, hd.2.1⟩, fun sig h => ?_, hE.w hlink⟩
  · rcases List.mem_singleton.mp hw with rfl
    exact va_Nw.use (xAll_tb hcode) (xNw_warm (xAll_ok hcode) hW (hE.2.1 _ hcode))
  · have h2 := hd.2.2
    rw [h] at h2
    exact (Option.some.inj h2).symm
theorem xFix (Γ : xC p s m meth c G cc nL own rt) : CallFix p m c cc nL s args xAll own := ⟨Γ.1, Γ.2.1, Γ.2.2.1, Γ.2.2.2.1, fun w hw => Γ.2.2.2.2.2.2.1.w hw⟩
theorem xPre (Γ : xC p s m meth c G cc nL own rt) {w : xW} {H : Heap} {locs : List Loc} (hh : xH G w H) (hs : va_S (xA G) s.heap H locs) (As : List Value) : PreS s H (xPc G As w) As :=
  ⟨xPc.blind, fun U hU hW => ⟨rfl, Γ.2.2.2.2.2.2.1.next hW (fun a h1 h2 => by rw [hU]; exact hs.2.1 a h1 h2), by rw [hU]; exact hh⟩⟩
theorem xPreV (Γ : xC p s m meth c G cc nL own rt) {w : xW} {H : Heap} {locs : List Loc} (hh : xH G w H) (hs : va_S (xA G) s.heap H locs) {b k0 ci : Nat} {fs : List Value} {C : String} {T : u_T} {N : Nat} (hb : w b = some (k0, .inr (ci, fs))) (hc : vwCl[ci]? = some (C, T, N)) (As : List Value) : PreV s H C b (xPc G (.ref b :: As) w) As :=
  ⟨xPc.blind, va_recv Γ.2.2.2.2.2.2.1.1 (hh.P hb) (q0 := 0) hc rfl, (xPre Γ hh hs _).2⟩
theorem x_invV {α : Type} {emb : α → Option Value} (Γ : xC p s m meth c G cc nL own rt) {y : MethodName} {bytes : ByteArray} {maxL idx b ci : Nat} {ret : Option FieldType} {rm : Room} {T : u_T} {N : Nat} {st0 : List Value} (As : List Value) (post : xW → α → xW → Prop) (hst : st0 = As.reverse ++ .ref b :: st)
    (hM : ∀ w, P w → xMet l G y bytes maxL ret rm (.ref b :: As) w emb (post w)) (hb : ∀ w, P w → ∃ k0 fs, w b = some (k0, .inr (ci, fs))) (hc : vwCl[ci]? = some (y.cls, T, N))
    (hcode : Cond.code y bytes maxL ret ∈ xAll) (hini : Cond.initialized y.cls ∈ xAll) (hlink : Cond.methodLink own idx y ∈ xAll) (hin : Cond.instanceMethod y ∈ xAll) (hsel : Cond.selects y.cls y y ∈ xAll)
    (hdd : y.cls ≠ "java/lang/invoke/MethodHandle" ∧ y.cls ≠ "java/lang/invoke/VarHandle" ∧ (parseMethodDescriptor y.desc).map (fun d => d.parameters.length) = some As.length) (hR : rm.frames + 1 ≤ R.frames ∧ 8 + (maxL + 11) + rm.locals ≤ R.locals) (hf : k + rm.cells ≤ R.cells ∧ n + rm.slots ≤ R.slots) (hW : (st.map fun v => v.category).sum ≤ 8) (hd : decode cc pc = .ok (.invokevirtual idx, 3))
    (kk : ∀ v, xJ p l e R s m args below meth c G nL Q (fun w' => ∃ w, P w ∧ post w v w') (k + rm.cells) (n + rm.slots) (pc + 3) lv ((emb v).toList ++ st)) : xJ p l e R s m args below meth c G nL Q P k n pc lv st0 := by
  subst hst
  refine x_call (emb := emb) (post := post) (mc := rm.cells) (ms := rm.slots) (a := (.ref b :: As).toArray) (fun w H locs ls hp hh hs hl => ?_) kk
  obtain ⟨k0, fs, hbw⟩ := hb w hp
  exact va_runV (As := As) (rest := st) (xFix Γ) (hM w hp) ⟨xCallB Γ hcode hini hlink hdd hR, Γ.2.2.2.2.2.2.1.w hin, Γ.2.2.2.2.2.2.1.w hsel⟩ (xPreV Γ hh hs hbw hc As) rfl rfl hl.1 rfl (lv_room hW) hd hf
theorem x_invVN {α : Type} {emb : α → Option Value} (Γ : xC p s m meth c G cc nL own rt) {y : MethodName} {host : String} {bytes : ByteArray} {maxL idx b ci : Nat} {ret : Option FieldType} {rm : Room} {T : u_T} {N : Nat} {st0 : List Value} (As : List Value) (post : xW → α → xW → Prop) (hst : st0 = As.reverse ++ .ref b :: st)
    (hM : ∀ w, P w → xMet l G y bytes maxL ret rm (.ref b :: As) w emb (post w)) (hb : ∀ w, P w → ∃ k0 fs, w b = some (k0, .inr (ci, fs))) (hc : vwCl[ci]? = some (y.cls, T, N))
    (hcode : Cond.code y bytes maxL ret ∈ xAll) (hini : Cond.initialized y.cls ∈ xAll) (hlink : Cond.methodLinkNest own idx y host ∈ xAll) (hin : Cond.instanceMethod y ∈ xAll) (hsel : Cond.selects y.cls y y ∈ xAll)
    (hdd : y.cls ≠ "java/lang/invoke/MethodHandle" ∧ y.cls ≠ "java/lang/invoke/VarHandle" ∧ (parseMethodDescriptor y.desc).map (fun d => d.parameters.length) = some As.length) (hR : rm.frames + 1 ≤ R.frames ∧ 8 + (maxL + 11) + rm.locals ≤ R.locals) (hf : k + rm.cells ≤ R.cells ∧ n + rm.slots ≤ R.slots) (hW : (st.map fun v => v.category).sum ≤ 8) (hd : decode cc pc = .ok (.invokevirtual idx, 3))
    (kk : ∀ v, xJ p l e R s m args below meth c G nL Q (fun w' => ∃ w, P w ∧ post w v w') (k + rm.cells) (n + rm.slots) (pc + 3) lv ((emb v).toList ++ st)) : xJ p l e R s m args below meth c G nL Q P k n pc lv st0 := by
  subst hst
  refine x_call (emb := emb) (post := post) (mc := rm.cells) (ms := rm.slots) (a := (.ref b :: As).toArray) (fun w H locs ls hp hh hs hl => ?_) kk
  obtain ⟨k0, fs, hbw⟩ := hb w hp
  exact va_runVN (As := As) (rest := st) (xFix Γ) (hM w hp) ⟨xCN Γ hcode hini hlink hdd hR, Γ.2.2.2.2.2.2.1.w hin, Γ.2.2.2.2.2.2.1.w hsel⟩ (xPreV Γ hh hs hbw hc As) rfl rfl hl.1 rfl (lv_room hW) hd hf
theorem x_invS {α : Type} {emb : α → Option Value} (Γ : xC p s m meth c G cc nL own rt) {y : MethodName} {bytes : ByteArray} {maxL idx : Nat} {ret : Option FieldType} {rm : Room} {st0 : List Value} (As : List Value) (post : xW → α → xW → Prop) (hst : st0 = As.reverse ++ st)
    (hM : ∀ w, P w → xMet l G y bytes maxL ret rm As w emb (post w))
    (hcode : Cond.code y bytes maxL ret ∈ xAll) (hini : Cond.initialized y.cls ∈ xAll) (hlink : Cond.methodLink own idx y ∈ xAll) (hin : Cond.static y ∈ xAll)
    (hdd : y.cls ≠ "java/lang/invoke/MethodHandle" ∧ y.cls ≠ "java/lang/invoke/VarHandle" ∧ (parseMethodDescriptor y.desc).map (fun d => d.parameters.length) = some As.length) (hR : rm.frames + 1 ≤ R.frames ∧ 8 + (maxL + 11) + rm.locals ≤ R.locals) (hf : k + rm.cells ≤ R.cells ∧ n + rm.slots ≤ R.slots) (hW : (st.map fun v => v.category).sum ≤ 8) (hd : decode cc pc = .ok (.invokestatic idx, 3))
    (kk : ∀ v, xJ p l e R s m args below meth c G nL Q (fun w' => ∃ w, P w ∧ post w v w') (k + rm.cells) (n + rm.slots) (pc + 3) lv ((emb v).toList ++ st)) : xJ p l e R s m args below meth c G nL Q P k n pc lv st0 := by
  subst hst
  exact x_call (emb := emb) (post := post) (mc := rm.cells) (ms := rm.slots) (a := As.toArray) (fun w H locs ls hp hh hs hl => va_runS (As := As) (rest := st) (xFix Γ) (hM w hp) ⟨xCallB Γ hcode hini hlink hdd hR, Γ.2.2.2.2.2.2.1.w hin⟩ (xPre Γ hh hs As) rfl rfl hl.1 rfl (lv_room hW) hd hf) kk
theorem x_invSN {α : Type} {emb : α → Option Value} (Γ : xC p s m meth c G cc nL own rt) {y : MethodName} {host : String} {bytes : ByteArray} {maxL idx : Nat} {ret : Option FieldType} {rm : Room} {st0 : List Value} (As : List Value) (post : xW → α → xW → Prop) (hst : st0 = As.reverse ++ st)
    (hM : ∀ w, P w → xMet l G y bytes maxL ret rm As w emb (post w))
    (hcode : Cond.code y bytes maxL ret ∈ xAll) (hini : Cond.initialized y.cls ∈ xAll) (hlink : Cond.methodLinkNest own idx y host ∈ xAll) (hin : Cond.static y ∈ xAll)
    (hdd : y.cls ≠ "java/lang/invoke/MethodHandle" ∧ y.cls ≠ "java/lang/invoke/VarHandle" ∧ (parseMethodDescriptor y.desc).map (fun d => d.parameters.length) = some As.length) (hR : rm.frames + 1 ≤ R.frames ∧ 8 + (maxL + 11) + rm.locals ≤ R.locals) (hf : k + rm.cells ≤ R.cells ∧ n + rm.slots ≤ R.slots) (hW : (st.map fun v => v.category).sum ≤ 8) (hd : decode cc pc = .ok (.invokestatic idx, 3))
    (kk : ∀ v, xJ p l e R s m args below meth c G nL Q (fun w' => ∃ w, P w ∧ post w v w') (k + rm.cells) (n + rm.slots) (pc + 3) lv ((emb v).toList ++ st)) : xJ p l e R s m args below meth c G nL Q P k n pc lv st0 := by
  subst hst
  exact x_call (emb := emb) (post := post) (mc := rm.cells) (ms := rm.slots) (a := As.toArray) (fun w H locs ls hp hh hs hl => va_runSN (As := As) (rest := st) (xFix Γ) (hM w hp) ⟨xCN Γ hcode hini hlink hdd hR, Γ.2.2.2.2.2.2.1.w hin, trivial⟩ (xPre Γ hh hs As) rfl rfl hl.1 rfl (lv_room hW) hd hf) kk
theorem x_invI (Γ : xC p s m meth c G cc nL own rt) {y : MethodName} {bytes : ByteArray} {maxL idx b : Nat} {rm : Room} {st0 : List Value} (As : List Value) (post : xW → Unit → xW → Prop) (hst : st0 = As.reverse ++ .ref b :: st)
    (hM : ∀ w, P w → xMet l G y bytes maxL none rm (.ref b :: As) w embV (post w)) (hnm : y.name = "<init>")
    (hcode : Cond.code y bytes maxL none ∈ xAll) (hini : Cond.initialized y.cls ∈ xAll) (hlink : Cond.methodLink own idx y ∈ xAll) (hin : Cond.instanceMethod y ∈ xAll)
    (hdd : y.cls ≠ "java/lang/invoke/MethodHandle" ∧ y.cls ≠ "java/lang/invoke/VarHandle" ∧ (parseMethodDescriptor y.desc).map (fun d => d.parameters.length) = some As.length) (hR : rm.frames + 1 ≤ R.frames ∧ 8 + (maxL + 11) + rm.locals ≤ R.locals) (hf : k + rm.cells ≤ R.cells ∧ n + rm.slots ≤ R.slots) (hW : (st.map fun v => v.category).sum ≤ 8) (hd : decode cc pc = .ok (.invokespecial idx, 3))
    (kk : ∀ v, xJ p l e R s m args below meth c G nL Q (fun w' => ∃ w, P w ∧ post w v w') (k + rm.cells) (n + rm.slots) (pc + 3) lv st) : xJ p l e R s m args below meth c G nL Q P k n pc lv st0 := by
  subst hst
  exact x_call (emb := embV) (post := post) (mc := rm.cells) (ms := rm.slots) (a := (.ref b :: As).toArray) (fun w H locs ls hp hh hs hl => va_runI (As := As) (rest := st) (xFix Γ) (hM w hp) ⟨xCallB Γ hcode hini hlink hdd hR, hnm, Γ.2.2.2.2.2.2.1.w hin⟩ (xPre Γ hh hs (.ref b :: As)) rfl rfl hl.1 rfl (lv_room hW) hd hf) kk
theorem x_invIN (Γ : xC p s m meth c G cc nL own rt) {y : MethodName} {host : String} {bytes : ByteArray} {maxL idx b : Nat} {rm : Room} {st0 : List Value} (As : List Value) (post : xW → Unit → xW → Prop) (hst : st0 = As.reverse ++ .ref b :: st)
    (hM : ∀ w, P w → xMet l G y bytes maxL none rm (.ref b :: As) w embV (post w)) (hnm : y.name = "<init>")
    (hcode : Cond.code y bytes maxL none ∈ xAll) (hini : Cond.initialized y.cls ∈ xAll) (hlink : Cond.methodLinkNest own idx y host ∈ xAll) (hin : Cond.instanceMethod y ∈ xAll)
    (hdd : y.cls ≠ "java/lang/invoke/MethodHandle" ∧ y.cls ≠ "java/lang/invoke/VarHandle" ∧ (parseMethodDescriptor y.desc).map (fun d => d.parameters.length) = some As.length) (hR : rm.frames + 1 ≤ R.frames ∧ 8 + (maxL + 11) + rm.locals ≤ R.locals) (hf : k + rm.cells ≤ R.cells ∧ n + rm.slots ≤ R.slots) (hW : (st.map fun v => v.category).sum ≤ 8) (hd : decode cc pc = .ok (.invokespecial idx, 3))
    (kk : ∀ v, xJ p l e R s m args below meth c G nL Q (fun w' => ∃ w, P w ∧ post w v w') (k + rm.cells) (n + rm.slots) (pc + 3) lv st) : xJ p l e R s m args below meth c G nL Q P k n pc lv st0 := by
  subst hst
  exact x_call (emb := embV) (post := post) (mc := rm.cells) (ms := rm.slots) (a := (.ref b :: As).toArray) (fun w H locs ls hp hh hs hl => va_runIN (As := As) (rest := st) (xFix Γ) (hM w hp) ⟨xCN Γ hcode hini hlink hdd hR, hnm, Γ.2.2.2.2.2.2.1.w hin⟩ (xPre Γ hh hs (.ref b :: As)) rfl rfl hl.1 rfl (lv_room hW) hd hf) kk
theorem x_invVX {α : Type} {emb : α → Option Value} (Γ : xC p s m meth c G cc nL own rt) {PX : String → xW → Prop} {Qc : Array Value → State → Outcome → State → Prop} {kc nc : Nat} {y : MethodName} {bytes : ByteArray} {maxL idx b ci : Nat} {ret : Option FieldType} {rm : Room} {T : u_T} {N : Nat} {st0 : List Value} (As : List Value) (post : xW → α → xW → Prop) (px : xW → String → xW → Prop) (hst : st0 = As.reverse ++ .ref b :: st)
    (hM : ∀ w, P w → xMetX l G y bytes maxL ret rm (.ref b :: As) w emb (post w) (px w)) (hout : ∀ x ∈ c.exceptionTable.toList, False) (hx : ∀ w E w', P w → px w E w' → PX E w') (hk : k + rm.cells ≤ kc ∧ n + rm.slots ≤ nc) (hb : ∀ w, P w → ∃ k0 fs, w b = some (k0, .inr (ci, fs))) (hc : vwCl[ci]? = some (y.cls, T, N))
    (hcode : Cond.code y bytes maxL ret ∈ xAll) (hini : Cond.initialized y.cls ∈ xAll) (hlink : Cond.methodLink own idx y ∈ xAll) (hin : Cond.instanceMethod y ∈ xAll) (hsel : Cond.selects y.cls y y ∈ xAll)
    (hdd : y.cls ≠ "java/lang/invoke/MethodHandle" ∧ y.cls ≠ "java/lang/invoke/VarHandle" ∧ (parseMethodDescriptor y.desc).map (fun d => d.parameters.length) = some As.length) (hR : rm.frames + 1 ≤ R.frames ∧ 8 + (maxL + 11) + rm.locals ≤ R.locals) (hf : k + rm.cells ≤ R.cells ∧ n + rm.slots ≤ R.slots) (hW : (st.map fun v => v.category).sum ≤ 8) (hd : decode cc pc = .ok (.invokevirtual idx, 3))
    (kk : ∀ v, xJ p l e R s m args below meth c G nL (vx_MQ below Qc (xX G PX) args s kc nc (xA G)) (fun w' => ∃ w, P w ∧ post w v w') (k + rm.cells) (n + rm.slots) (pc + 3) lv ((emb v).toList ++ st)) : xJ p l e R s m args below meth c G nL (vx_MQ below Qc (xX G PX) args s kc nc (xA G)) P k n pc lv st0 := by
  subst hst
  refine x_callX (emb := emb) (post := post) (px := px) (mc := rm.cells) (ms := rm.slots) (a := (.ref b :: As).toArray) Γ.2.2.2.2.2.1 hout hx hk (fun w H locs ls hp hh hs hl => ?_) kk
  obtain ⟨k0, fs, hbw⟩ := hb w hp
  exact vx_runV (As := As) (rest := st) (xFix Γ) (hM w hp) ⟨xCallB Γ hcode hini hlink hdd hR, Γ.2.2.2.2.2.2.1.w hin, Γ.2.2.2.2.2.2.1.w hsel⟩ (xPreV Γ hh hs hbw hc As) rfl rfl hl.1 rfl (lv_room hW) hd hf
/-! throw new E("text") in the class LeftThings -/
theorem x_throw {cc : ByteArray} (Γ : xC p s m meth c G cc nL RX2 rt) (hflag : l.stackTraces = false) {PX : String → xW → Prop} {Qc : Array Value → State → Outcome → State → Prop} {kc nc : Nat} {cls text : String} {ik is ic : Nat} (hcls : Bundle.fit cls = true) (hk : Cond.classLink RX2 ik cls ∈ xAll) (hini : Cond.initialized cls ∈ xAll) (hstr : (is, text) ∈ xStr)
    (hat : ∀ w ∈ vx_atS RX2 ic cls ["java/lang/RuntimeException", "java/lang/Exception"], w ∈ xAll) (d0 : decode cc pc = .ok (.new ik, 3)) (d3 : decode cc (pc + 3) = .ok (.dup, 1)) (d4 : decode cc (pc + 4) = .ok (.ldc is, 2)) (d6 : decode cc (pc + 6) = .ok (.invokespecial ic, 3)) (d9 : decode cc (pc + 9) = .ok (.athrow, 1))
    (hout : ∀ x ∈ c.exceptionTable.toList, False) (hRf : 5 < R.frames ∧ (st.map fun v => v.category).sum + 82 ≤ R.locals) (hR : k + 1 ≤ R.cells ∧ n + 6 ≤ R.slots) (hx : ∀ w, P w → PX cls w) (hkc : k + 1 ≤ kc ∧ n + 6 ≤ nc) :
    xJ p l e R s m args below meth c G nL (vx_MQ below Qc (xX G PX) args s kc nc (xA G)) P k n pc lv st := fun w H locs ls hp hh hs hl => by
  obtain ⟨hx0, hb, hml, hown, hr, hlk, hE, hB⟩ := Γ
  have hE' := hE
  obtain ⟨h1, h2, h3, h4, h5, h6, h7, h8, h9, h10, h11, h12⟩ := hE'
  refine vx_throwS (names := ["java/lang/RuntimeException", "java/lang/Exception"]) (ik := ik) (is := is) (ic := ic) (own := RX2) (cls := cls) (text := text) (sa := G.2 (1000 + is)) (A := xA G) hx0 hb hflag hown hcls (by decide) (hE.w hk) (hE.w hini) (h10 _ hstr) (fun w hw => hE.w (hat w hw)) (fun w hw => ?_) h6 h7 hs (hl.1.trans hml.symm) d0 d3 d4 d6 d9 (fun x hx => (hout x hx).elim) hRf.1 (by have := hRf.2; simp only [List.length_cons, List.length_nil]; omega) hR.1 hR.2 hlk (fun t ht1 ht2 ht3 => ⟨⟨w, hx w hp, hh.grow ht2 ht3⟩, ?_⟩) hs.2.2 hkc.1 hkc.2
  · have h0 : w.onTables = true := by
      rcases List.mem_cons.mp hw with rfl | hw
      · rfl
      · rcases List.mem_cons.mp hw with rfl | hw
        · rfl
        · exact xAll_tb (hat w hw)
    simp only [vx_ot, h0, Bool.true_or]
  · exact ⟨Nat.le_trans hs.1 ht2, fun q h1 h2 => (ht3 q (Nat.lt_of_lt_of_le h1 hs.1)).trans (hs.2.1 q h1 h2)⟩
/-! the rest -/
theorem x_obj (Γ : xC p s m meth c G cc nL own rt) {idx a : Nat} (hlink : Cond.methodLink own idx Lib.objectInit ∈ xAll) (hR : 1 ≤ R.frames ∧ (st.map fun v => v.category).sum + 12 ≤ R.locals) (hd : decode cc pc = .ok (.invokespecial idx, 3))
    (kk : xJ p l e R s m args below meth c G nL Q P k n (pc + 3) lv st) : xJ p l e R s m args below meth c G nL Q P k n pc lv (.ref a :: st) := fun w H locs ls hp hh hs hl => by
  obtain ⟨hx, hb, hml, hown, hr, hlk, hE, hB⟩ := Γ
  exact W.objInit hx hb hown (hE.w hlink) (hE.w k_26) (hE.w k_27) rfl (by rw [hml]; exact hl.1) rfl hd hR.1 (by show 2 * 0 + _ + 12 ≤ _; have := hR.2; omega) (kk w H locs ls hp hh hs hl)
theorem x_gets (Γ : xC p s m meth c G cc nL RJx4a65c rt) {st : List Value} (hd : decode cc pc = .ok (.getstatic 39, 3)) (kk : xJ p l e R s m args below meth c G nL Q P k n (pc + 3) lv (.ref (G.2 4) :: st)) : xJ p l e R s m args below meth c G nL Q P k n pc lv st := fun w H locs ls hp hh hs hl => by
  obtain ⟨hx, hb, hml, hown, hr, hlk, hE, hB⟩ := Γ
  exact va_gets hx hb hE.2.2.2.2.2.2.2.1 hs hown (hE.w k_40) (fun _ h9 => h9) hd (kk w H locs ls hp hh hs hl)
theorem x_slen0 (Γ : xC p s m meth c G cc nL own rt) (hd : decode cc pc = .ok (.arraylength, 1)) (kk : xJ p l e R s m args below meth c G nL Q P k n (pc + 1) lv (.int 0 :: st)) : xJ p l e R s m args below meth c G nL Q P k n pc lv (.ref (G.2 4) :: st) := fun w H locs ls hp hh hs hl => by
  obtain ⟨hx, hb, hml, hown, hr, hlk, hE, hB⟩ := Γ
  exact va_tlen hx hb hE.2.2.2.2.2.2.2.2.1 hs rfl hd (kk w H locs ls hp hh hs hl)
theorem x_cast (Γ : xC p s m meth c G cc nL own rt) {C : String} {T : u_T} {N ci idx a : Nat} (hc : vwCl[ci]? = some (C, T, N)) (hv : ∀ w, P w → ∃ k0 fs, w a = some (k0, .inr (ci, fs))) (hlink : Cond.classLink own idx C ∈ xAll) (hd : decode cc pc = .ok (.checkcast idx, 3))
    (kk : xJ p l e R s m args below meth c G nL Q P k n (pc + 3) lv (.ref a :: st)) : xJ p l e R s m args below meth c G nL Q P k n pc lv (.ref a :: st) := fun w H locs ls hp hh hs hl => by
  obtain ⟨k0, fs, ha⟩ := hv w hp
  obtain ⟨hx, hb, hml, hown, hr, hlk, hE, hB⟩ := Γ
  obtain ⟨cell, h1, h2, h3⟩ := va_recv hE.1 (hh.P ha) (q0 := 0) hc rfl
  have hca := (hE.1.1 ci _ hc).2
  have hcc : cell.cls = G.1.1 ci := Option.some.inj (h3.symm.trans hca.1)
  intro T0 hT X
  obtain ⟨vm', X', st9⟩ := X.checkcastYes hx hown (hE.w hlink) (by rw [hT]; exact h1) h2 hca.1 (by rw [hcc]; exact va_assign hca) (g := F0 m pc ls (.ref a :: st)) rfl rfl (by rw [hb]; exact hd)
  obtain ⟨t, a1, b1⟩ := kk w H locs ls hp hh hs hl (T0.setVm vm') hT X'
  exact ⟨t, st9 t a1, b1⟩
end XCL
end
section
section XJR
variable {p : Program} {l : Launch} {e : Env} {R : Room} {s : State} {m : MethodId} {args : Array Value} {below : List Frame} {meth : Method} {c : Code} {G : xG} {cc : ByteArray} {nL : Nat} {own : String} {rt : Option FieldType} {Q : State → Prop} {P P' : xW → Prop} {k n pc : Nat} {lv : List (Nat × Value)} {st : List Value}
theorem x_max (Γ : xC p s m meth c G cc nL own rt) {idx : Nat} {x y : Int32} (hlink : Cond.methodLink own idx Lib.Math.max.name ∈ xAll) (hstat : Cond.static Lib.Math.max.name ∈ xAll) (hcode : Cond.code Lib.Math.max.name Lib.Math.max.code 2 (some .int) ∈ xAll) (hini : Cond.initialized "java/lang/Math" ∈ xAll)
    (hR : 1 ≤ R.frames ∧ (st.map fun v => v.category).sum + 13 ≤ R.locals ∧ k ≤ R.cells ∧ n ≤ R.slots) (hd : decode cc pc = .ok (.invokestatic idx, 3)) (kk : xJ p l e R s m args below meth c G nL Q P k n (pc + 3) lv (.int (if x < y then y else x) :: st)) : xJ p l e R s m args below meth c G nL Q P k n pc lv (.int y :: .int x :: st) := fun w H locs ls hp hh hs hl => by
  obtain ⟨hx, hb, hml, hown, hr, hlk, hE, hB⟩ := Γ
  exact va_mmax hx hb (by rw [hml]; exact hl.1.symm) hown (hE.w hlink) (hE.w hstat) (hE.w hini) (hE.w hcode) hR.1 hR.2.1 hR.2.2.1 hR.2.2.2 hd (kk w H locs ls hp hh hs hl)
theorem x_min (Γ : xC p s m meth c G cc nL own rt) {idx : Nat} {x y : Int32} (hlink : Cond.methodLink own idx Lib.Math.min.name ∈ xAll) (hstat : Cond.static Lib.Math.min.name ∈ xAll) (hcode : Cond.code Lib.Math.min.name Lib.Math.min.code 2 (some .int) ∈ xAll) (hini : Cond.initialized "java/lang/Math" ∈ xAll)
    (hR : 1 ≤ R.frames ∧ (st.map fun v => v.category).sum + 13 ≤ R.locals ∧ k ≤ R.cells ∧ n ≤ R.slots) (hd : decode cc pc = .ok (.invokestatic idx, 3)) (kk : xJ p l e R s m args below meth c G nL Q P k n (pc + 3) lv (.int (if y < x then y else x) :: st)) : xJ p l e R s m args below meth c G nL Q P k n pc lv (.int y :: .int x :: st) := fun w H locs ls hp hh hs hl => by
  obtain ⟨hx, hb, hml, hown, hr, hlk, hE, hB⟩ := Γ
  exact va_mmin hx hb (by rw [hml]; exact hl.1.symm) hown (hE.w hlink) (hE.w hstat) (hE.w hini) (hE.w hcode) hR.1 hR.2.1 hR.2.2.1 hR.2.2.2 hd (kk w H locs ls hp hh hs hl)
theorem x_ldcM (Γ : xC p s m meth c G cc nL own rt) {idx : Nat} (hlink : Cond.classLink own idx "[Ljava/lang/Object;" ∈ xAll) (hd : decode cc pc = .ok (.ldc idx, 2)) (kk : xJ p l e R s m args below meth c G nL Q P k n (pc + 2) lv (.ref (G.2 5) :: st)) : xJ p l e R s m args below meth c G nL Q P k n pc lv st := fun w H locs ls hp hh hs hl => by
  obtain ⟨hx, hb, hml, hown, hr, hlk, hE, hB⟩ := Γ
  exact va_ldcM hx hb hown (hE.w hlink) hE.2.2.2.2.2.2.2.2.2.2.1 hd (kk w H locs ls hp hh hs hl)
theorem x_getC (Γ : xC p s m meth c G cc nL own rt) {idx a N : Nat} {f : Nat → Option Nat} (hv : ∀ w, P w → ∃ k0, w a = some (k0, .inl (G.2 3, N, .inr (.inr (.inr (.inr f)))))) (hlink : Cond.methodLink own idx ⟨"java/lang/Object", "getClass", "()Ljava/lang/Class;"⟩ ∈ xAll) (hdecl : Cond.declares ⟨"java/lang/Object", "getClass", "()Ljava/lang/Class;"⟩ ∈ xAll)
    (hsel : Cond.selects "[Ljava/lang/Object;" ⟨"java/lang/Object", "getClass", "()Ljava/lang/Class;"⟩ ⟨"java/lang/Object", "getClass", "()Ljava/lang/Class;"⟩ ∈ xAll) (hinst : Cond.instanceMethod ⟨"java/lang/Object", "getClass", "()Ljava/lang/Class;"⟩ ∈ xAll) (hnat : Cond.native ⟨"java/lang/Object", "getClass", "()Ljava/lang/Class;"⟩ ∈ xAll)
    (hR : 1 ≤ R.frames ∧ (st.map fun v => v.category).sum + 14 ≤ R.locals) (hd : decode cc pc = .ok (.invokevirtual idx, 3)) (kk : xJ p l e R s m args below meth c G nL Q P k n (pc + 3) lv (.ref (G.2 5) :: st)) : xJ p l e R s m args below meth c G nL Q P k n pc lv (.ref a :: st) := fun w H locs ls hp hh hs hl => by
  obtain ⟨k0, ha⟩ := hv w hp
  obtain ⟨hx, hb, hml, hown, hr, hlk, hE, hB⟩ := Γ
  have hcell : H[a]? = some (vp_cell (G.2 3) (N, .inr (.inr (.inr (.inr f))))) := (hh.2 a _ ha).2
  exact va_getC hx hb (by rw [hml]; exact hl.1.symm) hown (hE.w hlink) (hE.w hdecl) (hE.w hsel) (hE.w hinst) (hE.w hnat) hE.2.2.2.2.2.2.2.2.2.2.1 ⟨_, hcell, rfl, va_nmO (hE.1.2 2 _ rfl).2 rfl⟩ hR.1 hR.2 hd (kk w H locs ls hp hh hs hl)
theorem x_copy (Γ : xC p s m meth c G cc nL own rt) {idx a0 a N0 N1 : Nat} {f g : Nat → Option Nat} {sp dp q : Int32} (hlink : Cond.methodLink own idx arraycopyName ∈ xAll) (hnat : Cond.native arraycopyName ∈ xAll) (hstat : Cond.static arraycopyName ∈ xAll) (hini : Cond.initialized "java/lang/System" ∈ xAll)
    (hv : ∀ w, P w → ∃ k0 k1, w a0 = some (k0, .inl (G.2 3, N0, .inr (.inr (.inr (.inr f))))) ∧ w a = some (k1, .inl (G.2 3, N1, .inr (.inr (.inr (.inr g))))) ∧ P' (xu w a (k1, .inl (G.2 3, N1, .inr (.inr (.inr (.inr (va_cpy f g sp.toNatClampNeg dp.toNatClampNeg q.toNatClampNeg))))))))
    (h1 : ¬ sp < 0) (h2 : ¬ dp < 0) (h3 : ¬ q < 0) (h4 : sp.toNatClampNeg + q.toNatClampNeg ≤ N0) (h5 : dp.toNatClampNeg + q.toNatClampNeg ≤ N1)
    (hel : ∀ w, P w → ∀ i, i < q.toNatClampNeg → ∀ y : Nat, f (sp.toNatClampNeg + i) = some y → ∃ k1 ci fs, w y = some (k1, .inr (ci, fs)) ∧ ∃ r, vwCl[ci]? = some r ∧ Cond.castable r.1 "java/lang/Object" ∈ xAll)
    (hR : 1 ≤ R.frames ∧ (st.map fun v => v.category).sum + (nativeFrameWords "java/lang/System" "arraycopy" 5 + 11) ≤ R.locals) (hd : decode cc pc = .ok (.invokestatic idx, 3))
    (kk : xJ p l e R s m args below meth c G nL Q P' k n (pc + 3) lv st) : xJ p l e R s m args below meth c G nL Q P k n pc lv (.int q :: .int dp :: .ref a :: .int sp :: .ref a0 :: st) := fun w H locs ls hp hh hs hl => by
  obtain ⟨k0, k1, ha0, ha, hp'⟩ := hv w hp
  obtain ⟨hx, hb, hml, hown, hr, hlk, hE, hB⟩ := Γ
  have nn : ∀ z : Int32, ¬ z < 0 → z.toInt = (z.toNatClampNeg : Int) := by
    intro z hz
    have hz0 : (0 : Int) ≤ z.toInt := by
      have := Int32.not_lt.mp hz
      simpa using Int32.le_iff_toInt_le.mp this
    show z.toInt = ((z.toInt.toNat : Nat) : Int)
    omega
  intro T hT X
  have hc0 : H[a0]? = some (vp_cell (G.2 3) (N0, .inr (.inr (.inr (.inr f))))) := (hh.2 a0 _ ha0).2
  have hc1 : H[a]? = some (vp_cell (G.2 3) (N1, .inr (.inr (.inr (.inr g))))) := (hh.2 a _ ha).2
  obtain ⟨-, kA, hkA, cm0, hkkA⟩ := (hE.1.2 2 _ rfl).1 N0 (fun j => va_rf (f j))
  obtain ⟨-, kA1, hkA1, cm1, hkkA1⟩ := (hE.1.2 2 _ rfl).1 N1 (fun j => va_rf (g j))
  obtain ⟨vm', X', step⟩ := X.arraycopy hx hown (hE.w hlink) (hE.w hnat) (hE.w hstat) (hE.w hini) (src := a0) (dst := a) (cs := vp_cell (G.2 3) (N0, .inr (.inr (.inr (.inr f))))) (cd := vp_cell (G.2 3) (N1, .inr (.inr (.inr (.inr g))))) (srcPos := sp) (destPos := dp) (n := q) (by rw [hT]; exact hc0) (by rw [hT]; exact hc1)
    (fun _ h => by cases h) (fun _ h => by cases h) (fun h => by cases h) (fun h => by cases h) hkA hkA1 hkkA hkkA1 rfl h1 h2 h3
    (by rw [nn sp h1, nn q h3]; show ¬ _ > ((arrV (G.2 3) N0 (fun j => va_rf (f j))).slots.size : Int); rw [arrV_size]; omega)
    (by rw [nn dp h2, nn q h3]; show ¬ _ > ((arrV (G.2 3) N1 (fun j => va_rf (g j))).slots.size : Int); rw [arrV_size]; omega)
    (fun vm₁ hal i hi => by
      have e : (vp_cell (G.2 3) (N0, .inr (.inr (.inr (.inr f))))).slots.getD (sp.toNatClampNeg + i) .null = va_rf (f (sp.toNatClampNeg + i)) := by
        show (arrV (G.2 3) N0 (fun j => va_rf (f j))).slots.getD _ _ = _
        rw [Array.getD_eq_getD_getElem?, arrV_read _ _ (by omega)]
        rfl
      rw [e]
      cases hy : f (sp.toNatClampNeg + i) with
      | none => exact ⟨rfl, trivial⟩
      | some y =>
        obtain ⟨k9, ci, fs, hv1, r, hr9, hca⟩ := hel w hp i hi y hy
        obtain ⟨cellV, g1, g2, ⟨kC, hkC⟩, hasg⟩ := xAny hE hh hv1 hr9 hca
        obtain ⟨kA', comp, r1, r2, r3, -⟩ := (hE.1.2 2 _ rfl).2
        cases hkA1.symm.trans r1
        cases hkkA1.symm.trans r2
        obtain ⟨kE, hkE, -⟩ := Vm.findClass_spec r3
        obtain ⟨kC', hkC', -⟩ := hal.2.2 _ _ hkC
        obtain ⟨kE', hkE', -⟩ := hal.2.2 _ _ hkE
        refine ⟨rfl, cellV, (show T.heap[y]? = some cellV by rw [hT]; exact g1), (fun q h => by rw [h] at g2; cases g2), ⟨kC', hkC'⟩, ?_, ?_⟩
        · exact ⟨kE', hkE'⟩
        · show vm₁.assignable _ _ = true
          rw [hal.assignable]
          exact hasg _ r3)
    (g := F0 m pc ls (.int q :: .int dp :: .ref a :: .int sp :: .ref a0 :: st)) rfl (by rw [hml]; exact hl.1) (rest := st) rfl (by rw [hb]; exact hd) hR.1 (by show 2 * 0 + _ + _ ≤ _; have := hR.2; omega)
  have e1 : copied (vp_cell (G.2 3) (N0, .inr (.inr (.inr (.inr f))))) (vp_cell (G.2 3) (N1, .inr (.inr (.inr (.inr g))))) sp dp q = vp_cell (G.2 3) (N1, .inr (.inr (.inr (.inr (va_cpy f g sp.toNatClampNeg dp.toNatClampNeg q.toNatClampNeg))))) := by
    rw [vp_cell_q, vp_cell_q, vp_cell_q]
    exact va_copied (fun z => va_rf z) (G.2 3) (G.2 3) f g h4
  rw [e1] at X' step
  have hl1 : a < H.size := (Array.getElem?_eq_some_iff.mp hc1).1
  have hheap : ((T.setVm vm').setCell a (vp_cell (G.2 3) (N1, .inr (.inr (.inr (.inr (va_cpy f g sp.toNatClampNeg dp.toNatClampNeg q.toNatClampNeg))))))).heap = H.setIfInBounds a (vp_cell (G.2 3) (N1, .inr (.inr (.inr (.inr (va_cpy f g sp.toNatClampNeg dp.toNatClampNeg q.toNatClampNeg)))))) := by rw [← hT]; rfl
  have oq : ∀ z : Nat, z ≠ a → (H.setIfInBounds a (vp_cell (G.2 3) (N1, .inr (.inr (.inr (.inr (va_cpy f g sp.toNatClampNeg dp.toNatClampNeg q.toNatClampNeg)))))))[z]? = H[z]? := fun z hq => by simp [Array.getElem?_setIfInBounds, Ne.symm hq]
  obtain ⟨t, a1, b1⟩ := kk _ _ _ ls hp' (hh.set ha (show (H.setIfInBounds a _)[a]? = some _ by simp [Array.getElem?_setIfInBounds, hl1]) oq (by simp)) ⟨by simp; exact hs.1, fun z g1 g2 => by
      rw [oq z (fun e => g2 (by rw [e]; exact (hh.2 a _ ha).1))]
      exact hs.2.1 z g1 g2, fun z hz => by
      rcases List.mem_append.mp hz with h | h
      · exact hs.2.2 z h
      · obtain ⟨i, -, hi⟩ := List.mem_map.mp h
        rw [← hi]
        exact (hh.2 a _ ha).1⟩ hl _ hheap X'
  exact ⟨t, step t a1, b1⟩
end XJR
end
section
section XJ1
variable {l : Launch} {G : xG}
theorem hd_X0_init : (yX0_init).cls ≠ "java/lang/invoke/MethodHandle" ∧ (yX0_init).cls ≠ "java/lang/invoke/VarHandle" ∧ (parseMethodDescriptor (yX0_init).desc).map (fun d => d.parameters.length) = some 3 := by decide +kernel
theorem hd_X1_init : (yX1_init).cls ≠ "java/lang/invoke/MethodHandle" ∧ (yX1_init).cls ≠ "java/lang/invoke/VarHandle" ∧ (parseMethodDescriptor (yX1_init).desc).map (fun d => d.parameters.length) = some 5 := by decide +kernel
theorem hd_X1_isAtCounter : (yX1_isAtCounter).cls ≠ "java/lang/invoke/MethodHandle" ∧ (yX1_isAtCounter).cls ≠ "java/lang/invoke/VarHandle" ∧ (parseMethodDescriptor (yX1_isAtCounter).desc).map (fun d => d.parameters.length) = some 0 := by decide +kernel
theorem hd_X1_hasLoan : (yX1_hasLoan).cls ≠ "java/lang/invoke/MethodHandle" ∧ (yX1_hasLoan).cls ≠ "java/lang/invoke/VarHandle" ∧ (parseMethodDescriptor (yX1_hasLoan).desc).map (fun d => d.parameters.length) = some 0 := by decide +kernel
theorem hd_X1_isCalled : (yX1_isCalled).cls ≠ "java/lang/invoke/MethodHandle" ∧ (yX1_isCalled).cls ≠ "java/lang/invoke/VarHandle" ∧ (parseMethodDescriptor (yX1_isCalled).desc).map (fun d => d.parameters.length) = some 0 := by decide +kernel
theorem hd_X1_beginLoan : (yX1_beginLoan).cls ≠ "java/lang/invoke/MethodHandle" ∧ (yX1_beginLoan).cls ≠ "java/lang/invoke/VarHandle" ∧ (parseMethodDescriptor (yX1_beginLoan).desc).map (fun d => d.parameters.length) = some 2 := by decide +kernel
theorem hd_X1_endLoan : (yX1_endLoan).cls ≠ "java/lang/invoke/MethodHandle" ∧ (yX1_endLoan).cls ≠ "java/lang/invoke/VarHandle" ∧ (parseMethodDescriptor (yX1_endLoan).desc).map (fun d => d.parameters.length) = some 0 := by decide +kernel
theorem hd_X1_moveTo : (yX1_moveTo).cls ≠ "java/lang/invoke/MethodHandle" ∧ (yX1_moveTo).cls ≠ "java/lang/invoke/VarHandle" ∧ (parseMethodDescriptor (yX1_moveTo).desc).map (fun d => d.parameters.length) = some 2 := by decide +kernel
theorem hd_X1_placeAtBeginningOf : (yX1_placeAtBeginningOf).cls ≠ "java/lang/invoke/MethodHandle" ∧ (yX1_placeAtBeginningOf).cls ≠ "java/lang/invoke/VarHandle" ∧ (parseMethodDescriptor (yX1_placeAtBeginningOf).desc).map (fun d => d.parameters.length) = some 1 := by decide +kernel
theorem hd_X2_init : (yX2_init).cls ≠ "java/lang/invoke/MethodHandle" ∧ (yX2_init).cls ≠ "java/lang/invoke/VarHandle" ∧ (parseMethodDescriptor (yX2_init).desc).map (fun d => d.parameters.length) = some 0 := by decide +kernel
theorem hd_X2_setRoom : (yX2_setRoom).cls ≠ "java/lang/invoke/MethodHandle" ∧ (yX2_setRoom).cls ≠ "java/lang/invoke/VarHandle" ∧ (parseMethodDescriptor (yX2_setRoom).desc).map (fun d => d.parameters.length) = some 2 := by decide +kernel
theorem hd_X2_setVan : (yX2_setVan).cls ≠ "java/lang/invoke/MethodHandle" ∧ (yX2_setVan).cls ≠ "java/lang/invoke/VarHandle" ∧ (parseMethodDescriptor (yX2_setVan).desc).map (fun d => d.parameters.length) = some 1 := by decide +kernel
theorem hd_X2_leave : (yX2_leave).cls ≠ "java/lang/invoke/MethodHandle" ∧ (yX2_leave).cls ≠ "java/lang/invoke/VarHandle" ∧ (parseMethodDescriptor (yX2_leave).desc).map (fun d => d.parameters.length) = some 3 := by decide +kernel
theorem hd_X2_fetch : (yX2_fetch).cls ≠ "java/lang/invoke/MethodHandle" ∧ (yX2_fetch).cls ≠ "java/lang/invoke/VarHandle" ∧ (parseMethodDescriptor (yX2_fetch).desc).map (fun d => d.parameters.length) = some 1 := by decide +kernel
theorem hd_X2_want : (yX2_want).cls ≠ "java/lang/invoke/MethodHandle" ∧ (yX2_want).cls ≠ "java/lang/invoke/VarHandle" ∧ (parseMethodDescriptor (yX2_want).desc).map (fun d => d.parameters.length) = some 2 := by decide +kernel
theorem hd_X2_value : (yX2_value).cls ≠ "java/lang/invoke/MethodHandle" ∧ (yX2_value).cls ≠ "java/lang/invoke/VarHandle" ∧ (parseMethodDescriptor (yX2_value).desc).map (fun d => d.parameters.length) = some 2 := by decide +kernel
theorem hd_X2_lend : (yX2_lend).cls ≠ "java/lang/invoke/MethodHandle" ∧ (yX2_lend).cls ≠ "java/lang/invoke/VarHandle" ∧ (parseMethodDescriptor (yX2_lend).desc).map (fun d => d.parameters.length) = some 3 := by decide +kernel
theorem hd_X2_repay : (yX2_repay).cls ≠ "java/lang/invoke/MethodHandle" ∧ (yX2_repay).cls ≠ "java/lang/invoke/VarHandle" ∧ (parseMethodDescriptor (yX2_repay).desc).map (fun d => d.parameters.length) = some 1 := by decide +kernel
theorem hd_X2_doubt : (yX2_doubt).cls ≠ "java/lang/invoke/MethodHandle" ∧ (yX2_doubt).cls ≠ "java/lang/invoke/VarHandle" ∧ (parseMethodDescriptor (yX2_doubt).desc).map (fun d => d.parameters.length) = some 1 := by decide +kernel
theorem hd_X2_pass : (yX2_pass).cls ≠ "java/lang/invoke/MethodHandle" ∧ (yX2_pass).cls ≠ "java/lang/invoke/VarHandle" ∧ (parseMethodDescriptor (yX2_pass).desc).map (fun d => d.parameters.length) = some 1 := by decide +kernel
theorem hd_X2_day : (yX2_day).cls ≠ "java/lang/invoke/MethodHandle" ∧ (yX2_day).cls ≠ "java/lang/invoke/VarHandle" ∧ (parseMethodDescriptor (yX2_day).desc).map (fun d => d.parameters.length) = some 0 := by decide +kernel
theorem hd_X2_things : (yX2_things).cls ≠ "java/lang/invoke/MethodHandle" ∧ (yX2_things).cls ≠ "java/lang/invoke/VarHandle" ∧ (parseMethodDescriptor (yX2_things).desc).map (fun d => d.parameters.length) = some 0 := by decide +kernel
theorem hd_X2_where : (yX2_where).cls ≠ "java/lang/invoke/MethodHandle" ∧ (yX2_where).cls ≠ "java/lang/invoke/VarHandle" ∧ (parseMethodDescriptor (yX2_where).desc).map (fun d => d.parameters.length) = some 1 := by decide +kernel
theorem hd_X2_whereOn : (yX2_whereOn).cls ≠ "java/lang/invoke/MethodHandle" ∧ (yX2_whereOn).cls ≠ "java/lang/invoke/VarHandle" ∧ (parseMethodDescriptor (yX2_whereOn).desc).map (fun d => d.parameters.length) = some 2 := by decide +kernel
theorem hd_X2_load : (yX2_load).cls ≠ "java/lang/invoke/MethodHandle" ∧ (yX2_load).cls ≠ "java/lang/invoke/VarHandle" ∧ (parseMethodDescriptor (yX2_load).desc).map (fun d => d.parameters.length) = some 1 := by decide +kernel
theorem hd_X2_fees : (yX2_fees).cls ≠ "java/lang/invoke/MethodHandle" ∧ (yX2_fees).cls ≠ "java/lang/invoke/VarHandle" ∧ (parseMethodDescriptor (yX2_fees).desc).map (fun d => d.parameters.length) = some 1 := by decide +kernel
theorem hd_X2_loan : (yX2_loan).cls ≠ "java/lang/invoke/MethodHandle" ∧ (yX2_loan).cls ≠ "java/lang/invoke/VarHandle" ∧ (parseMethodDescriptor (yX2_loan).desc).map (fun d => d.parameters.length) = some 1 := by decide +kernel
theorem hd_X2_purse : (yX2_purse).cls ≠ "java/lang/invoke/MethodHandle" ∧ (yX2_purse).cls ≠ "java/lang/invoke/VarHandle" ∧ (parseMethodDescriptor (yX2_purse).desc).map (fun d => d.parameters.length) = some 1 := by decide +kernel
theorem hd_X2_taken : (yX2_taken).cls ≠ "java/lang/invoke/MethodHandle" ∧ (yX2_taken).cls ≠ "java/lang/invoke/VarHandle" ∧ (parseMethodDescriptor (yX2_taken).desc).map (fun d => d.parameters.length) = some 0 := by decide +kernel
theorem hd_X2_wish : (yX2_wish).cls ≠ "java/lang/invoke/MethodHandle" ∧ (yX2_wish).cls ≠ "java/lang/invoke/VarHandle" ∧ (parseMethodDescriptor (yX2_wish).desc).map (fun d => d.parameters.length) = some 1 := by decide +kernel
theorem hd_X2_isCounter : (yX2_isCounter).cls ≠ "java/lang/invoke/MethodHandle" ∧ (yX2_isCounter).cls ≠ "java/lang/invoke/VarHandle" ∧ (parseMethodDescriptor (yX2_isCounter).desc).map (fun d => d.parameters.length) = some 1 := by decide +kernel
theorem hd_X2_isPerson : (yX2_isPerson).cls ≠ "java/lang/invoke/MethodHandle" ∧ (yX2_isPerson).cls ≠ "java/lang/invoke/VarHandle" ∧ (parseMethodDescriptor (yX2_isPerson).desc).map (fun d => d.parameters.length) = some 1 := by decide +kernel
theorem hd_X2_isRoom : (yX2_isRoom).cls ≠ "java/lang/invoke/MethodHandle" ∧ (yX2_isRoom).cls ≠ "java/lang/invoke/VarHandle" ∧ (parseMethodDescriptor (yX2_isRoom).desc).map (fun d => d.parameters.length) = some 1 := by decide +kernel
theorem hd_X2_thingNumbered : (yX2_thingNumbered).cls ≠ "java/lang/invoke/MethodHandle" ∧ (yX2_thingNumbered).cls ≠ "java/lang/invoke/VarHandle" ∧ (parseMethodDescriptor (yX2_thingNumbered).desc).map (fun d => d.parameters.length) = some 1 := by decide +kernel
theorem hd_X2_sizesAt : (yX2_sizesAt).cls ≠ "java/lang/invoke/MethodHandle" ∧ (yX2_sizesAt).cls ≠ "java/lang/invoke/VarHandle" ∧ (parseMethodDescriptor (yX2_sizesAt).desc).map (fun d => d.parameters.length) = some 1 := by decide +kernel
theorem hd_X2_hasRoomFor : (yX2_hasRoomFor).cls ≠ "java/lang/invoke/MethodHandle" ∧ (yX2_hasRoomFor).cls ≠ "java/lang/invoke/VarHandle" ∧ (parseMethodDescriptor (yX2_hasRoomFor).desc).map (fun d => d.parameters.length) = some 2 := by decide +kernel
theorem hd_X2_putIntoPurse : (yX2_putIntoPurse).cls ≠ "java/lang/invoke/MethodHandle" ∧ (yX2_putIntoPurse).cls ≠ "java/lang/invoke/VarHandle" ∧ (parseMethodDescriptor (yX2_putIntoPurse).desc).map (fun d => d.parameters.length) = some 2 := by decide +kernel
theorem hd_X2_dropEndedWishes : (yX2_dropEndedWishes).cls ≠ "java/lang/invoke/MethodHandle" ∧ (yX2_dropEndedWishes).cls ≠ "java/lang/invoke/VarHandle" ∧ (parseMethodDescriptor (yX2_dropEndedWishes).desc).map (fun d => d.parameters.length) = some 0 := by decide +kernel
theorem hd_X2_giveAway : (yX2_giveAway).cls ≠ "java/lang/invoke/MethodHandle" ∧ (yX2_giveAway).cls ≠ "java/lang/invoke/VarHandle" ∧ (parseMethodDescriptor (yX2_giveAway).desc).map (fun d => d.parameters.length) = some 3 := by decide +kernel
theorem hd_X2_sell : (yX2_sell).cls ≠ "java/lang/invoke/MethodHandle" ∧ (yX2_sell).cls ≠ "java/lang/invoke/VarHandle" ∧ (parseMethodDescriptor (yX2_sell).desc).map (fun d => d.parameters.length) = some 1 := by decide +kernel
theorem hd_X2_endDay : (yX2_endDay).cls ≠ "java/lang/invoke/MethodHandle" ∧ (yX2_endDay).cls ≠ "java/lang/invoke/VarHandle" ∧ (parseMethodDescriptor (yX2_endDay).desc).map (fun d => d.parameters.length) = some 0 := by decide +kernel
theorem hd_X2_oweFees : (yX2_oweFees).cls ≠ "java/lang/invoke/MethodHandle" ∧ (yX2_oweFees).cls ≠ "java/lang/invoke/VarHandle" ∧ (parseMethodDescriptor (yX2_oweFees).desc).map (fun d => d.parameters.length) = some 0 := by decide +kernel
theorem hd_X2_sellCalled : (yX2_sellCalled).cls ≠ "java/lang/invoke/MethodHandle" ∧ (yX2_sellCalled).cls ≠ "java/lang/invoke/VarHandle" ∧ (parseMethodDescriptor (yX2_sellCalled).desc).map (fun d => d.parameters.length) = some 0 := by decide +kernel
theorem hd_X2_sellUnfetched : (yX2_sellUnfetched).cls ≠ "java/lang/invoke/MethodHandle" ∧ (yX2_sellUnfetched).cls ≠ "java/lang/invoke/VarHandle" ∧ (parseMethodDescriptor (yX2_sellUnfetched).desc).map (fun d => d.parameters.length) = some 0 := by decide +kernel
theorem hd_X2_driveVan : (yX2_driveVan).cls ≠ "java/lang/invoke/MethodHandle" ∧ (yX2_driveVan).cls ≠ "java/lang/invoke/VarHandle" ∧ (parseMethodDescriptor (yX2_driveVan).desc).map (fun d => d.parameters.length) = some 0 := by decide +kernel
theorem hd_X3_init : (yX3_init).cls ≠ "java/lang/invoke/MethodHandle" ∧ (yX3_init).cls ≠ "java/lang/invoke/VarHandle" ∧ (parseMethodDescriptor (yX3_init).desc).map (fun d => d.parameters.length) = some 0 := by decide +kernel
theorem hd_X3_thrown : (yX3_thrown).cls ≠ "java/lang/invoke/MethodHandle" ∧ (yX3_thrown).cls ≠ "java/lang/invoke/VarHandle" ∧ (parseMethodDescriptor (yX3_thrown).desc).map (fun d => d.parameters.length) = some 0 := by decide +kernel
theorem hd_X3_in : (yX3_in).cls ≠ "java/lang/invoke/MethodHandle" ∧ (yX3_in).cls ≠ "java/lang/invoke/VarHandle" ∧ (parseMethodDescriptor (yX3_in).desc).map (fun d => d.parameters.length) = some 3 := by decide +kernel
theorem hd_X3_isFine : (yX3_isFine).cls ≠ "java/lang/invoke/MethodHandle" ∧ (yX3_isFine).cls ≠ "java/lang/invoke/VarHandle" ∧ (parseMethodDescriptor (yX3_isFine).desc).map (fun d => d.parameters.length) = some 1 := by decide +kernel
theorem hd_X3_isCounter : (yX3_isCounter).cls ≠ "java/lang/invoke/MethodHandle" ∧ (yX3_isCounter).cls ≠ "java/lang/invoke/VarHandle" ∧ (parseMethodDescriptor (yX3_isCounter).desc).map (fun d => d.parameters.length) = some 1 := by decide +kernel
theorem hd_X3_isThing : (yX3_isThing).cls ≠ "java/lang/invoke/MethodHandle" ∧ (yX3_isThing).cls ≠ "java/lang/invoke/VarHandle" ∧ (parseMethodDescriptor (yX3_isThing).desc).map (fun d => d.parameters.length) = some 1 := by decide +kernel
theorem hd_X3_isAt : (yX3_isAt).cls ≠ "java/lang/invoke/MethodHandle" ∧ (yX3_isAt).cls ≠ "java/lang/invoke/VarHandle" ∧ (parseMethodDescriptor (yX3_isAt).desc).map (fun d => d.parameters.length) = some 1 := by decide +kernel
theorem hd_X3_setRoom : (yX3_setRoom).cls ≠ "java/lang/invoke/MethodHandle" ∧ (yX3_setRoom).cls ≠ "java/lang/invoke/VarHandle" ∧ (parseMethodDescriptor (yX3_setRoom).desc).map (fun d => d.parameters.length) = some 2 := by decide +kernel
theorem hd_X3_setVan : (yX3_setVan).cls ≠ "java/lang/invoke/MethodHandle" ∧ (yX3_setVan).cls ≠ "java/lang/invoke/VarHandle" ∧ (parseMethodDescriptor (yX3_setVan).desc).map (fun d => d.parameters.length) = some 1 := by decide +kernel
theorem hd_X3_loadOf : (yX3_loadOf).cls ≠ "java/lang/invoke/MethodHandle" ∧ (yX3_loadOf).cls ≠ "java/lang/invoke/VarHandle" ∧ (parseMethodDescriptor (yX3_loadOf).desc).map (fun d => d.parameters.length) = some 1 := by decide +kernel
theorem hd_X3_leave : (yX3_leave).cls ≠ "java/lang/invoke/MethodHandle" ∧ (yX3_leave).cls ≠ "java/lang/invoke/VarHandle" ∧ (parseMethodDescriptor (yX3_leave).desc).map (fun d => d.parameters.length) = some 3 := by decide +kernel
theorem hd_X3_forgets : (yX3_forgets).cls ≠ "java/lang/invoke/MethodHandle" ∧ (yX3_forgets).cls ≠ "java/lang/invoke/VarHandle" ∧ (parseMethodDescriptor (yX3_forgets).desc).map (fun d => d.parameters.length) = some 1 := by decide +kernel
theorem hd_X3_fetch : (yX3_fetch).cls ≠ "java/lang/invoke/MethodHandle" ∧ (yX3_fetch).cls ≠ "java/lang/invoke/VarHandle" ∧ (parseMethodDescriptor (yX3_fetch).desc).map (fun d => d.parameters.length) = some 1 := by decide +kernel
theorem hd_X3_want : (yX3_want).cls ≠ "java/lang/invoke/MethodHandle" ∧ (yX3_want).cls ≠ "java/lang/invoke/VarHandle" ∧ (parseMethodDescriptor (yX3_want).desc).map (fun d => d.parameters.length) = some 2 := by decide +kernel
theorem hd_X3_value : (yX3_value).cls ≠ "java/lang/invoke/MethodHandle" ∧ (yX3_value).cls ≠ "java/lang/invoke/VarHandle" ∧ (parseMethodDescriptor (yX3_value).desc).map (fun d => d.parameters.length) = some 2 := by decide +kernel
theorem hd_X3_lend : (yX3_lend).cls ≠ "java/lang/invoke/MethodHandle" ∧ (yX3_lend).cls ≠ "java/lang/invoke/VarHandle" ∧ (parseMethodDescriptor (yX3_lend).desc).map (fun d => d.parameters.length) = some 3 := by decide +kernel
theorem hd_X3_repay : (yX3_repay).cls ≠ "java/lang/invoke/MethodHandle" ∧ (yX3_repay).cls ≠ "java/lang/invoke/VarHandle" ∧ (parseMethodDescriptor (yX3_repay).desc).map (fun d => d.parameters.length) = some 1 := by decide +kernel
theorem hd_X3_doubt : (yX3_doubt).cls ≠ "java/lang/invoke/MethodHandle" ∧ (yX3_doubt).cls ≠ "java/lang/invoke/VarHandle" ∧ (parseMethodDescriptor (yX3_doubt).desc).map (fun d => d.parameters.length) = some 1 := by decide +kernel
theorem hd_X3_sells : (yX3_sells).cls ≠ "java/lang/invoke/MethodHandle" ∧ (yX3_sells).cls ≠ "java/lang/invoke/VarHandle" ∧ (parseMethodDescriptor (yX3_sells).desc).map (fun d => d.parameters.length) = some 1 := by decide +kernel
theorem hd_X3_drives : (yX3_drives).cls ≠ "java/lang/invoke/MethodHandle" ∧ (yX3_drives).cls ≠ "java/lang/invoke/VarHandle" ∧ (parseMethodDescriptor (yX3_drives).desc).map (fun d => d.parameters.length) = some 0 := by decide +kernel
theorem hd_X3_endsDay : (yX3_endsDay).cls ≠ "java/lang/invoke/MethodHandle" ∧ (yX3_endsDay).cls ≠ "java/lang/invoke/VarHandle" ∧ (parseMethodDescriptor (yX3_endsDay).desc).map (fun d => d.parameters.length) = some 0 := by decide +kernel
theorem hd_X3_pass : (yX3_pass).cls ≠ "java/lang/invoke/MethodHandle" ∧ (yX3_pass).cls ≠ "java/lang/invoke/VarHandle" ∧ (parseMethodDescriptor (yX3_pass).desc).map (fun d => d.parameters.length) = some 1 := by decide +kernel
theorem hd_X3_day : (yX3_day).cls ≠ "java/lang/invoke/MethodHandle" ∧ (yX3_day).cls ≠ "java/lang/invoke/VarHandle" ∧ (parseMethodDescriptor (yX3_day).desc).map (fun d => d.parameters.length) = some 0 := by decide +kernel
theorem hd_X3_things : (yX3_things).cls ≠ "java/lang/invoke/MethodHandle" ∧ (yX3_things).cls ≠ "java/lang/invoke/VarHandle" ∧ (parseMethodDescriptor (yX3_things).desc).map (fun d => d.parameters.length) = some 0 := by decide +kernel
theorem hd_X3_where : (yX3_where).cls ≠ "java/lang/invoke/MethodHandle" ∧ (yX3_where).cls ≠ "java/lang/invoke/VarHandle" ∧ (parseMethodDescriptor (yX3_where).desc).map (fun d => d.parameters.length) = some 1 := by decide +kernel
theorem hd_X3_whereOn : (yX3_whereOn).cls ≠ "java/lang/invoke/MethodHandle" ∧ (yX3_whereOn).cls ≠ "java/lang/invoke/VarHandle" ∧ (parseMethodDescriptor (yX3_whereOn).desc).map (fun d => d.parameters.length) = some 2 := by decide +kernel
theorem hd_X3_load : (yX3_load).cls ≠ "java/lang/invoke/MethodHandle" ∧ (yX3_load).cls ≠ "java/lang/invoke/VarHandle" ∧ (parseMethodDescriptor (yX3_load).desc).map (fun d => d.parameters.length) = some 1 := by decide +kernel
theorem hd_X3_fees : (yX3_fees).cls ≠ "java/lang/invoke/MethodHandle" ∧ (yX3_fees).cls ≠ "java/lang/invoke/VarHandle" ∧ (parseMethodDescriptor (yX3_fees).desc).map (fun d => d.parameters.length) = some 1 := by decide +kernel
theorem hd_X3_loan : (yX3_loan).cls ≠ "java/lang/invoke/MethodHandle" ∧ (yX3_loan).cls ≠ "java/lang/invoke/VarHandle" ∧ (parseMethodDescriptor (yX3_loan).desc).map (fun d => d.parameters.length) = some 1 := by decide +kernel
theorem hd_X3_purse : (yX3_purse).cls ≠ "java/lang/invoke/MethodHandle" ∧ (yX3_purse).cls ≠ "java/lang/invoke/VarHandle" ∧ (parseMethodDescriptor (yX3_purse).desc).map (fun d => d.parameters.length) = some 1 := by decide +kernel
theorem hd_X3_taken : (yX3_taken).cls ≠ "java/lang/invoke/MethodHandle" ∧ (yX3_taken).cls ≠ "java/lang/invoke/VarHandle" ∧ (parseMethodDescriptor (yX3_taken).desc).map (fun d => d.parameters.length) = some 0 := by decide +kernel
theorem hd_X3_wish : (yX3_wish).cls ≠ "java/lang/invoke/MethodHandle" ∧ (yX3_wish).cls ≠ "java/lang/invoke/VarHandle" ∧ (parseMethodDescriptor (yX3_wish).desc).map (fun d => d.parameters.length) = some 1 := by decide +kernel
theorem hd_J9_max_7cf53 : (yJ9_max_7cf53).cls ≠ "java/lang/invoke/MethodHandle" ∧ (yJ9_max_7cf53).cls ≠ "java/lang/invoke/VarHandle" ∧ (parseMethodDescriptor (yJ9_max_7cf53).desc).map (fun d => d.parameters.length) = some 2 := by decide +kernel
theorem hd_J9_min_7cf53 : (yJ9_min_7cf53).cls ≠ "java/lang/invoke/MethodHandle" ∧ (yJ9_min_7cf53).cls ≠ "java/lang/invoke/VarHandle" ∧ (parseMethodDescriptor (yJ9_min_7cf53).desc).map (fun d => d.parameters.length) = some 2 := by decide +kernel
theorem hd_Jxa1e45_init_da8c8 : (yJxa1e45_init_da8c8).cls ≠ "java/lang/invoke/MethodHandle" ∧ (yJxa1e45_init_da8c8).cls ≠ "java/lang/invoke/VarHandle" ∧ (parseMethodDescriptor (yJxa1e45_init_da8c8).desc).map (fun d => d.parameters.length) = some 0 := by decide +kernel
theorem hd_Jxc12de_init_da8c8 : (yJxc12de_init_da8c8).cls ≠ "java/lang/invoke/MethodHandle" ∧ (yJxc12de_init_da8c8).cls ≠ "java/lang/invoke/VarHandle" ∧ (parseMethodDescriptor (yJxc12de_init_da8c8).desc).map (fun d => d.parameters.length) = some 0 := by decide +kernel
theorem hd_Jx4a65c_init_da8c8 : (yJx4a65c_init_da8c8).cls ≠ "java/lang/invoke/MethodHandle" ∧ (yJx4a65c_init_da8c8).cls ≠ "java/lang/invoke/VarHandle" ∧ (parseMethodDescriptor (yJx4a65c_init_da8c8).desc).map (fun d => d.parameters.length) = some 0 := by decide +kernel
theorem hd_Jx4a65c_grow_92f84 : (yJx4a65c_grow_92f84).cls ≠ "java/lang/invoke/MethodHandle" ∧ (yJx4a65c_grow_92f84).cls ≠ "java/lang/invoke/VarHandle" ∧ (parseMethodDescriptor (yJx4a65c_grow_92f84).desc).map (fun d => d.parameters.length) = some 1 := by decide +kernel
theorem hd_Jx4a65c_grow_d5877 : (yJx4a65c_grow_d5877).cls ≠ "java/lang/invoke/MethodHandle" ∧ (yJx4a65c_grow_d5877).cls ≠ "java/lang/invoke/VarHandle" ∧ (parseMethodDescriptor (yJx4a65c_grow_d5877).desc).map (fun d => d.parameters.length) = some 0 := by decide +kernel
theorem hd_Jx4a65c_size_8abf5 : (yJx4a65c_size_8abf5).cls ≠ "java/lang/invoke/MethodHandle" ∧ (yJx4a65c_size_8abf5).cls ≠ "java/lang/invoke/VarHandle" ∧ (parseMethodDescriptor (yJx4a65c_size_8abf5).desc).map (fun d => d.parameters.length) = some 0 := by decide +kernel
theorem hd_Jx4a65c_elementData_915e3 : (yJx4a65c_elementData_915e3).cls ≠ "java/lang/invoke/MethodHandle" ∧ (yJx4a65c_elementData_915e3).cls ≠ "java/lang/invoke/VarHandle" ∧ (parseMethodDescriptor (yJx4a65c_elementData_915e3).desc).map (fun d => d.parameters.length) = some 1 := by decide +kernel
theorem hd_Jx4a65c_get_915e3 : (yJx4a65c_get_915e3).cls ≠ "java/lang/invoke/MethodHandle" ∧ (yJx4a65c_get_915e3).cls ≠ "java/lang/invoke/VarHandle" ∧ (parseMethodDescriptor (yJx4a65c_get_915e3).desc).map (fun d => d.parameters.length) = some 1 := by decide +kernel
theorem hd_Jx4a65c_add_72be8 : (yJx4a65c_add_72be8).cls ≠ "java/lang/invoke/MethodHandle" ∧ (yJx4a65c_add_72be8).cls ≠ "java/lang/invoke/VarHandle" ∧ (parseMethodDescriptor (yJx4a65c_add_72be8).desc).map (fun d => d.parameters.length) = some 3 := by decide +kernel
theorem hd_Jx4a65c_add_9ea2d : (yJx4a65c_add_9ea2d).cls ≠ "java/lang/invoke/MethodHandle" ∧ (yJx4a65c_add_9ea2d).cls ≠ "java/lang/invoke/VarHandle" ∧ (parseMethodDescriptor (yJx4a65c_add_9ea2d).desc).map (fun d => d.parameters.length) = some 1 := by decide +kernel
theorem hd_Jx4a65c_remove_915e3 : (yJx4a65c_remove_915e3).cls ≠ "java/lang/invoke/MethodHandle" ∧ (yJx4a65c_remove_915e3).cls ≠ "java/lang/invoke/VarHandle" ∧ (parseMethodDescriptor (yJx4a65c_remove_915e3).desc).map (fun d => d.parameters.length) = some 1 := by decide +kernel
theorem hd_Jx4a65c_fastRemove_b59b0 : (yJx4a65c_fastRemove_b59b0).cls ≠ "java/lang/invoke/MethodHandle" ∧ (yJx4a65c_fastRemove_b59b0).cls ≠ "java/lang/invoke/VarHandle" ∧ (parseMethodDescriptor (yJx4a65c_fastRemove_b59b0).desc).map (fun d => d.parameters.length) = some 2 := by decide +kernel
theorem hd_J7_fill_53178 : (yJ7_fill_53178).cls ≠ "java/lang/invoke/MethodHandle" ∧ (yJ7_fill_53178).cls ≠ "java/lang/invoke/VarHandle" ∧ (parseMethodDescriptor (yJ7_fill_53178).desc).map (fun d => d.parameters.length) = some 2 := by decide +kernel
theorem hd_J7_copyOf_1904c : (yJ7_copyOf_1904c).cls ≠ "java/lang/invoke/MethodHandle" ∧ (yJ7_copyOf_1904c).cls ≠ "java/lang/invoke/VarHandle" ∧ (parseMethodDescriptor (yJ7_copyOf_1904c).desc).map (fun d => d.parameters.length) = some 2 := by decide +kernel
theorem hd_J7_copyOf_6403c : (yJ7_copyOf_6403c).cls ≠ "java/lang/invoke/MethodHandle" ∧ (yJ7_copyOf_6403c).cls ≠ "java/lang/invoke/VarHandle" ∧ (parseMethodDescriptor (yJ7_copyOf_6403c).desc).map (fun d => d.parameters.length) = some 3 := by decide +kernel
theorem hd_J15_checkIndex_7cf53 : (yJ15_checkIndex_7cf53).cls ≠ "java/lang/invoke/MethodHandle" ∧ (yJ15_checkIndex_7cf53).cls ≠ "java/lang/invoke/VarHandle" ∧ (parseMethodDescriptor (yJ15_checkIndex_7cf53).desc).map (fun d => d.parameters.length) = some 2 := by decide +kernel
theorem hd_J8_newLength_cabcc : (yJ8_newLength_cabcc).cls ≠ "java/lang/invoke/MethodHandle" ∧ (yJ8_newLength_cabcc).cls ≠ "java/lang/invoke/VarHandle" ∧ (parseMethodDescriptor (yJ8_newLength_cabcc).desc).map (fun d => d.parameters.length) = some 3 := by decide +kernel
theorem hd_J8_hugeLength_7cf53 : (yJ8_hugeLength_7cf53).cls ≠ "java/lang/invoke/MethodHandle" ∧ (yJ8_hugeLength_7cf53).cls ≠ "java/lang/invoke/VarHandle" ∧ (parseMethodDescriptor (yJ8_hugeLength_7cf53).desc).map (fun d => d.parameters.length) = some 2 := by decide +kernel
theorem hd_J3_checkIndex_8e157 : (yJ3_checkIndex_8e157).cls ≠ "java/lang/invoke/MethodHandle" ∧ (yJ3_checkIndex_8e157).cls ≠ "java/lang/invoke/VarHandle" ∧ (parseMethodDescriptor (yJ3_checkIndex_8e157).desc).map (fun d => d.parameters.length) = some 3 := by decide +kernel
theorem hd_L_setRoom : (yL_setRoom).cls ≠ "java/lang/invoke/MethodHandle" ∧ (yL_setRoom).cls ≠ "java/lang/invoke/VarHandle" ∧ (parseMethodDescriptor (yL_setRoom).desc).map (fun d => d.parameters.length) = some 4 := by decide +kernel
theorem hd_L_setVan : (yL_setVan).cls ≠ "java/lang/invoke/MethodHandle" ∧ (yL_setVan).cls ≠ "java/lang/invoke/VarHandle" ∧ (parseMethodDescriptor (yL_setVan).desc).map (fun d => d.parameters.length) = some 3 := by decide +kernel
theorem hd_L_leave : (yL_leave).cls ≠ "java/lang/invoke/MethodHandle" ∧ (yL_leave).cls ≠ "java/lang/invoke/VarHandle" ∧ (parseMethodDescriptor (yL_leave).desc).map (fun d => d.parameters.length) = some 5 := by decide +kernel
theorem hd_L_fetch : (yL_fetch).cls ≠ "java/lang/invoke/MethodHandle" ∧ (yL_fetch).cls ≠ "java/lang/invoke/VarHandle" ∧ (parseMethodDescriptor (yL_fetch).desc).map (fun d => d.parameters.length) = some 3 := by decide +kernel
theorem hd_L_want : (yL_want).cls ≠ "java/lang/invoke/MethodHandle" ∧ (yL_want).cls ≠ "java/lang/invoke/VarHandle" ∧ (parseMethodDescriptor (yL_want).desc).map (fun d => d.parameters.length) = some 4 := by decide +kernel
theorem hd_L_value : (yL_value).cls ≠ "java/lang/invoke/MethodHandle" ∧ (yL_value).cls ≠ "java/lang/invoke/VarHandle" ∧ (parseMethodDescriptor (yL_value).desc).map (fun d => d.parameters.length) = some 4 := by decide +kernel
theorem hd_L_lend : (yL_lend).cls ≠ "java/lang/invoke/MethodHandle" ∧ (yL_lend).cls ≠ "java/lang/invoke/VarHandle" ∧ (parseMethodDescriptor (yL_lend).desc).map (fun d => d.parameters.length) = some 4 := by decide +kernel
theorem hd_L_repay : (yL_repay).cls ≠ "java/lang/invoke/MethodHandle" ∧ (yL_repay).cls ≠ "java/lang/invoke/VarHandle" ∧ (parseMethodDescriptor (yL_repay).desc).map (fun d => d.parameters.length) = some 3 := by decide +kernel
theorem hd_L_doubt : (yL_doubt).cls ≠ "java/lang/invoke/MethodHandle" ∧ (yL_doubt).cls ≠ "java/lang/invoke/VarHandle" ∧ (parseMethodDescriptor (yL_doubt).desc).map (fun d => d.parameters.length) = some 3 := by decide +kernel
theorem hd_L_pass : (yL_pass).cls ≠ "java/lang/invoke/MethodHandle" ∧ (yL_pass).cls ≠ "java/lang/invoke/VarHandle" ∧ (parseMethodDescriptor (yL_pass).desc).map (fun d => d.parameters.length) = some 3 := by decide +kernel
theorem hd_L_where : (yL_where).cls ≠ "java/lang/invoke/MethodHandle" ∧ (yL_where).cls ≠ "java/lang/invoke/VarHandle" ∧ (parseMethodDescriptor (yL_where).desc).map (fun d => d.parameters.length) = some 3 := by decide +kernel
theorem hd_L_whereOn : (yL_whereOn).cls ≠ "java/lang/invoke/MethodHandle" ∧ (yL_whereOn).cls ≠ "java/lang/invoke/VarHandle" ∧ (parseMethodDescriptor (yL_whereOn).desc).map (fun d => d.parameters.length) = some 4 := by decide +kernel
theorem hd_L_load : (yL_load).cls ≠ "java/lang/invoke/MethodHandle" ∧ (yL_load).cls ≠ "java/lang/invoke/VarHandle" ∧ (parseMethodDescriptor (yL_load).desc).map (fun d => d.parameters.length) = some 3 := by decide +kernel
theorem hd_L_fees : (yL_fees).cls ≠ "java/lang/invoke/MethodHandle" ∧ (yL_fees).cls ≠ "java/lang/invoke/VarHandle" ∧ (parseMethodDescriptor (yL_fees).desc).map (fun d => d.parameters.length) = some 3 := by decide +kernel
theorem hd_L_loan : (yL_loan).cls ≠ "java/lang/invoke/MethodHandle" ∧ (yL_loan).cls ≠ "java/lang/invoke/VarHandle" ∧ (parseMethodDescriptor (yL_loan).desc).map (fun d => d.parameters.length) = some 3 := by decide +kernel
theorem hd_L_purse : (yL_purse).cls ≠ "java/lang/invoke/MethodHandle" ∧ (yL_purse).cls ≠ "java/lang/invoke/VarHandle" ∧ (parseMethodDescriptor (yL_purse).desc).map (fun d => d.parameters.length) = some 3 := by decide +kernel
theorem hd_L_wish : (yL_wish).cls ≠ "java/lang/invoke/MethodHandle" ∧ (yL_wish).cls ≠ "java/lang/invoke/VarHandle" ∧ (parseMethodDescriptor (yL_wish).desc).map (fun d => d.parameters.length) = some 3 := by decide +kernel
theorem hd_L_law : (yL_law).cls ≠ "java/lang/invoke/MethodHandle" ∧ (yL_law).cls ≠ "java/lang/invoke/VarHandle" ∧ (parseMethodDescriptor (yL_law).desc).map (fun d => d.parameters.length) = some 1 := by decide +kernel
theorem xv_get {w : xW} {a k0 ci j : Nat} {fs : List Value} {v : Value} (ha : w a = some (k0, .inr (ci, fs))) (hf : fs[j]? = some v) : ∀ w1, w1 = w → ∃ k0 fs, w1 a = some (k0, .inr (ci, fs)) ∧ fs[j]? = some v := fun w1 e => by rw [e]; exact ⟨_, _, ha, hf⟩
theorem xv_put {w : xW} {a k0 ci j : Nat} {fs : List Value} {v : Value} {P2 : xW → Prop} (ha : w a = some (k0, .inr (ci, fs))) (hl : j < fs.length) (hp : P2 (xu w a (k0, .inr (ci, fs.set j v)))) : ∀ w1, w1 = w → ∃ k0 fs, w1 a = some (k0, .inr (ci, fs)) ∧ j < fs.length ∧ P2 (xu w1 a (k0, .inr (ci, fs.set j v))) := fun w1 e => by rw [e]; exact ⟨_, _, ha, hl, hp⟩
theorem xv_obj {w : xW} {a k0 ci : Nat} {fs : List Value} (ha : w a = some (k0, .inr (ci, fs))) : ∀ w1, w1 = w → ∃ k0 fs, w1 a = some (k0, .inr (ci, fs)) := fun w1 e => by rw [e]; exact ⟨_, _, ha⟩
theorem xv_arr {w : xW} {a k0 : Nat} {x : va_E} (ha : w a = some (k0, x)) : ∀ w1, w1 = w → ∃ k0, w1 a = some (k0, x) := fun w1 e => by rw [e]; exact ⟨_, ha⟩
theorem x_then {p : Program} {e : Env} {R : Room} {s : State} {m : MethodId} {args : Array Value} {below : List Frame} {meth : Method} {c : Code} {nL : Nat} {Q : State → Prop} {P : xW → Prop} {k n pc : Nat} {lv : List (Nat × Value)} {st : List Value} {φ : Prop} {P2 : xW → Prop} (h : ∀ w, P w → φ ∧ P2 w) (kk : φ → xJ p l e R s m args below meth c G nL Q P2 k n pc lv st) : xJ p l e R s m args below meth c G nL Q P k n pc lv st := fun w H locs ls hp => kk (h w hp).1 w H locs ls (h w hp).2
theorem x_pin {p : Program} {e : Env} {R : Room} {s : State} {m : MethodId} {args : Array Value} {below : List Frame} {meth : Method} {c : Code} {nL : Nat} {Q : State → Prop} {P : xW → Prop} {k n pc : Nat} {lv : List (Nat × Value)} {st : List Value} (kk : ∀ w1, P w1 → xJ p l e R s m args below meth c G nL Q (fun w => w = w1) k n pc lv st) : xJ p l e R s m args below meth c G nL Q P k n pc lv st := fun w H locs ls hp => kk w hp w H locs ls rfl
theorem x_ldc {p : Program} {e : Env} {R : Room} {s : State} {m : MethodId} {args : Array Value} {below : List Frame} {meth : Method} {c : Code} {cc : ByteArray} {nL : Nat} {own : String} {rt : Option FieldType} {Q : State → Prop} {P : xW → Prop} {k n pc : Nat} {lv : List (Nat × Value)} {st : List Value} (Γ : xC p s m meth c G cc nL own rt) {idx : Nat} {v : Int32} (hconst : Cond.constant own idx v ∈ xAll) (hd : decode cc pc = .ok (.ldc idx, 2)) (kk : xJ p l e R s m args below meth c G nL Q P k n (pc + 2) lv (.int v :: st)) : xJ p l e R s m args below meth c G nL Q P k n pc lv st := fun w H locs ls hp hh hs hl => lv_ldc Γ.1 Γ.2.1 Γ.2.2.2.1 (Γ.2.2.2.2.2.2.1.w hconst) hd (kk w H locs ls hp hh hs hl)
set_option maxRecDepth 100000 in
theorem t_J3 {w : xW} {j N : Nat} (hj : j < N) (hN : N < 2 ^ 31) : xMet l G yJ3_checkIndex_8e157 cJ3_checkIndex_8e157 3 (some .int) ({ frames := 0, cells := 0, slots := 0, locals := 0 } : Room) [.int (nI j), .int (nI N), .null] w embI (fun r w' => r = nI j ∧ w' = w) := by
  refine xMet_of (by decide) (Nat.le_of_ble_eq_true rfl) ?_
  intro p e s m below meth c Γ hnm
  have h0 : ¬ nI j < 0 := nI_pos (by omega)
  have h1 : nI j < nI N := nI_lt hj hN
  refine x_iload_n Γ dJ3_checkIndex_8e157_0 rfl rfl ?_
  refine x_if_lt (tgt := 9) Γ dJ3_checkIndex_8e157_1 (by decide) (fun c1 => absurd c1 (h0)) (fun c1 => ?_)
  refine x_iload_n Γ dJ3_checkIndex_8e157_4 rfl rfl ?_
  refine x_iload_n Γ dJ3_checkIndex_8e157_5 rfl rfl ?_
  refine x_icmp_lt (tgt := 16) Γ dJ3_checkIndex_8e157_6 (by decide) (fun c6 => ?_) (fun c6 => absurd (h1) c6)
  refine x_iload_n Γ dJ3_checkIndex_8e157_16 rfl rfl ?_
  exact x_iret Γ rfl rfl (fun w1 e => ⟨rfl, e⟩) ⟨Nat.le_of_ble_eq_true rfl, Nat.le_of_ble_eq_true rfl⟩ dJ3_checkIndex_8e157_17
set_option maxRecDepth 100000 in
theorem t_J15 {w : xW} {j N : Nat} (hj : j < N) (hN : N < 2 ^ 31) : xMet l G yJ15_checkIndex_7cf53 cJ15_checkIndex_7cf53 2 (some .int) ({ frames := 1, cells := 0, slots := 0, locals := 22 } : Room) [.int (nI j), .int (nI N)] w embI (fun r w' => r = nI j ∧ w' = w) := by
  refine xMet_of (by decide) (Nat.le_of_ble_eq_true rfl) ?_
  intro p e s m below meth c Γ hnm
  refine x_iload_n Γ dJ15_checkIndex_7cf53_0 rfl rfl ?_
  refine x_iload_n Γ dJ15_checkIndex_7cf53_1 rfl rfl ?_
  refine x_null Γ dJ15_checkIndex_7cf53_2 ?_
  refine x_invS (emb := embI) Γ [.int (nI j), .int (nI N), .null] (fun w r w' => r = nI j ∧ w' = w) rfl (fun w _ => t_J3 hj hN) k_215 k_12 k_213 k_214 hd_J3_checkIndex_8e157 ⟨Nat.le_of_ble_eq_true rfl, Nat.le_of_ble_eq_true rfl⟩ ⟨Nat.le_of_ble_eq_true rfl, Nat.le_of_ble_eq_true rfl⟩ (Nat.le_of_ble_eq_true rfl) dJ15_checkIndex_7cf53_3 (fun r => ?_)
  refine x_then (P2 := fun w1 => w1 = w) (φ := r = nI j) (fun w2 h2 => by obtain ⟨w3, h3, h4, h5⟩ := h2; subst h5; exact ⟨h4, h3⟩) (fun e1 => ?_)
  subst e1
  exact x_iret Γ rfl rfl (fun w1 e => ⟨rfl, e⟩) ⟨Nat.le_of_ble_eq_true rfl, Nat.le_of_ble_eq_true rfl⟩ dJ15_checkIndex_7cf53_6
/-- a list: its object has colour col, its row colour col + 2 -/
def LstAt (G : xG) (w : xW) (a col len : Nat) (f : Nat → Nat) : Prop :=
  ∃ (mc : Int32) (el : Nat), w a = some (col, .inr (0, [.int mc, .ref el, .int (nI len)])) ∧ len ≤ 900 ∧ ((len = 0 ∧ el = G.2 4) ∨ ∃ (cap : Nat) (g : Nat → Option Nat), w el = some (col + 2, .inl (G.2 3, cap, .inr (.inr (.inr (.inr g))))) ∧ len ≤ cap ∧ 10 ≤ cap ∧ cap ≤ 900 ∧ ∀ i, i < len → g i = some (f i))
def KpL (col : Nat) (w w' : xW) : Prop := ∀ (b k : Nat) (e : va_E), w b = some (k, e) → k ≠ col → k ≠ col + 2 → w' b = some (k, e)
theorem KpL.rf {col : Nat} {w : xW} : KpL col w w := fun _ _ _ h _ _ => h
theorem KpL.tr {col : Nat} {w w1 w2 : xW} (h : KpL col w w1) (h2 : KpL col w1 w2) : KpL col w w2 := fun b k e hb h3 h4 => h2 b k e (h b k e hb h3 h4) h3 h4
theorem KpL.set {col : Nat} {w w1 : xW} (h : KpL col w w1) {a k : Nat} {e0 : va_E} {x : Nat × va_E} (ha : w1 a = some (k, e0)) (hk : k = col ∨ k = col + 2) : KpL col w (xu w1 a x) := fun b j e hb h3 h4 => xu_far (h b j e hb h3 h4) ha (by omega)
theorem KpL.new {col : Nat} {w w1 : xW} (h : KpL col w w1) {a : Nat} {x : Nat × va_E} (ha : w1 a = none) : KpL col w (xu w1 a x) := fun b j e hb h3 h4 => xu_new (h b j e hb h3 h4) ha
set_option maxRecDepth 100000 in
theorem t_size {w : xW} {a col len : Nat} {f : Nat → Nat} (h : LstAt G w a col len f) : xMet l G yJx4a65c_size_8abf5 cJx4a65c_size_8abf5 1 (some .int) ({ frames := 0, cells := 0, slots := 0, locals := 0 } : Room) [.ref a] w embI (fun r w' => r = nI len ∧ w' = w) := by
  obtain ⟨mc, el, ha, -⟩ := h
  refine xMet_of (by decide) (Nat.le_of_ble_eq_true rfl) ?_
  intro p e s m below meth c Γ hnm
  refine x_aload_n Γ dJx4a65c_size_8abf5_0 rfl rfl ?_
  refine x_getf Γ kl0 2 (xv_get ha rfl) (by decide) k_43 (Or.inl rfl) dJx4a65c_size_8abf5_1 ?_
  exact x_iret Γ rfl rfl (fun w1 e => ⟨rfl, e⟩) ⟨Nat.le_of_ble_eq_true rfl, Nat.le_of_ble_eq_true rfl⟩ dJx4a65c_size_8abf5_4
set_option maxRecDepth 100000 in
theorem t_elementData {w : xW} {a el j cap q k0 k1 : Nat} {mc x : Int32} {g : Nat → Option Nat} (ha : w a = some (k0, .inr (0, [.int mc, .ref el, .int x]))) (he : w el = some (k1, .inl (G.2 3, cap, .inr (.inr (.inr (.inr g)))))) (hj : j < cap) (hN : cap < 2 ^ 31) (hg : g j = some q) : xMet l G yJx4a65c_elementData_915e3 cJx4a65c_elementData_915e3 2 (some (.object "java/lang/Object")) ({ frames := 0, cells := 0, slots := 0, locals := 0 } : Room) [.ref a, .int (nI j)] w embA (fun r w' => r = q ∧ w' = w) := by
  refine xMet_of (by decide) (Nat.le_of_ble_eq_true rfl) ?_
  intro p e s m below meth c Γ hnm
  refine x_aload_n Γ dJx4a65c_elementData_915e3_0 rfl rfl ?_
  refine x_getf Γ kl0 1 (xv_get ha rfl) (by decide) k_42 (Or.inl rfl) dJx4a65c_elementData_915e3_1 ?_
  refine x_iload_n Γ dJx4a65c_elementData_915e3_4 rfl rfl ?_
  refine x_aald Γ (xv_arr he) (vp_in_nI hj hN) (b := q) (by rw [nI_clamp (by omega)]; exact hg) dJx4a65c_elementData_915e3_5 ?_
  exact x_aret Γ rfl (Or.inl ⟨_, rfl⟩) (fun w1 e => ⟨rfl, e⟩) ⟨Nat.le_of_ble_eq_true rfl, Nat.le_of_ble_eq_true rfl⟩ dJx4a65c_elementData_915e3_6
set_option maxRecDepth 100000 in
theorem t_get {w : xW} {a col len j : Nat} {f : Nat → Nat} (h : LstAt G w a col len f) (hj : j < len) : xMet l G yJx4a65c_get_915e3 cJx4a65c_get_915e3 2 (some (.object "java/lang/Object")) ({ frames := 2, cells := 0, slots := 0, locals := 43 } : Room) [.ref a, .int (nI j)] w embA (fun r w' => r = f j ∧ w' = w) := by
  obtain ⟨mc, el, ha, hlen, h | ⟨cap, g, he, h1, h2, h3, h4⟩⟩ := h
  · omega
  · refine xMet_of (by decide) (Nat.le_of_ble_eq_true rfl) ?_
    intro p e s m below meth c Γ hnm
    refine x_iload_n Γ dJx4a65c_get_915e3_0 rfl rfl ?_
    refine x_aload_n Γ dJx4a65c_get_915e3_1 rfl rfl ?_
    refine x_getf Γ kl0 2 (xv_get ha rfl) (by decide) k_43 (Or.inl rfl) dJx4a65c_get_915e3_2 ?_
    refine x_invS (emb := embI) Γ [.int (nI j), .int (nI len)] (fun w r w' => r = nI j ∧ w' = w) rfl (fun w _ => t_J15 hj (by omega)) k_212 k_11 k_210 k_211 hd_J15_checkIndex_7cf53 ⟨Nat.le_of_ble_eq_true rfl, Nat.le_of_ble_eq_true rfl⟩ ⟨Nat.le_of_ble_eq_true rfl, Nat.le_of_ble_eq_true rfl⟩ (Nat.le_of_ble_eq_true rfl) dJx4a65c_get_915e3_5 (fun r => ?_)
    refine x_then (P2 := fun w1 => w1 = w) (φ := r = nI j) (fun w2 h2 => by obtain ⟨w3, h3, h4, h5⟩ := h2; subst h5; exact ⟨h4, h3⟩) (fun e1 => ?_)
    subst e1
    refine x_pop Γ dJx4a65c_get_915e3_8 rfl ?_
    refine x_aload_n Γ dJx4a65c_get_915e3_9 rfl rfl ?_
    refine x_iload_n Γ dJx4a65c_get_915e3_10 rfl rfl ?_
    refine x_invV (emb := embA) (ci := 0) Γ [.int (nI j)] (fun w r w' => r = f j ∧ w' = w) rfl (fun w1 e1 => by subst e1; exact t_elementData ha he (by omega) (by omega) (h4 j hj)) (xv_obj ha) rfl k_219 k_4 k_216 k_217 k_218 hd_Jx4a65c_elementData_915e3 ⟨Nat.le_of_ble_eq_true rfl, Nat.le_of_ble_eq_true rfl⟩ ⟨Nat.le_of_ble_eq_true rfl, Nat.le_of_ble_eq_true rfl⟩ (Nat.le_of_ble_eq_true rfl) dJx4a65c_get_915e3_11 (fun r => ?_)
    refine x_then (P2 := fun w1 => w1 = w) (φ := r = f j) (fun w2 h2 => by obtain ⟨w3, h3, h4, h5⟩ := h2; subst h5; exact ⟨h4, h3⟩) (fun e1 => ?_)
    subst e1
    exact x_aret Γ rfl (Or.inl ⟨_, rfl⟩) (fun w1 e => ⟨rfl, e⟩) ⟨Nat.le_of_ble_eq_true rfl, Nat.le_of_ble_eq_true rfl⟩ dJx4a65c_get_915e3_14
end XJ1
end
section
section XJ2
variable {l : Launch} {G : xG}
theorem nI_hi {a b : Nat} (h : a < b) (hb : b < 2 ^ 31) : ¬ nI b < nI a := nI_nlt (by omega) hb
theorem xK_cast : Cond.castable RX1 "java/lang/Object" ∈ xAll := k_768
set_option maxRecDepth 100000 in
theorem t_acinit {w : xW} {a : Nat} : xMet l G yJxa1e45_init_da8c8 cJxa1e45_init_da8c8 1 none ({ frames := 1, cells := 0, slots := 0, locals := 12 } : Room) [.ref a] w embV (fun _ w' => w' = w) := by
  refine xMet_of (by decide) (Nat.le_of_ble_eq_true rfl) ?_
  intro p e s m below meth c Γ hnm
  refine x_aload_n Γ dJxa1e45_init_da8c8_0 rfl rfl ?_
  refine x_obj Γ k_39 ⟨Nat.le_of_ble_eq_true rfl, Nat.le_of_ble_eq_true rfl⟩ dJxa1e45_init_da8c8_1 ?_
  exact x_vret Γ rfl (fun w1 e => e) ⟨Nat.le_of_ble_eq_true rfl, Nat.le_of_ble_eq_true rfl⟩ dJxa1e45_init_da8c8_4
set_option maxRecDepth 100000 in
theorem t_alinit {w : xW} {a col : Nat} {x : Int32} {v1 v2 : Value} (ha : w a = some (col, .inr (0, [.int x, v1, v2]))) : xMet l G yJxc12de_init_da8c8 cJxc12de_init_da8c8 1 none ({ frames := 2, cells := 0, slots := 0, locals := 32 } : Room) [.ref a] w embV (fun _ w' => w' = xu w a (col, .inr (0, [.int 0, v1, v2]))) := by
  refine xMet_of (by decide) (Nat.le_of_ble_eq_true rfl) ?_
  intro p e s m below meth c Γ hnm
  refine x_aload_n Γ dJxc12de_init_da8c8_0 rfl rfl ?_
  refine x_invI Γ [] (fun w _ w' => w' = w) rfl (fun w _ => t_acinit) rfl k_38 k_2 k_36 k_37 hd_Jxa1e45_init_da8c8 ⟨Nat.le_of_ble_eq_true rfl, Nat.le_of_ble_eq_true rfl⟩ ⟨Nat.le_of_ble_eq_true rfl, Nat.le_of_ble_eq_true rfl⟩ (Nat.le_of_ble_eq_true rfl) dJxc12de_init_da8c8_1 (fun _ => ?_)
  refine x_then (P2 := fun w1 => w1 = w) (φ := True) (fun w2 h2 => by obtain ⟨w3, h3, h5⟩ := h2; exact ⟨trivial, by rw [h5, h3]⟩) (fun _ => ?_)
  refine x_aload_n Γ dJxc12de_init_da8c8_4 rfl rfl ?_
  refine x_iconst (v := 0) Γ dJxc12de_init_da8c8_5 (by decide) ?_
  refine x_putf (P' := fun w1 => w1 = xu w a (col, .inr (0, [.int 0, v1, v2]))) Γ kl0 0 (fun w9 e9 => by rw [e9]; exact ⟨_, _, ha, Nat.le_of_ble_eq_true rfl, rfl⟩) (by decide) k_44 (Or.inl rfl) rfl rfl rfl dJxc12de_init_da8c8_6 ?_
  exact x_vret Γ rfl (fun w1 e => e) ⟨Nat.le_of_ble_eq_true rfl, Nat.le_of_ble_eq_true rfl⟩ dJxc12de_init_da8c8_9
set_option maxRecDepth 100000 in
theorem t_newlist {w : xW} {a col : Nat} {f : Nat → Nat} (ha : w a = some (col, .inr (0, [.int 0, .null, .int 0]))) : xMet l G yJx4a65c_init_da8c8 cJx4a65c_init_da8c8 1 none ({ frames := 3, cells := 0, slots := 0, locals := 52 } : Room) [.ref a] w embV (fun _ w' => LstAt G w' a col 0 f ∧ KpL col w w') := by
  refine xMet_of (by decide) (Nat.le_of_ble_eq_true rfl) ?_
  intro p e s m below meth c Γ hnm
  refine x_aload_n Γ dJx4a65c_init_da8c8_0 rfl rfl ?_
  refine x_invI Γ [] (fun w _ w' => w' = xu w a (col, .inr (0, [.int 0, .null, .int 0]))) rfl (fun w1 e1 => by subst e1; exact t_alinit ha) rfl k_35 k_3 k_33 k_34 hd_Jxc12de_init_da8c8 ⟨Nat.le_of_ble_eq_true rfl, Nat.le_of_ble_eq_true rfl⟩ ⟨Nat.le_of_ble_eq_true rfl, Nat.le_of_ble_eq_true rfl⟩ (Nat.le_of_ble_eq_true rfl) dJx4a65c_init_da8c8_1 (fun _ => ?_)
  refine x_then (P2 := fun w1 => w1 = xu w a (col, .inr (0, [.int 0, .null, .int 0]))) (φ := True) (fun w2 h2 => by obtain ⟨w3, h3, h5⟩ := h2; exact ⟨trivial, by rw [h5, h3]⟩) (fun _ => ?_)
  refine x_pin (fun w1 hw1 => ?_)
  have ha1 : w1 a = some (col, .inr (0, [.int 0, .null, .int 0])) := by rw [hw1]; exact xu_eq _ _ _
  refine x_aload_n Γ dJx4a65c_init_da8c8_4 rfl rfl ?_
  refine x_gets Γ dJx4a65c_init_da8c8_5 ?_
  refine x_putf (P' := fun w2 => w2 = xu w1 a (col, .inr (0, [.int 0, .ref (G.2 4), .int 0]))) Γ kl0 1 (fun w9 e9 => by rw [e9]; exact ⟨_, _, ha1, Nat.le_of_ble_eq_true rfl, rfl⟩) (by decide) k_42 (Or.inl rfl) rfl rfl rfl dJx4a65c_init_da8c8_8 ?_
  refine x_vret Γ rfl (fun w2 e => ?_) ⟨Nat.le_of_ble_eq_true rfl, Nat.le_of_ble_eq_true rfl⟩ dJx4a65c_init_da8c8_11
  subst e; subst hw1
  exact ⟨⟨0, G.2 4, xu_eq _ _ _, by omega, Or.inl ⟨rfl, rfl⟩⟩, (KpL.rf.set ha (Or.inl rfl)).set ha1 (Or.inl rfl)⟩
set_option maxRecDepth 100000 in
theorem t_newLength {w : xW} {a b : Nat} (h1 : a ≤ 1000) (h2 : b ≤ 1000) : xMet l G yJ8_newLength_cabcc cJ8_newLength_cabcc 4 (some .int) ({ frames := 1, cells := 0, slots := 0, locals := 30 } : Room) [.int (nI a), .int (nI 1), .int (nI b)] w embI (fun r w' => r = nI (a + max 1 b) ∧ w' = w) := by
  have hm : (if nI 1 < nI b then nI b else nI 1) = nI (max 1 b) := by
    by_cases h : 1 < b
    · rw [if_pos (nI_lt h (by omega)), Nat.max_eq_right (by omega)]
    · rw [if_neg (nI_nlt (by omega) (by omega)), Nat.max_eq_left (by omega)]
  refine xMet_of (by decide) (Nat.le_of_ble_eq_true rfl) ?_
  intro p e s m below meth c Γ hnm
  refine x_iload_n Γ dJ8_newLength_cabcc_0 rfl rfl ?_
  refine x_iload_n Γ dJ8_newLength_cabcc_1 rfl rfl ?_
  refine x_iload_n Γ dJ8_newLength_cabcc_2 rfl rfl ?_
  refine x_max Γ k_328 k_329 k_330 k_17 ⟨Nat.le_of_ble_eq_true rfl, Nat.le_of_ble_eq_true rfl, Nat.le_of_ble_eq_true rfl, Nat.le_of_ble_eq_true rfl⟩ dJ8_newLength_cabcc_3 ?_
  rw [hm]
  refine x_iadd Γ dJ8_newLength_cabcc_6 ?_
  rw [nI_add]
  refine x_istore_n Γ dJ8_newLength_cabcc_7 rfl rfl (by decide) ?_
  refine x_iconst (v := 0) Γ dJ8_newLength_cabcc_8 (by decide) ?_
  refine x_iload_n Γ dJ8_newLength_cabcc_9 rfl rfl ?_
  refine x_icmp_ge (tgt := 21) Γ dJ8_newLength_cabcc_10 (by decide) (fun c10 => absurd c10 (nI_nle (by omega) (by omega))) (fun c10 => ?_)
  refine x_iload_n Γ dJ8_newLength_cabcc_13 rfl rfl ?_
  refine x_ldc Γ k_331 dJ8_newLength_cabcc_14 ?_
  refine x_icmp_gt (tgt := 21) Γ dJ8_newLength_cabcc_16 (by decide) (fun c16 => absurd c16 ((by have h := nI_hi (a := a + max 1 b) (b := 2147483639) (by omega) (by omega); exact h))) (fun c16 => ?_)
  refine x_iload_n Γ dJ8_newLength_cabcc_19 rfl rfl ?_
  exact x_iret Γ rfl rfl (fun w1 e => ⟨rfl, e⟩) ⟨Nat.le_of_ble_eq_true rfl, Nat.le_of_ble_eq_true rfl⟩ dJ8_newLength_cabcc_20
theorem sb_cpy0A {f g : Nat → Option Nat} {n j : Nat} (h : j < n) : va_cpy f g 0 0 n j = f j := by
  rw [pk_cpy_in (Nat.zero_le _) (by omega), Nat.zero_add, Nat.sub_zero]
set_option maxRecDepth 100000 in
theorem t_copyOf3 {w : xW} {el cap N ce cn : Nat} {g : Nat → Option Nat} (he : w el = some (ce, .inl (G.2 3, cap, .inr (.inr (.inr (.inr g)))))) (h1 : cap ≤ N) (h2 : N ≤ 2000) (hel : ∀ i y, i < cap → g i = some y → ∃ k1 fs, w y = some (k1, .inr (2, fs))) : xMet l G yJ7_copyOf_6403c cJ7_copyOf_6403c 4 (some (.array (.object "java/lang/Object"))) ({ frames := 1, cells := 1, slots := N, locals := 60 } : Room) [.ref el, .int (nI N), .ref (G.2 5)] w embA (fun q w' => w q = none ∧ ∃ g' : Nat → Option Nat, w' = xu w q (cn, .inl (G.2 3, N, .inr (.inr (.inr (.inr g'))))) ∧ ∀ i, i < cap → g' i = g i) := by
  have hm : (if nI N < nI cap then nI N else nI cap) = nI cap := if_neg (nI_nlt h1 (by omega))
  refine xMet_of (by decide) (Nat.le_of_ble_eq_true rfl) ?_
  intro p e s m below meth c Γ hnm
  refine x_aload_n Γ dJ7_copyOf_6403c_0 rfl rfl ?_
  refine x_ldcM Γ k_353 dJ7_copyOf_6403c_1 ?_
  refine x_acmp_ne (tgt := 13) Γ dJ7_copyOf_6403c_3 (by decide) (fun c => absurd rfl c) (fun _ => ?_)
  refine x_iload_n Γ dJ7_copyOf_6403c_6 rfl rfl ?_
  refine x_newA Γ cn rfl (by omega) k_355 (F := fun q w1 => w q = none ∧ w1 = xu w q (cn, .inl (G.2 3, N, .inr (.inr (.inr (.inr (fun _ => none))))))) (fun w1 q e1 h0 => by subst e1; exact ⟨h0, rfl⟩) ⟨Nat.le_of_ble_eq_true rfl, Nat.le_of_eq (Nat.zero_add _)⟩ dJ7_copyOf_6403c_7 (fun q => ?_)
  refine x_pin (fun w1 hw1 => ?_)
  obtain ⟨hq, hw1⟩ := hw1
  have he1 : w1 el = some (ce, .inl (G.2 3, cap, .inr (.inr (.inr (.inr g))))) := by rw [hw1]; exact xu_new he hq
  have hq1 : w1 q = some (cn, .inl (G.2 3, N, .inr (.inr (.inr (.inr (fun _ => none)))))) := by rw [hw1]; exact xu_eq _ _ _
  refine x_goto (tgt := 24) Γ dJ7_copyOf_6403c_10 (by decide) ?_
  refine x_astore_n Γ dJ7_copyOf_6403c_24 rfl rfl (by decide) ?_
  refine x_aload_n Γ dJ7_copyOf_6403c_25 rfl rfl ?_
  refine x_iconst (v := 0) Γ dJ7_copyOf_6403c_26 (by decide) ?_
  refine x_aload_n Γ dJ7_copyOf_6403c_27 rfl rfl ?_
  refine x_iconst (v := 0) Γ dJ7_copyOf_6403c_28 (by decide) ?_
  refine x_aload_n Γ dJ7_copyOf_6403c_29 rfl rfl ?_
  refine x_alen Γ (N := cap) (fun w2 e2 => by rw [e2]; exact ⟨_, _, Or.inr (Or.inr he1)⟩) dJ7_copyOf_6403c_30 ?_
  refine x_iload_n Γ dJ7_copyOf_6403c_31 rfl rfl ?_
  refine x_min Γ k_356 k_357 k_358 k_17 ⟨Nat.le_of_ble_eq_true rfl, Nat.le_of_ble_eq_true rfl, Nat.le_of_ble_eq_true rfl, Nat.le_of_eq (Nat.zero_add _)⟩ dJ7_copyOf_6403c_32 ?_
  rw [hm]
  refine x_copy (P' := fun w2 => w2 = xu w1 q (cn, .inl (G.2 3, N, .inr (.inr (.inr (.inr (va_cpy g (fun _ => none) (0 : Int32).toNatClampNeg (0 : Int32).toNatClampNeg (nI cap).toNatClampNeg))))))) Γ k_359 k_361 k_360 k_18 (fun w2 e2 => by rw [e2]; exact ⟨_, _, he1, hq1, rfl⟩) (by decide) (by decide) (nI_pos (by omega)) (by rw [sb_cl0, nI_clamp (by omega)]; omega) (by rw [sb_cl0, nI_clamp (by omega)]; omega) (fun w2 e2 i hi y hy => ?_) ⟨Nat.le_of_ble_eq_true rfl, Nat.le_of_ble_eq_true rfl⟩ dJ7_copyOf_6403c_35 ?_
  · rw [sb_cl0, Nat.zero_add] at hy; rw [nI_clamp (by omega)] at hi
    obtain ⟨k1, fs, h9⟩ := hel i y hi hy
    rw [e2]
    exact ⟨k1, 2, fs, by rw [hw1]; exact xu_new h9 hq, _, rfl, xK_cast⟩
  refine x_aload_n Γ dJ7_copyOf_6403c_38 rfl rfl ?_
  refine x_aret Γ rfl (Or.inr ⟨_, rfl⟩) (fun w2 e2 => ?_) ⟨Nat.le_of_ble_eq_true rfl, Nat.le_of_eq (Nat.zero_add _)⟩ dJ7_copyOf_6403c_39
  refine ⟨hq, va_cpy g (fun _ => none) 0 0 cap, ?_, fun i hi => ?_⟩
  · subst e2; subst hw1
    funext z
    rw [sb_cl0, nI_clamp (by omega)]
    by_cases hz : z = q
    · subst hz; rw [xu_eq, xu_eq]
    · rw [xu_ne hz, xu_ne hz, xu_ne hz]
  · exact sb_cpy0A hi
set_option maxRecDepth 100000 in
theorem t_copyOf {w : xW} {el cap N ce cn : Nat} {g : Nat → Option Nat} (he : w el = some (ce, .inl (G.2 3, cap, .inr (.inr (.inr (.inr g)))))) (h1 : cap ≤ N) (h2 : N ≤ 2000) (hel : ∀ i y, i < cap → g i = some y → ∃ k1 fs, w y = some (k1, .inr (2, fs))) : xMet l G yJ7_copyOf_1904c cJ7_copyOf_1904c 2 (some (.array (.object "java/lang/Object"))) ({ frames := 2, cells := 1, slots := N, locals := 90 } : Room) [.ref el, .int (nI N)] w embA (fun q w' => w q = none ∧ ∃ g' : Nat → Option Nat, w' = xu w q (cn, .inl (G.2 3, N, .inr (.inr (.inr (.inr g'))))) ∧ ∀ i, i < cap → g' i = g i) := by
  refine xMet_of (by decide) (Nat.le_of_ble_eq_true rfl) ?_
  intro p e s m below meth c Γ hnm
  refine x_aload_n Γ dJ7_copyOf_1904c_0 rfl rfl ?_
  refine x_iload_n Γ dJ7_copyOf_1904c_1 rfl rfl ?_
  refine x_aload_n Γ dJ7_copyOf_1904c_2 rfl rfl ?_
  refine x_getC Γ (xv_arr he) k_338 k_775 k_774 k_339 k_349 ⟨Nat.le_of_ble_eq_true rfl, Nat.le_of_ble_eq_true rfl⟩ dJ7_copyOf_1904c_3 ?_
  refine x_invS (emb := embA) (rm := ({ frames := 1, cells := 1, slots := N, locals := 60 } : Room)) Γ [.ref el, .int (nI N), .ref (G.2 5)] (fun w q w' => w q = none ∧ ∃ g' : Nat → Option Nat, w' = xu w q (cn, .inl (G.2 3, N, .inr (.inr (.inr (.inr g'))))) ∧ ∀ i, i < cap → g' i = g i) rfl (fun w1 e1 => by subst e1; exact t_copyOf3 he h1 h2 hel) k_352 k_5 k_350 k_351 hd_J7_copyOf_6403c ⟨Nat.le_of_ble_eq_true rfl, Nat.le_of_ble_eq_true rfl⟩ ⟨Nat.le_of_ble_eq_true rfl, Nat.le_of_eq (Nat.zero_add _)⟩ (Nat.le_of_ble_eq_true rfl) dJ7_copyOf_1904c_6 (fun q => ?_)
  refine x_weak (P' := fun w' => (fun q w' => w q = none ∧ ∃ g' : Nat → Option Nat, w' = xu w q (cn, .inl (G.2 3, N, .inr (.inr (.inr (.inr g'))))) ∧ ∀ i, i < cap → g' i = g i) q w') (fun w2 h2 => by obtain ⟨w3, h3, h4⟩ := h2; subst h3; exact h4) ?_
  exact x_aret Γ rfl (Or.inr ⟨_, rfl⟩) (fun w2 e2 => e2) ⟨Nat.le_of_ble_eq_true rfl, Nat.le_of_eq (Nat.zero_add _)⟩ dJ7_copyOf_1904c_9
end XJ2
end
section
section XJ3
variable {l : Launch} {G : xG}
set_option maxRecDepth 100000 in
theorem t_grow1 {w : xW} {a el col len : Nat} {mc : Int32} {f : Nat → Nat} (ha : w a = some (col, .inr (0, [.int mc, .ref el, .int (nI len)]))) (hst : (len = 0 ∧ el = G.2 4) ∨ ∃ g : Nat → Option Nat, w el = some (col + 2, .inl (G.2 3, len, .inr (.inr (.inr (.inr g))))) ∧ 10 ≤ len ∧ len ≤ 24 ∧ ∀ i, i < len → g i = some (f i)) (hel : ∀ i, i < len → ∃ k1 fs, w (f i) = some (k1, .inr (2, fs))) : xMet l G yJx4a65c_grow_92f84 cJx4a65c_grow_92f84 4 (some (.array (.object "java/lang/Object"))) ({ frames := 3, cells := 1, slots := 40, locals := 125 } : Room) [.ref a, .int (nI (len + 1))] w embA (fun q w' => (∃ (cap : Nat) (g' : Nat → Option Nat), w' a = some (col, .inr (0, [.int mc, .ref q, .int (nI len)])) ∧ w' q = some (col + 2, .inl (G.2 3, cap, .inr (.inr (.inr (.inr g'))))) ∧ len < cap ∧ 10 ≤ cap ∧ cap ≤ 40 ∧ ∀ i, i < len → g' i = some (f i)) ∧ KpL col w w') := by
  rcases hst with ⟨h0, h1⟩ | ⟨g, he, h1, h2, h3⟩
  · subst h0; subst h1
    refine xMet_of (by decide) (Nat.le_of_ble_eq_true rfl) ?_
    intro p e s m below meth c Γ hnm
    refine x_aload_n Γ dJx4a65c_grow_92f84_0 rfl rfl ?_
    refine x_getf Γ kl0 1 (xv_get ha rfl) (by decide) k_42 (Or.inl rfl) dJx4a65c_grow_92f84_1 ?_
    refine x_slen0 Γ dJx4a65c_grow_92f84_4 ?_
    refine x_istore_n Γ dJx4a65c_grow_92f84_5 rfl rfl (by decide) ?_
    refine x_iload_n Γ dJx4a65c_grow_92f84_6 rfl rfl ?_
    refine x_if_gt (tgt := 20) Γ dJx4a65c_grow_92f84_7 (by decide) (fun c7 => absurd c7 (by decide)) (fun c7 => ?_)
    refine x_aload_n Γ dJx4a65c_grow_92f84_10 rfl rfl ?_
    refine x_getf Γ kl0 1 (xv_get ha rfl) (by decide) k_42 (Or.inl rfl) dJx4a65c_grow_92f84_11 ?_
    refine x_gets Γ dJx4a65c_grow_92f84_14 ?_
    refine x_acmp_eq (tgt := 45) Γ dJx4a65c_grow_92f84_17 (by decide) (fun _ => ?_) (fun c => absurd rfl c)
    refine x_aload_n Γ dJx4a65c_grow_92f84_45 rfl rfl ?_
    refine x_bipush (v := 10) Γ dJx4a65c_grow_92f84_46 (by decide) ?_
    refine x_iload_n Γ dJx4a65c_grow_92f84_48 rfl rfl ?_
    refine x_max Γ k_362 k_329 k_330 k_17 ⟨Nat.le_of_ble_eq_true rfl, Nat.le_of_ble_eq_true rfl, Nat.le_of_ble_eq_true rfl, Nat.le_of_ble_eq_true rfl⟩ dJx4a65c_grow_92f84_49 ?_
    rw [show (if (10 : Int32) < nI (0 + 1) then nI (0 + 1) else 10) = nI 10 from by decide]
    refine x_newA Γ (col + 2) rfl (by omega) k_363 (F := fun q w1 => w q = none ∧ w1 = xu w q (col + 2, .inl (G.2 3, 10, .inr (.inr (.inr (.inr (fun _ => none))))))) (fun w1 q e1 h0 => by subst e1; exact ⟨h0, rfl⟩) ⟨Nat.le_of_ble_eq_true rfl, Nat.le_of_ble_eq_true rfl⟩ dJx4a65c_grow_92f84_52 (fun q => ?_)
    refine x_pin (fun w1 hw1 => ?_)
    obtain ⟨hq, hw1⟩ := hw1
    have ha1 : w1 a = some (col, .inr (0, [.int mc, .ref (G.2 4), .int (nI 0)])) := by rw [hw1]; exact xu_new ha hq
    have hq1 : w1 q = some (col + 2, .inl (G.2 3, 10, .inr (.inr (.inr (.inr (fun _ => none)))))) := by rw [hw1]; exact xu_eq _ _ _
    refine x_dup_x1 Γ dJx4a65c_grow_92f84_55 rfl rfl ?_
    refine x_putf (P' := fun w2 => w2 = xu w1 a (col, .inr (0, [.int mc, .ref q, .int (nI 0)]))) Γ kl0 1 (fun w9 e9 => by rw [e9]; exact ⟨_, _, ha1, Nat.le_of_ble_eq_true rfl, rfl⟩) (by decide) k_42 (Or.inl rfl) rfl rfl rfl dJx4a65c_grow_92f84_56 ?_
    refine x_aret Γ rfl (Or.inr ⟨_, rfl⟩) (fun w9 e9 => ?_) ⟨Nat.le_of_ble_eq_true rfl, Nat.le_of_ble_eq_true rfl⟩ dJx4a65c_grow_92f84_59
    subst e9
    exact ⟨⟨10, _, xu_eq _ _ _, xu_far hq1 ha1 (by omega), by omega, by omega, by omega, fun i hi => absurd hi (by omega)⟩, KpL.set (by rw [hw1]; exact KpL.rf.new hq) ha1 (Or.inl rfl)⟩
  · have hs1 : nI (len + 1) - nI len = nI 1 := by rw [pk_sub (by omega), Nat.add_sub_cancel_left]
    have hs2 : nI len >>> ((1 : Int32) &&& 31) = nI (len / 2) := by
      have h9 := pk_shrN (n := len) (by omega) ((1 : Int32) &&& 31) 1 (by decide)
      rw [Nat.pow_one] at h9
      exact h9
    have hN : 0 + (len + max 1 (len / 2)) ≤ 40 := by omega
    refine xMet_of (by decide) (Nat.le_of_ble_eq_true rfl) ?_
    intro p e s m below meth c Γ hnm
    refine x_aload_n Γ dJx4a65c_grow_92f84_0 rfl rfl ?_
    refine x_getf Γ kl0 1 (xv_get ha rfl) (by decide) k_42 (Or.inl rfl) dJx4a65c_grow_92f84_1 ?_
    refine x_alen Γ (N := len) (fun w2 e2 => by rw [e2]; exact ⟨_, _, Or.inr (Or.inr he)⟩) dJx4a65c_grow_92f84_4 ?_
    refine x_istore_n Γ dJx4a65c_grow_92f84_5 rfl rfl (by decide) ?_
    refine x_iload_n Γ dJx4a65c_grow_92f84_6 rfl rfl ?_
    refine x_if_gt (tgt := 20) Γ dJx4a65c_grow_92f84_7 (by decide) (fun c7 => ?_) (fun c7 => absurd (by rw [← nI_0]; exact nI_lt (by omega) (by omega)) c7)
    refine x_iload_n Γ dJx4a65c_grow_92f84_20 rfl rfl ?_
    refine x_iload_n Γ dJx4a65c_grow_92f84_21 rfl rfl ?_
    refine x_iload_n Γ dJx4a65c_grow_92f84_22 rfl rfl ?_
    refine x_isub Γ dJx4a65c_grow_92f84_23 ?_
    rw [hs1]
    refine x_iload_n Γ dJx4a65c_grow_92f84_24 rfl rfl ?_
    refine x_iconst (v := 1) Γ dJx4a65c_grow_92f84_25 (by decide) ?_
    refine x_ishr Γ dJx4a65c_grow_92f84_26 ?_
    rw [hs2]
    refine x_invS (emb := embI) (rm := ({ frames := 1, cells := 0, slots := 0, locals := 30 } : Room)) Γ [.int (nI len), .int (nI 1), .int (nI (len / 2))] (fun w r w' => r = nI (len + max 1 (len / 2)) ∧ w' = w) rfl (fun w _ => t_newLength (by omega) (by omega)) k_327 k_16 k_325 k_326 hd_J8_newLength_cabcc ⟨Nat.le_of_ble_eq_true rfl, Nat.le_of_ble_eq_true rfl⟩ ⟨Nat.le_of_ble_eq_true rfl, Nat.le_of_ble_eq_true rfl⟩ (Nat.le_of_ble_eq_true rfl) dJx4a65c_grow_92f84_27 (fun r => ?_)
    refine x_then (P2 := fun w1 => w1 = w) (φ := r = nI (len + max 1 (len / 2))) (fun w2 h2 => by obtain ⟨w3, h3, h4, h5⟩ := h2; subst h5; exact ⟨h4, h3⟩) (fun e1 => ?_)
    subst e1
    refine x_istore_n Γ dJx4a65c_grow_92f84_30 rfl rfl (by decide) ?_
    refine x_aload_n Γ dJx4a65c_grow_92f84_31 rfl rfl ?_
    refine x_aload_n Γ dJx4a65c_grow_92f84_32 rfl rfl ?_
    refine x_getf Γ kl0 1 (xv_get ha rfl) (by decide) k_42 (Or.inl rfl) dJx4a65c_grow_92f84_33 ?_
    refine x_iload_n Γ dJx4a65c_grow_92f84_36 rfl rfl ?_
    refine x_invS (emb := embA) (rm := ({ frames := 2, cells := 1, slots := (len + max 1 (len / 2)), locals := 90 } : Room)) Γ [.ref el, .int (nI (len + max 1 (len / 2)))] (fun w q w' => w q = none ∧ ∃ g' : Nat → Option Nat, w' = xu w q (col + 2, .inl (G.2 3, len + max 1 (len / 2), .inr (.inr (.inr (.inr g'))))) ∧ ∀ i, i < len → g' i = g i) rfl (fun w1 e1 => by subst e1; exact t_copyOf he (by omega) (by omega) (fun i y hi hy => by rw [h3 i hi] at hy; cases hy; exact hel i hi)) k_337 k_5 k_335 k_336 hd_J7_copyOf_1904c ⟨Nat.le_of_ble_eq_true rfl, Nat.le_of_ble_eq_true rfl⟩ ⟨Nat.le_of_ble_eq_true rfl, hN⟩ (Nat.le_of_ble_eq_true rfl) dJx4a65c_grow_92f84_37 (fun q => ?_)
    refine x_pin (fun w1 hw1 => ?_)
    obtain ⟨w9, h9, hq, g', hw1, hg'⟩ := hw1
    subst h9
    have ha1 : w1 a = some (col, .inr (0, [.int mc, .ref el, .int (nI len)])) := by rw [hw1]; exact xu_new ha hq
    have hq1 : w1 q = some (col + 2, .inl (G.2 3, len + max 1 (len / 2), .inr (.inr (.inr (.inr g'))))) := by rw [hw1]; exact xu_eq _ _ _
    refine x_dup_x1 Γ dJx4a65c_grow_92f84_40 rfl rfl ?_
    refine x_putf (P' := fun w2 => w2 = xu w1 a (col, .inr (0, [.int mc, .ref q, .int (nI len)]))) Γ kl0 1 (fun w9 e9 => by rw [e9]; exact ⟨_, _, ha1, Nat.le_of_ble_eq_true rfl, rfl⟩) (by decide) k_42 (Or.inl rfl) rfl rfl rfl dJx4a65c_grow_92f84_41 ?_
    refine x_aret Γ rfl (Or.inr ⟨_, rfl⟩) (fun w9 e9 => ?_) ⟨Nat.le_of_ble_eq_true rfl, hN⟩ dJx4a65c_grow_92f84_44
    subst e9
    exact ⟨⟨len + max 1 (len / 2), g', xu_eq _ _ _, xu_far hq1 ha1 (by omega), by omega, by omega, by omega, fun i hi => by rw [hg' i hi]; exact h3 i hi⟩, KpL.set (by rw [hw1]; exact KpL.rf.new hq) ha1 (Or.inl rfl)⟩
set_option maxRecDepth 100000 in
theorem t_grow0 {w : xW} {a el col len : Nat} {mc : Int32} {f : Nat → Nat} (ha : w a = some (col, .inr (0, [.int mc, .ref el, .int (nI len)]))) (hst : (len = 0 ∧ el = G.2 4) ∨ ∃ g : Nat → Option Nat, w el = some (col + 2, .inl (G.2 3, len, .inr (.inr (.inr (.inr g))))) ∧ 10 ≤ len ∧ len ≤ 24 ∧ ∀ i, i < len → g i = some (f i)) (hel : ∀ i, i < len → ∃ k1 fs, w (f i) = some (k1, .inr (2, fs))) : xMet l G yJx4a65c_grow_d5877 cJx4a65c_grow_d5877 1 (some (.array (.object "java/lang/Object"))) ({ frames := 4, cells := 1, slots := 40, locals := 150 } : Room) [.ref a] w embA (fun q w' => (∃ (cap : Nat) (g' : Nat → Option Nat), w' a = some (col, .inr (0, [.int mc, .ref q, .int (nI len)])) ∧ w' q = some (col + 2, .inl (G.2 3, cap, .inr (.inr (.inr (.inr g'))))) ∧ len < cap ∧ 10 ≤ cap ∧ cap ≤ 40 ∧ ∀ i, i < len → g' i = some (f i)) ∧ KpL col w w') := by
  refine xMet_of (by decide) (Nat.le_of_ble_eq_true rfl) ?_
  intro p e s m below meth c Γ hnm
  refine x_aload_n Γ dJx4a65c_grow_d5877_0 rfl rfl ?_
  refine x_aload_n Γ dJx4a65c_grow_d5877_1 rfl rfl ?_
  refine x_getf Γ kl0 2 (xv_get ha rfl) (by decide) k_43 (Or.inl rfl) dJx4a65c_grow_d5877_2 ?_
  refine x_iconst (v := 1) Γ dJx4a65c_grow_d5877_5 (by decide) ?_
  refine x_iadd Γ dJx4a65c_grow_d5877_6 ?_
  rw [nI_1]
  refine x_invV (emb := embA) (ci := 0) (rm := ({ frames := 3, cells := 1, slots := 40, locals := 125 } : Room)) Γ [.int (nI (len + 1))] (fun w q w' => (∃ (cap : Nat) (g' : Nat → Option Nat), w' a = some (col, .inr (0, [.int mc, .ref q, .int (nI len)])) ∧ w' q = some (col + 2, .inl (G.2 3, cap, .inr (.inr (.inr (.inr g'))))) ∧ len < cap ∧ 10 ≤ cap ∧ cap ≤ 40 ∧ ∀ i, i < len → g' i = some (f i)) ∧ KpL col w w') rfl (fun w1 e1 => by subst e1; exact t_grow1 ha hst hel) (xv_obj ha) rfl k_324 k_4 k_321 k_323 s_5 hd_Jx4a65c_grow_92f84 ⟨Nat.le_of_ble_eq_true rfl, Nat.le_of_ble_eq_true rfl⟩ ⟨Nat.le_of_ble_eq_true rfl, Nat.le_of_ble_eq_true rfl⟩ (Nat.le_of_ble_eq_true rfl) dJx4a65c_grow_d5877_7 (fun q => ?_)
  refine x_weak (P' := fun w' => (∃ (cap : Nat) (g' : Nat → Option Nat), w' a = some (col, .inr (0, [.int mc, .ref q, .int (nI len)])) ∧ w' q = some (col + 2, .inl (G.2 3, cap, .inr (.inr (.inr (.inr g'))))) ∧ len < cap ∧ 10 ≤ cap ∧ cap ≤ 40 ∧ ∀ i, i < len → g' i = some (f i)) ∧ KpL col w w') (fun w2 h2 => by obtain ⟨w3, h3, h4⟩ := h2; subst h3; exact h4) ?_
  exact x_aret Γ rfl (Or.inr ⟨_, rfl⟩) (fun w2 e2 => e2) ⟨Nat.le_of_ble_eq_true rfl, Nat.le_of_ble_eq_true rfl⟩ dJx4a65c_grow_d5877_10
set_option maxRecDepth 100000 in
theorem t_add3 {w : xW} {a x el col len kx : Nat} {fx : List Value} {mc : Int32} {f : Nat → Nat} (ha : w a = some (col, .inr (0, [.int mc, .ref el, .int (nI len)]))) (hlen : len ≤ 24) (hst : (len = 0 ∧ el = G.2 4) ∨ ∃ (cap : Nat) (g : Nat → Option Nat), w el = some (col + 2, .inl (G.2 3, cap, .inr (.inr (.inr (.inr g))))) ∧ len ≤ cap ∧ 10 ≤ cap ∧ cap ≤ 900 ∧ ∀ i, i < len → g i = some (f i)) (hel : ∀ i, i < len → ∃ k1 fs, w (f i) = some (k1, .inr (2, fs))) (hx : w x = some (kx, .inr (2, fx))) (hxc : kx ≠ col ∧ kx ≠ col + 2) : xMet l G yJx4a65c_add_72be8 cJx4a65c_add_72be8 4 none ({ frames := 5, cells := 1, slots := 40, locals := 175 } : Room) [.ref a, .ref x, .ref el, .int (nI len)] w embV (fun _ w' => LstAt G w' a col (len + 1) (fun i => if i = len then x else f i) ∧ KpL col w w') := by
  refine xMet_of (by decide) (Nat.le_of_ble_eq_true rfl) ?_
  intro p e s m below meth c Γ hnm
  have tail : ∀ (w1 : xW) (el1 cap : Nat) (g : Nat → Option Nat), w1 a = some (col, .inr (0, [.int mc, .ref el1, .int (nI len)])) → w1 el1 = some (col + 2, .inl (G.2 3, cap, .inr (.inr (.inr (.inr g))))) → len < cap → 10 ≤ cap → cap ≤ 900 → (∀ i, i < len → g i = some (f i)) → KpL col w w1 → (∃ k1 fs, w1 x = some (k1, .inr (2, fs))) → xJ p l e ({ frames := 5, cells := 1, slots := 40, locals := 175 } : Room) s m ([.ref a, .ref x, .ref el, .int (nI len)] : List Value).toArray below meth c G 4 (MQ below (xQ G embV (fun _ w' => LstAt G w' a col (len + 1) (fun i => if i = len then x else f i) ∧ KpL col w w')) ([.ref a, .ref x, .ref el, .int (nI len)] : List Value).toArray s ({ frames := 5, cells := 1, slots := 40, locals := 175 } : Room).cells ({ frames := 5, cells := 1, slots := 40, locals := 175 } : Room).slots (xA G)) (fun w2 => w2 = w1) 1 40 11 [(0, .ref a), (1, .ref x), (2, .ref el1), (3, .int (nI len))] [] := by
    intro w1 el1 cap g ha1 he1 h1 h2 h3 h4 hk1 hx1
    obtain ⟨k9, fs9, hx1⟩ := hx1
    refine x_aload_n Γ dJx4a65c_add_72be8_11 rfl rfl ?_
    refine x_iload_n Γ dJx4a65c_add_72be8_12 rfl rfl ?_
    refine x_aload_n Γ dJx4a65c_add_72be8_13 rfl rfl ?_
    refine x_aast (P' := fun w2 => w2 = xu w1 el1 (col + 2, .inl (G.2 3, cap, .inr (.inr (.inr (.inr (va_up g (nI len).toNatClampNeg (some x)))))))) Γ (fun w9 e9 => by rw [e9]; exact ⟨_, he1, rfl⟩) (fun w9 e9 => by rw [e9]; exact ⟨_, _, _, hx1, _, rfl, xK_cast⟩) (vp_in_nI h1 (by omega)) dJx4a65c_add_72be8_14 ?_
    refine x_pin (fun w2 hw2 => ?_)
    have ha2 : w2 a = some (col, .inr (0, [.int mc, .ref el1, .int (nI len)])) := by rw [hw2]; exact xu_far ha1 he1 (by omega)
    refine x_aload_n Γ dJx4a65c_add_72be8_15 rfl rfl ?_
    refine x_iload_n Γ dJx4a65c_add_72be8_16 rfl rfl ?_
    refine x_iconst (v := 1) Γ dJx4a65c_add_72be8_17 (by decide) ?_
    refine x_iadd Γ dJx4a65c_add_72be8_18 ?_
    rw [nI_1]
    refine x_putf (P' := fun w3 => w3 = xu w2 a (col, .inr (0, [.int mc, .ref el1, .int (nI (len + 1))]))) Γ kl0 2 (fun w9 e9 => by rw [e9]; exact ⟨_, _, ha2, Nat.le_of_ble_eq_true rfl, rfl⟩) (by decide) k_43 (Or.inl rfl) rfl rfl rfl dJx4a65c_add_72be8_19 ?_
    refine x_vret Γ rfl (fun w9 e9 => ?_) ⟨Nat.le_of_ble_eq_true rfl, Nat.le_of_ble_eq_true rfl⟩ dJx4a65c_add_72be8_22
    subst e9
    have he2 : w2 el1 = some (col + 2, .inl (G.2 3, cap, .inr (.inr (.inr (.inr (va_up g len (some x))))))) := by rw [hw2, nI_clamp (by omega)]; exact xu_eq _ _ _
    refine ⟨⟨mc, el1, xu_eq _ _ _, by omega, Or.inr ⟨cap, _, xu_far he2 ha2 (by omega), by omega, h2, by omega, fun i hi => ?_⟩⟩, KpL.set (by rw [hw2]; exact hk1.set he1 (Or.inr rfl)) ha2 (Or.inl rfl)⟩
    show va_up g len (some x) i = some (if i = len then x else f i)
    by_cases hil : i = len
    · rw [if_pos hil, hil]; simp [va_up]
    · rw [if_neg hil, va_up_ne _ _ hil]; exact h4 i (by omega)
  rcases hst with ⟨h0, h1⟩ | ⟨cap, g, he, h1, h2, h3, h4⟩
  · subst h1
    refine x_iload_n Γ dJx4a65c_add_72be8_0 rfl rfl ?_
    refine x_aload_n Γ dJx4a65c_add_72be8_1 rfl rfl ?_
    refine x_slen0 Γ dJx4a65c_add_72be8_2 ?_
    refine x_icmp_ne (tgt := 11) Γ dJx4a65c_add_72be8_3 (by decide) (fun c3 => absurd (by rw [h0]; rfl) c3) (fun c3 => ?_)
    refine x_aload_n Γ dJx4a65c_add_72be8_6 rfl rfl ?_
    refine x_invV (emb := embA) (ci := 0) (rm := ({ frames := 4, cells := 1, slots := 40, locals := 150 } : Room)) Γ [] (fun w q w' => (∃ (cap : Nat) (g' : Nat → Option Nat), w' a = some (col, .inr (0, [.int mc, .ref q, .int (nI len)])) ∧ w' q = some (col + 2, .inl (G.2 3, cap, .inr (.inr (.inr (.inr g'))))) ∧ len < cap ∧ 10 ≤ cap ∧ cap ≤ 40 ∧ ∀ i, i < len → g' i = some (f i)) ∧ KpL col w w') rfl (fun w1 e1 => by subst e1; exact t_grow0 ha (Or.inl ⟨h0, rfl⟩) hel) (xv_obj ha) rfl k_320 k_4 k_317 k_319 s_4 hd_Jx4a65c_grow_d5877 ⟨Nat.le_of_ble_eq_true rfl, Nat.le_of_ble_eq_true rfl⟩ ⟨Nat.le_of_ble_eq_true rfl, Nat.le_of_ble_eq_true rfl⟩ (Nat.le_of_ble_eq_true rfl) dJx4a65c_add_72be8_7 (fun q => ?_)
    refine x_pin (fun w1 hw1 => ?_)
    obtain ⟨w9, h9, ⟨cap', g', ha1, hq1, hc1, hc2, hc3, hg'⟩, hk1⟩ := hw1
    subst h9
    have hx1 : ∃ k1 fs, w1 x = some (k1, .inr (2, fs)) := ⟨_, _, hk1 x _ _ hx hxc.1 hxc.2⟩
    refine x_astore_n Γ dJx4a65c_add_72be8_10 rfl rfl (by decide) ?_
    refine x_lv [0, 1, 2, 3] rfl ?_
    exact tail w1 q cap' g' ha1 hq1 hc1 hc2 (by omega) hg' hk1 hx1
  · by_cases hc : len = cap
    · refine x_iload_n Γ dJx4a65c_add_72be8_0 rfl rfl ?_
      refine x_aload_n Γ dJx4a65c_add_72be8_1 rfl rfl ?_
      refine x_alen Γ (N := cap) (fun w2 e2 => by rw [e2]; exact ⟨_, _, Or.inr (Or.inr he)⟩) dJx4a65c_add_72be8_2 ?_
      refine x_icmp_ne (tgt := 11) Γ dJx4a65c_add_72be8_3 (by decide) (fun c3 => absurd (by rw [hc]) c3) (fun c3 => ?_)
      refine x_aload_n Γ dJx4a65c_add_72be8_6 rfl rfl ?_
      refine x_invV (emb := embA) (ci := 0) (rm := ({ frames := 4, cells := 1, slots := 40, locals := 150 } : Room)) Γ [] (fun w q w' => (∃ (cap : Nat) (g' : Nat → Option Nat), w' a = some (col, .inr (0, [.int mc, .ref q, .int (nI len)])) ∧ w' q = some (col + 2, .inl (G.2 3, cap, .inr (.inr (.inr (.inr g'))))) ∧ len < cap ∧ 10 ≤ cap ∧ cap ≤ 40 ∧ ∀ i, i < len → g' i = some (f i)) ∧ KpL col w w') rfl (fun w1 e1 => by subst e1; exact t_grow0 ha (Or.inr ⟨g, by rw [hc]; exact he, by omega, hlen, h4⟩) hel) (xv_obj ha) rfl k_320 k_4 k_317 k_319 s_4 hd_Jx4a65c_grow_d5877 ⟨Nat.le_of_ble_eq_true rfl, Nat.le_of_ble_eq_true rfl⟩ ⟨Nat.le_of_ble_eq_true rfl, Nat.le_of_ble_eq_true rfl⟩ (Nat.le_of_ble_eq_true rfl) dJx4a65c_add_72be8_7 (fun q => ?_)
      refine x_pin (fun w1 hw1 => ?_)
      obtain ⟨w9, h9, ⟨cap', g', ha1, hq1, hc1, hc2, hc3, hg'⟩, hk1⟩ := hw1
      subst h9
      have hx1 : ∃ k1 fs, w1 x = some (k1, .inr (2, fs)) := ⟨_, _, hk1 x _ _ hx hxc.1 hxc.2⟩
      refine x_astore_n Γ dJx4a65c_add_72be8_10 rfl rfl (by decide) ?_
      refine x_lv [0, 1, 2, 3] rfl ?_
      exact tail w1 q cap' g' ha1 hq1 hc1 hc2 (by omega) hg' hk1 hx1
    · refine x_iload_n Γ dJx4a65c_add_72be8_0 rfl rfl ?_
      refine x_aload_n Γ dJx4a65c_add_72be8_1 rfl rfl ?_
      refine x_alen Γ (N := cap) (fun w2 e2 => by rw [e2]; exact ⟨_, _, Or.inr (Or.inr he)⟩) dJx4a65c_add_72be8_2 ?_
      refine x_icmp_ne (tgt := 11) Γ dJx4a65c_add_72be8_3 (by decide) (fun c3 => ?_) (fun c3 => absurd c3 (fun q => hc ((nI_eq (by omega) (by omega)).mp q)))
      refine x_lv [0, 1, 2, 3] rfl ?_
      refine x_wide (k' := 1) (n' := 40) (Nat.le_of_ble_eq_true rfl) (Nat.le_of_ble_eq_true rfl) ?_
      exact tail w el cap g ha he (by omega) h2 (by omega) h4 KpL.rf ⟨_, _, hx⟩
set_option maxRecDepth 100000 in
theorem t_add {w : xW} {a x col len kx : Nat} {fx : List Value} {f : Nat → Nat} (h : LstAt G w a col len f) (hlen : len ≤ 24) (hel : ∀ i, i < len → ∃ k1 fs, w (f i) = some (k1, .inr (2, fs)) ∧ k1 ≠ col ∧ k1 ≠ col + 2) (hx : w x = some (kx, .inr (2, fx))) (hxc : kx ≠ col ∧ kx ≠ col + 2) : xMet l G yJx4a65c_add_9ea2d cJx4a65c_add_9ea2d 2 (some .boolean) ({ frames := 6, cells := 1, slots := 40, locals := 205 } : Room) [.ref a, .ref x] w embI (fun _ w' => LstAt G w' a col (len + 1) (fun i => if i = len then x else f i) ∧ KpL col w w') := by
  obtain ⟨mc, el, ha, h900, hst⟩ := h
  refine xMet_of (by decide) (Nat.le_of_ble_eq_true rfl) ?_
  intro p e s m below meth c Γ hnm
  refine x_aload_n Γ dJx4a65c_add_9ea2d_0 rfl rfl ?_
  refine x_dup Γ dJx4a65c_add_9ea2d_1 rfl ?_
  refine x_getf Γ kl0 0 (xv_get ha rfl) (by decide) k_45 (Or.inr k_46) dJx4a65c_add_9ea2d_2 ?_
  refine x_iconst (v := 1) Γ dJx4a65c_add_9ea2d_5 (by decide) ?_
  refine x_iadd Γ dJx4a65c_add_9ea2d_6 ?_
  refine x_putf (P' := fun w1 => w1 = xu w a (col, .inr (0, [.int (mc + 1), .ref el, .int (nI len)]))) Γ kl0 0 (fun w9 e9 => by rw [e9]; exact ⟨_, _, ha, Nat.le_of_ble_eq_true rfl, rfl⟩) (by decide) k_45 (Or.inr k_46) rfl rfl rfl dJx4a65c_add_9ea2d_7 ?_
  refine x_pin (fun w1 hw1 => ?_)
  have ha1 : w1 a = some (col, .inr (0, [.int (mc + 1), .ref el, .int (nI len)])) := by rw [hw1]; exact xu_eq _ _ _
  have hk1 : KpL col w w1 := by rw [hw1]; exact KpL.rf.set ha (Or.inl rfl)
  refine x_aload_n Γ dJx4a65c_add_9ea2d_10 rfl rfl ?_
  refine x_aload_n Γ dJx4a65c_add_9ea2d_11 rfl rfl ?_
  refine x_aload_n Γ dJx4a65c_add_9ea2d_12 rfl rfl ?_
  refine x_getf Γ kl0 1 (xv_get ha1 rfl) (by decide) k_42 (Or.inl rfl) dJx4a65c_add_9ea2d_13 ?_
  refine x_aload_n Γ dJx4a65c_add_9ea2d_16 rfl rfl ?_
  refine x_getf Γ kl0 2 (xv_get ha1 rfl) (by decide) k_43 (Or.inl rfl) dJx4a65c_add_9ea2d_17 ?_
  refine x_invV (emb := embV) (ci := 0) (rm := ({ frames := 5, cells := 1, slots := 40, locals := 175 } : Room)) Γ [.ref x, .ref el, .int (nI len)] (fun w _ w' => LstAt G w' a col (len + 1) (fun i => if i = len then x else f i) ∧ KpL col w w') rfl (fun w9 e9 => by rw [e9]; exact t_add3 ha1 hlen (by rcases hst with h | ⟨cap, g, he, h1, h2, h3, h4⟩; exact Or.inl h; exact Or.inr ⟨cap, g, by rw [hw1]; exact xu_far he ha (by omega), h1, h2, h3, h4⟩) (fun i hi => by obtain ⟨k1, fs, h9, h8⟩ := hel i hi; exact ⟨_, _, hk1 _ _ _ h9 h8.1 h8.2⟩) (hk1 _ _ _ hx hxc.1 hxc.2) hxc) (xv_obj ha1) rfl k_316 k_4 k_313 k_315 s_3 hd_Jx4a65c_add_72be8 ⟨Nat.le_of_ble_eq_true rfl, Nat.le_of_ble_eq_true rfl⟩ ⟨Nat.le_of_ble_eq_true rfl, Nat.le_of_ble_eq_true rfl⟩ (Nat.le_of_ble_eq_true rfl) dJx4a65c_add_9ea2d_20 (fun _ => ?_)
  refine x_weak (P' := fun w' => LstAt G w' a col (len + 1) (fun i => if i = len then x else f i) ∧ KpL col w w') (fun w2 h2 => by obtain ⟨w3, h3, h4, h5⟩ := h2; subst h3; exact ⟨h4, hk1.tr h5⟩) ?_
  refine x_iconst (v := 1) Γ dJx4a65c_add_9ea2d_23 (by decide) ?_
  exact x_iret Γ rfl rfl (fun w2 e2 => e2) ⟨Nat.le_of_ble_eq_true rfl, Nat.le_of_ble_eq_true rfl⟩ dJx4a65c_add_9ea2d_24
end XJ3
end
section
section XJ4
variable {l : Launch} {G : xG}
set_option maxRecDepth 100000 in
theorem t_fastRemove {w : xW} {a el col len cap i : Nat} {mc : Int32} {g : Nat → Option Nat} {f : Nat → Nat} (ha : w a = some (col, .inr (0, [.int mc, .ref el, .int (nI len)]))) (he : w el = some (col + 2, .inl (G.2 3, cap, .inr (.inr (.inr (.inr g)))))) (h1 : len ≤ cap) (h2 : 10 ≤ cap) (h3 : cap ≤ 900) (h4 : ∀ j, j < len → g j = some (f j)) (hel : ∀ j, j < len → ∃ k1 fs, w (f j) = some (k1, .inr (2, fs)) ∧ k1 ≠ col ∧ k1 ≠ col + 2) (hi : i < len) : xMet l G yJx4a65c_fastRemove_b59b0 cJx4a65c_fastRemove_b59b0 4 none ({ frames := 1, cells := 0, slots := 0, locals := 45 } : Room) [.ref a, .ref el, .int (nI i)] w embV (fun _ w' => LstAt G w' a col (len - 1) (fun j => if j < i then f j else f (j + 1)) ∧ KpL col w w') := by
  refine xMet_of (by decide) (Nat.le_of_ble_eq_true rfl) ?_
  intro p e s m below meth c Γ hnm
  have hs1 : nI len - 1 = nI (len - 1) := by
    have h9 := nI_pred (len - 1)
    rw [show len - 1 + 1 = len by omega] at h9
    exact h9
  have tail : ∀ (w2 : xW) (g2 : Nat → Option Nat), w2 a = some (col, .inr (0, [.int (mc + 1), .ref el, .int (nI len)])) → w2 el = some (col + 2, .inl (G.2 3, cap, .inr (.inr (.inr (.inr g2))))) → (∀ j, j < len - 1 → g2 j = some (if j < i then f j else f (j + 1))) → KpL col w w2 → xJ p l e ({ frames := 1, cells := 0, slots := 0, locals := 45 } : Room) s m ([.ref a, .ref el, .int (nI i)] : List Value).toArray below meth c G 4 (MQ below (xQ G embV (fun _ w' => LstAt G w' a col (len - 1) (fun j => if j < i then f j else f (j + 1)) ∧ KpL col w w')) ([.ref a, .ref el, .int (nI i)] : List Value).toArray s ({ frames := 1, cells := 0, slots := 0, locals := 45 } : Room).cells ({ frames := 1, cells := 0, slots := 0, locals := 45 } : Room).slots (xA G)) (fun w9 => w9 = w2) 0 0 34 [(0, .ref a), (1, .ref el), (2, .int (nI i)), (3, .int (nI (len - 1)))] [] := by
    intro w2 g2 ha2 he2 h5 hk2
    refine x_aload_n Γ dJx4a65c_fastRemove_b59b0_34 rfl rfl ?_
    refine x_aload_n Γ dJx4a65c_fastRemove_b59b0_35 rfl rfl ?_
    refine x_iload_n Γ dJx4a65c_fastRemove_b59b0_36 rfl rfl ?_
    refine x_dup_x1 Γ dJx4a65c_fastRemove_b59b0_37 rfl rfl ?_
    refine x_putf (P' := fun w3 => w3 = xu w2 a (col, .inr (0, [.int (mc + 1), .ref el, .int (nI (len - 1))]))) Γ kl0 2 (fun w9 e9 => by rw [e9]; exact ⟨_, _, ha2, Nat.le_of_ble_eq_true rfl, rfl⟩) (by decide) k_43 (Or.inl rfl) rfl rfl rfl dJx4a65c_fastRemove_b59b0_38 ?_
    refine x_pin (fun w3 hw3 => ?_)
    have he3 : w3 el = some (col + 2, .inl (G.2 3, cap, .inr (.inr (.inr (.inr g2))))) := by rw [hw3]; exact xu_far he2 ha2 (by omega)
    refine x_null Γ dJx4a65c_fastRemove_b59b0_41 ?_
    refine x_aastN (P' := fun w4 => w4 = xu w3 el (col + 2, .inl (G.2 3, cap, .inr (.inr (.inr (.inr (va_up g2 (nI (len - 1)).toNatClampNeg none))))))) Γ (fun w9 e9 => by rw [e9]; exact ⟨_, he3, rfl⟩) (vp_in_nI (by omega) (by omega)) dJx4a65c_fastRemove_b59b0_42 ?_
    refine x_vret Γ rfl (fun w9 e9 => ?_) ⟨Nat.le_of_ble_eq_true rfl, Nat.le_of_ble_eq_true rfl⟩ dJx4a65c_fastRemove_b59b0_43
    subst e9
    have ha3 : w3 a = some (col, .inr (0, [.int (mc + 1), .ref el, .int (nI (len - 1))])) := by rw [hw3]; exact xu_eq _ _ _
    refine ⟨⟨mc + 1, el, xu_far ha3 he3 (by omega), by omega, Or.inr ⟨cap, _, xu_eq _ _ _, by omega, h2, h3, fun j hj => ?_⟩⟩, KpL.set (by rw [hw3]; exact hk2.set ha2 (Or.inl rfl)) he3 (Or.inr rfl)⟩
    rw [nI_clamp (by omega), va_up_ne _ _ (by omega)]
    exact h5 j hj
  refine x_aload_n Γ dJx4a65c_fastRemove_b59b0_0 rfl rfl ?_
  refine x_dup Γ dJx4a65c_fastRemove_b59b0_1 rfl ?_
  refine x_getf Γ kl0 0 (xv_get ha rfl) (by decide) k_45 (Or.inr k_46) dJx4a65c_fastRemove_b59b0_2 ?_
  refine x_iconst (v := 1) Γ dJx4a65c_fastRemove_b59b0_5 (by decide) ?_
  refine x_iadd Γ dJx4a65c_fastRemove_b59b0_6 ?_
  refine x_putf (P' := fun w1 => w1 = xu w a (col, .inr (0, [.int (mc + 1), .ref el, .int (nI len)]))) Γ kl0 0 (fun w9 e9 => by rw [e9]; exact ⟨_, _, ha, Nat.le_of_ble_eq_true rfl, rfl⟩) (by decide) k_45 (Or.inr k_46) rfl rfl rfl dJx4a65c_fastRemove_b59b0_7 ?_
  refine x_pin (fun w1 hw1 => ?_)
  have ha1 : w1 a = some (col, .inr (0, [.int (mc + 1), .ref el, .int (nI len)])) := by rw [hw1]; exact xu_eq _ _ _
  have he1 : w1 el = some (col + 2, .inl (G.2 3, cap, .inr (.inr (.inr (.inr g))))) := by rw [hw1]; exact xu_far he ha (by omega)
  have hk1 : KpL col w w1 := by rw [hw1]; exact KpL.rf.set ha (Or.inl rfl)
  refine x_aload_n Γ dJx4a65c_fastRemove_b59b0_10 rfl rfl ?_
  refine x_getf Γ kl0 2 (xv_get ha1 rfl) (by decide) k_43 (Or.inl rfl) dJx4a65c_fastRemove_b59b0_11 ?_
  refine x_iconst (v := 1) Γ dJx4a65c_fastRemove_b59b0_14 (by decide) ?_
  refine x_isub Γ dJx4a65c_fastRemove_b59b0_15 ?_
  rw [hs1]
  refine x_dup Γ dJx4a65c_fastRemove_b59b0_16 rfl ?_
  refine x_istore_n Γ dJx4a65c_fastRemove_b59b0_17 rfl rfl (by decide) ?_
  refine x_iload_n Γ dJx4a65c_fastRemove_b59b0_18 rfl rfl ?_
  refine x_icmp_le (tgt := 34) Γ dJx4a65c_fastRemove_b59b0_19 (by decide) (fun c19 => ?_) (fun c19 => ?_)
  · have h9 : len - 1 ≤ i := (nI_leI (by omega) (by omega)).mp c19
    refine x_lv [0, 1, 2, 3] rfl ?_
    exact tail w1 g ha1 he1 (fun j hj => by rw [if_pos (by omega)]; exact h4 j (by omega)) hk1
  · have h9 : ¬ len - 1 ≤ i := fun q => c19 ((nI_leI (by omega) (by omega)).mpr q)
    refine x_aload_n Γ dJx4a65c_fastRemove_b59b0_22 rfl rfl ?_
    refine x_iload_n Γ dJx4a65c_fastRemove_b59b0_23 rfl rfl ?_
    refine x_iconst (v := 1) Γ dJx4a65c_fastRemove_b59b0_24 (by decide) ?_
    refine x_iadd Γ dJx4a65c_fastRemove_b59b0_25 ?_
    rw [nI_1]
    refine x_aload_n Γ dJx4a65c_fastRemove_b59b0_26 rfl rfl ?_
    refine x_iload_n Γ dJx4a65c_fastRemove_b59b0_27 rfl rfl ?_
    refine x_iload_n Γ dJx4a65c_fastRemove_b59b0_28 rfl rfl ?_
    refine x_iload_n Γ dJx4a65c_fastRemove_b59b0_29 rfl rfl ?_
    refine x_isub Γ dJx4a65c_fastRemove_b59b0_30 ?_
    rw [pk_sub (by omega)]
    refine x_copy (P' := fun w2 => w2 = xu w1 el (col + 2, .inl (G.2 3, cap, .inr (.inr (.inr (.inr (va_cpy g g (nI (i + 1)).toNatClampNeg (nI i).toNatClampNeg (nI (len - 1 - i)).toNatClampNeg))))))) Γ k_418 k_361 k_360 k_18 (fun w9 e9 => by rw [e9]; exact ⟨_, _, he1, he1, rfl⟩) (nI_pos (by omega)) (nI_pos (by omega)) (nI_pos (by omega)) (by rw [nI_clamp (by omega), nI_clamp (by omega)]; omega) (by rw [nI_clamp (by omega), nI_clamp (by omega)]; omega) (fun w9 e9 j hj y hy => ?_) ⟨Nat.le_of_ble_eq_true rfl, Nat.le_of_ble_eq_true rfl⟩ dJx4a65c_fastRemove_b59b0_31 ?_
    · rw [nI_clamp (by omega)] at hy hj
      rw [h4 (i + 1 + j) (by omega)] at hy
      cases hy
      obtain ⟨k1, fs, h8, h7⟩ := hel (i + 1 + j) (by omega)
      rw [e9]
      exact ⟨k1, 2, fs, hk1 _ _ _ h8 h7.1 h7.2, _, rfl, xK_cast⟩
    refine x_pin (fun w2 hw2 => ?_)
    rw [nI_clamp (by omega), nI_clamp (by omega), nI_clamp (by omega)] at hw2
    refine x_lv [0, 1, 2, 3] rfl ?_
    refine tail w2 _ (by rw [hw2]; exact xu_far ha1 he1 (by omega)) (by rw [hw2]; exact xu_eq _ _ _) (fun j hj => ?_) (by rw [hw2]; exact hk1.set he1 (Or.inr rfl))
    by_cases hji : j < i
    · rw [pk_cpy_out (Or.inl hji), if_pos hji]; exact h4 j (by omega)
    · rw [pk_cpy_in (by omega) (by omega), if_neg hji, show i + 1 + (j - i) = j + 1 by omega]; exact h4 (j + 1) (by omega)
set_option maxRecDepth 100000 in
theorem t_remove {w : xW} {a col len i : Nat} {f : Nat → Nat} (h : LstAt G w a col len f) (hel : ∀ j, j < len → ∃ k1 fs, w (f j) = some (k1, .inr (2, fs)) ∧ k1 ≠ col ∧ k1 ≠ col + 2) (hi : i < len) : xMet l G yJx4a65c_remove_915e3 cJx4a65c_remove_915e3 4 (some (.object "java/lang/Object")) ({ frames := 2, cells := 0, slots := 0, locals := 70 } : Room) [.ref a, .int (nI i)] w embA (fun r w' => r = f i ∧ LstAt G w' a col (len - 1) (fun j => if j < i then f j else f (j + 1)) ∧ KpL col w w') := by
  obtain ⟨mc, el, ha, h900, h | ⟨cap, g, he, h1, h2, h3, h4⟩⟩ := h
  · omega
  · refine xMet_of (by decide) (Nat.le_of_ble_eq_true rfl) ?_
    intro p e s m below meth c Γ hnm
    refine x_iload_n Γ dJx4a65c_remove_915e3_0 rfl rfl ?_
    refine x_aload_n Γ dJx4a65c_remove_915e3_1 rfl rfl ?_
    refine x_getf Γ kl0 2 (xv_get ha rfl) (by decide) k_43 (Or.inl rfl) dJx4a65c_remove_915e3_2 ?_
    refine x_invS (emb := embI) (rm := ({ frames := 1, cells := 0, slots := 0, locals := 22 } : Room)) Γ [.int (nI i), .int (nI len)] (fun w r w' => r = nI i ∧ w' = w) rfl (fun w _ => t_J15 hi (by omega)) k_212 k_11 k_210 k_211 hd_J15_checkIndex_7cf53 ⟨Nat.le_of_ble_eq_true rfl, Nat.le_of_ble_eq_true rfl⟩ ⟨Nat.le_of_ble_eq_true rfl, Nat.le_of_ble_eq_true rfl⟩ (Nat.le_of_ble_eq_true rfl) dJx4a65c_remove_915e3_5 (fun r => ?_)
    refine x_then (P2 := fun w1 => w1 = w) (φ := r = nI i) (fun w2 h2 => by obtain ⟨w3, h3, h4, h5⟩ := h2; subst h5; exact ⟨h4, h3⟩) (fun e1 => ?_)
    subst e1
    refine x_pop Γ dJx4a65c_remove_915e3_8 rfl ?_
    refine x_aload_n Γ dJx4a65c_remove_915e3_9 rfl rfl ?_
    refine x_getf Γ kl0 1 (xv_get ha rfl) (by decide) k_42 (Or.inl rfl) dJx4a65c_remove_915e3_10 ?_
    refine x_astore_n Γ dJx4a65c_remove_915e3_13 rfl rfl (by decide) ?_
    refine x_aload_n Γ dJx4a65c_remove_915e3_14 rfl rfl ?_
    refine x_iload_n Γ dJx4a65c_remove_915e3_15 rfl rfl ?_
    refine x_aald Γ (xv_arr he) (vp_in_nI (by omega) (by omega)) (b := f i) (by rw [nI_clamp (by omega)]; exact h4 i hi) dJx4a65c_remove_915e3_16 ?_
    refine x_astore_n Γ dJx4a65c_remove_915e3_17 rfl rfl (by decide) ?_
    refine x_aload_n Γ dJx4a65c_remove_915e3_18 rfl rfl ?_
    refine x_aload_n Γ dJx4a65c_remove_915e3_19 rfl rfl ?_
    refine x_iload_n Γ dJx4a65c_remove_915e3_20 rfl rfl ?_
    refine x_invV (emb := embV) (ci := 0) (rm := ({ frames := 1, cells := 0, slots := 0, locals := 45 } : Room)) Γ [.ref el, .int (nI i)] (fun w _ w' => LstAt G w' a col (len - 1) (fun j => if j < i then f j else f (j + 1)) ∧ KpL col w w') rfl (fun w1 e1 => by subst e1; exact t_fastRemove ha he h1 h2 h3 h4 hel hi) (xv_obj ha) rfl k_417 k_4 k_414 k_416 s_11 hd_Jx4a65c_fastRemove_b59b0 ⟨Nat.le_of_ble_eq_true rfl, Nat.le_of_ble_eq_true rfl⟩ ⟨Nat.le_of_ble_eq_true rfl, Nat.le_of_ble_eq_true rfl⟩ (Nat.le_of_ble_eq_true rfl) dJx4a65c_remove_915e3_21 (fun _ => ?_)
    refine x_weak (P' := fun w' => LstAt G w' a col (len - 1) (fun j => if j < i then f j else f (j + 1)) ∧ KpL col w w') (fun w2 h2 => by obtain ⟨w3, h3, h4⟩ := h2; subst h3; exact h4) ?_
    refine x_aload_n Γ dJx4a65c_remove_915e3_24 rfl rfl ?_
    exact x_aret Γ rfl (Or.inl ⟨_, rfl⟩) (fun w2 e2 => ⟨rfl, e2⟩) ⟨Nat.le_of_ble_eq_true rfl, Nat.le_of_ble_eq_true rfl⟩ dJx4a65c_remove_915e3_25
end XJ4
end
section
section XMD
/-! the reference's state: A j i is place i of its field j; L the wishes, in order -/
abbrev xS : Type := Nat → Nat → Int32
def mU (A : xS) (j i : Nat) (v : Int32) : xS := fun j' i' => if j' = j ∧ i' = i then v else A j' i'
theorem mU_eq (A : xS) (j i : Nat) (v : Int32) : mU A j i v j i = v := if_pos ⟨rfl, rfl⟩
theorem mU_j {A : xS} {j i j' : Nat} {v : Int32} (h : j' ≠ j) : mU A j i v j' = A j' := funext fun i' => if_neg (fun q => h q.1)
theorem mU_i {A : xS} {j i j' i' : Nat} {v : Int32} (h : i' ≠ i) : mU A j i v j' i' = A j' i' := if_neg (fun q => h q.2)
theorem mU_row {A : xS} {j i : Nat} {v : Int32} : mU A j i v j = upd (A j) i v := funext fun i' => by
  by_cases h : i' = i
  · subst h; rw [mU_eq]; simp [upd]
  · rw [mU_i h]; simp [upd, h]
def mFs (ad : Nat → Nat) (f : Nat → Int32) : List Value := [.ref (ad 0), .int (f 1), .ref (ad 2), .int (f 3), .int (f 4), .int (f 5), .ref (ad 6), .ref (ad 7), .ref (ad 8), .ref (ad 9), .ref (ad 10), .ref (ad 11), .ref (ad 12), .ref (ad 13), .ref (ad 14), .ref (ad 15), .ref (ad 16), .int (f 17), .ref (ad 18), .int (f 19)]
def mArr (j : Nat) : Bool := j == 0 || j == 2 || (Nat.ble 6 j && Nat.ble j 16) || j == 18
def mlen (j : Nat) : Nat := if j = 0 then 5 else if j = 2 then 8 else if j = 18 then 24048 else 24
theorem mlen_lt (j : Nat) : mlen j < 2 ^ 31 := by
  simp only [mlen]
  repeat' split
  all_goals omega
/-- the reference's cells, plainly -/
def MdlAt (G : xG) (w : xW) (o : Nat) (ad : Nat → Nat) (M : xS) : Prop :=
  w o = some (10, .inr (4, mFs ad (fun j => M j 0))) ∧ ∀ j, mArr j = true → w (ad j) = some (20 + j, .inl (G.2 1, mlen j, .inl (M j)))
/-- .. and with its wishes as a list -/
def MRep (G : xG) (w : xW) (o : Nat) (ad : Nat → Nat) (A : xS) (L : List Nat) : Prop :=
  ∃ M : xS, MdlAt G w o ad M ∧ (∀ j, j ≠ 16 → j ≠ 17 → M j = A j) ∧ M 17 0 = nI L.length ∧ ∀ (i t : Nat), L[i]? = some t → M 16 i = nI t
/-- what is not the reference's stays -/
def KpM (w w' : xW) : Prop := ∀ (b k : Nat) (e : va_E), w b = some (k, e) → k < 10 ∨ 60 ≤ k → w' b = some (k, e)
theorem KpM.rf {w : xW} : KpM w w := fun _ _ _ h _ => h
theorem KpM.tr {w w1 w2 : xW} (h : KpM w w1) (h2 : KpM w1 w2) : KpM w w2 := fun b k e hb h3 => h2 b k e (h b k e hb h3) h3
theorem KpM.set {w w1 : xW} (h : KpM w w1) {a k : Nat} {e0 : va_E} {x : Nat × va_E} (ha : w1 a = some (k, e0)) (hk : 10 ≤ k ∧ k < 60) : KpM w (xu w1 a x) := fun b j e hb h3 => xu_far (h b j e hb h3) ha (by omega)
theorem MdlAt.put {G : xG} {w : xW} {o : Nat} {ad : Nat → Nat} {M : xS} (h : MdlAt G w o ad M) {j : Nat} {x : Int32} (hj : mArr j = false) (hs : (mFs ad (fun j => M j 0)).set j (.int x) = mFs ad (fun i => if i = j then x else M i 0)) : MdlAt G (xu w o (10, .inr (4, (mFs ad (fun j => M j 0)).set j (.int x)))) o ad (mU M j 0 x) := by
  refine ⟨?_, fun i hi => ?_⟩
  · rw [xu_eq, hs]
    have e : (fun i => if i = j then x else M i 0) = fun i => mU M j 0 x i 0 := funext fun i => by
      by_cases hij : i = j
      · subst hij; rw [mU_eq, if_pos rfl]
      · rw [mU_j hij, if_neg hij]
    rw [e]
  · have hij : i ≠ j := fun q => by rw [q, hj] at hi; cases hi
    rw [mU_j hij]
    exact xu_far (h.2 i hi) h.1 (by omega)
theorem MdlAt.ast {G : xG} {w : xW} {o : Nat} {ad : Nat → Nat} {M : xS} (h : MdlAt G w o ad M) {j i : Nat} {x : Int32} (hj : mArr j = true) : MdlAt G (xu w (ad j) (20 + j, .inl (G.2 1, mlen j, .inl (upd (M j) i x)))) o ad (mU M j i x) := by
  refine ⟨?_, fun j2 hj2 => ?_⟩
  · have e : (fun q => mU M j i x q 0) = fun q => if q = j then mU M j i x j 0 else M q 0 := funext fun q => by
      by_cases hq : q = j
      · subst hq; rw [if_pos rfl]
      · rw [mU_j hq, if_neg hq]
    have e2 : mFs ad (fun q => mU M j i x q 0) = mFs ad (fun q => M q 0) := by
      have hne : ∀ q, mArr q = false → mU M j i x q 0 = M q 0 := fun q hq => by rw [mU_j (fun z => by rw [z, hj] at hq; cases hq)]
      simp only [mFs]
      rw [hne 1 rfl, hne 3 rfl, hne 4 rfl, hne 5 rfl, hne 17 rfl, hne 19 rfl]
    rw [e2]
    exact xu_far h.1 (h.2 j hj) (by omega)
  · by_cases hq : j2 = j
    · subst hq
      rw [xu_eq, mU_row]
    · rw [mU_j hq]
      exact xu_far (h.2 j2 hj2) (h.2 j hj) (by omega)
def mP (G : xG) (o : Nat) (ad : Nat → Nat) (A : xS) (L : List Nat) (w0 : xW) : xW → Prop := fun w => MRep G w o ad A L ∧ KpM w0 w
variable {p : Program} {l : Launch} {e : Env} {R : Room} {s : State} {m : MethodId} {args : Array Value} {below : List Frame} {meth : Method} {c : Code} {G : xG} {cc : ByteArray} {nL : Nat} {own : String} {rt : Option FieldType} {Q : State → Prop} {P P' : xW → Prop} {k n pc : Nat} {lv : List (Nat × Value)} {st : List Value}
variable {o : Nat} {ad : Nat → Nat} {A M : xS} {L : List Nat} {w0 : xW}
theorem MRep.obj {w : xW} (h : MRep G w o ad A L) : ∃ k0 fs, w o = some (k0, .inr (4, fs)) := by
  obtain ⟨M, h1, -⟩ := h
  exact ⟨_, _, h1.1⟩
theorem m_obj : ∀ w, mP G o ad A L w0 w → ∃ k0 fs, w o = some (k0, .inr (4, fs)) := fun w h => h.1.obj
/-- a number of the reference -/
theorem m_geti (Γ : xC p s m meth c G cc nL own rt) (j : Nat) {idx : Nat} (hj : j < 20) (h16 : j ≠ 16 ∧ j ≠ 17) (hf : ∀ f : Nat → Int32, (mFs ad f)[j]? = some (.int (f j))) (hlink : Cond.fieldLink own idx RX3 (TX3 j).2.1 (TX3 j).2.2.1 ∈ xAll) (ho : RX3 = (TX3 j).1) (hd : decode cc pc = .ok (.getfield idx, 3))
    (kk : xJ p l e R s m args below meth c G nL Q (mP G o ad A L w0) k n (pc + 3) lv (.int (A j 0) :: st)) : xJ p l e R s m args below meth c G nL Q (mP G o ad A L w0) k n pc lv (.ref o :: st) :=
  x_getf Γ kl4 j (fun w h => by
    obtain ⟨⟨M, h1, h2, -⟩, -⟩ := h
    exact ⟨_, _, h1.1, by rw [hf, h2 j h16.1 h16.2]⟩) hj hlink (Or.inl ho) hd kk
theorem m_getw (Γ : xC p s m meth c G cc nL own rt) {idx : Nat} (hlink : Cond.fieldLink own idx RX3 (TX3 17).2.1 (TX3 17).2.2.1 ∈ xAll) (hd : decode cc pc = .ok (.getfield idx, 3))
    (kk : xJ p l e R s m args below meth c G nL Q (mP G o ad A L w0) k n (pc + 3) lv (.int (nI L.length) :: st)) : xJ p l e R s m args below meth c G nL Q (mP G o ad A L w0) k n pc lv (.ref o :: st) :=
  x_getf Γ kl4 17 (fun w h => by
    obtain ⟨⟨M, h1, h2, h3, -⟩, -⟩ := h
    exact ⟨_, _, h1.1, by rw [← h3]; rfl⟩) (by decide) hlink (Or.inl rfl) hd kk
/-- a row of the reference -/
theorem m_geta (Γ : xC p s m meth c G cc nL own rt) (j : Nat) {idx : Nat} (hj : j < 20) (hf : ∀ f : Nat → Int32, (mFs ad f)[j]? = some (.ref (ad j))) (hlink : Cond.fieldLink own idx RX3 (TX3 j).2.1 (TX3 j).2.2.1 ∈ xAll) (ho : RX3 = (TX3 j).1) (hd : decode cc pc = .ok (.getfield idx, 3))
    (kk : xJ p l e R s m args below meth c G nL Q (mP G o ad A L w0) k n (pc + 3) lv (.ref (ad j) :: st)) : xJ p l e R s m args below meth c G nL Q (mP G o ad A L w0) k n pc lv (.ref o :: st) :=
  x_getf Γ kl4 j (fun w h => by
    obtain ⟨⟨M, h1, -⟩, -⟩ := h
    exact ⟨_, _, h1.1, hf _⟩) hj hlink (Or.inl ho) hd kk
theorem m_ald (Γ : xC p s m meth c G cc nL own rt) {j t : Nat} {i : Int32} (hi : i = nI t) (hj : mArr j = true) (h16 : j ≠ 16) (ht : t < mlen j) (hd : decode cc pc = .ok (.iaload, 1))
    (kk : xJ p l e R s m args below meth c G nL Q (mP G o ad A L w0) k n (pc + 1) lv (.int (A j t) :: st)) : xJ p l e R s m args below meth c G nL Q (mP G o ad A L w0) k n pc lv (.int i :: .ref (ad j) :: st) := by
  have hm : mlen j < 2 ^ 31 := mlen_lt j
  subst hi
  refine x_iald (N := mlen j) (f := A j) Γ (fun w h => ?_) (vp_in_nI ht hm) (by rw [nI_clamp (by omega)]) hd kk
  obtain ⟨⟨M, h1, h2, -⟩, -⟩ := h
  have h17 : j ≠ 17 := fun q => by subst q; cases hj
  exact ⟨_, by rw [← h2 j h16 h17]; exact h1.2 j hj⟩
theorem m_aldw (Γ : xC p s m meth c G cc nL own rt) {i t : Nat} (hi : L[i]? = some t) (hlen : L.length ≤ 24) (hd : decode cc pc = .ok (.iaload, 1))
    (kk : xJ p l e R s m args below meth c G nL Q (mP G o ad A L w0) k n (pc + 1) lv (.int (nI t) :: st)) : xJ p l e R s m args below meth c G nL Q (mP G o ad A L w0) k n pc lv (.int (nI i) :: .ref (ad 16) :: st) := fun w H locs ls hp hh hs hl => by
  obtain ⟨⟨M, h1, h2, h3, h4⟩, h5⟩ := hp
  have hlt : i < L.length := (List.getElem?_eq_some_iff.mp hi).1
  exact x_iald (P := fun w1 => w1 = w) (N := 24) (f := M 16) (x := nI t) Γ (fun w1 e1 => by rw [e1]; exact ⟨_, h1.2 16 rfl⟩) (vp_in_nI (by omega) (by omega)) (by rw [nI_clamp (by omega)]; exact h4 i t hi) hd (fun w1 H locs ls e1 => by subst e1; exact kk w1 H locs ls ⟨⟨M, h1, h2, h3, h4⟩, h5⟩) w H locs ls rfl hh hs hl
theorem MRep.put {w : xW} (h : MRep G w o ad A L) {j : Nat} {x : Int32} (hj : mArr j = false) (h17 : j ≠ 17) (hs : ∀ f : Nat → Int32, (mFs ad f).set j (.int x) = mFs ad (fun i => if i = j then x else f i)) : ∃ fs, w o = some (10, .inr (4, fs)) ∧ fs.length = 20 ∧ MRep G (xu w o (10, .inr (4, fs.set j (.int x)))) o ad (mU A j 0 x) L := by
  obtain ⟨M, h1, h2, h3, h4⟩ := h
  refine ⟨_, h1.1, rfl, mU M j 0 x, h1.put hj (hs _), fun i h5 h6 => ?_, ?_, fun i t hi => ?_⟩
  · by_cases hij : i = j
    · subst hij
      rw [mU_row, mU_row, h2 i h5 h6]
    · rw [mU_j hij, mU_j hij, h2 i h5 h6]
  · rw [mU_j (Ne.symm h17)]; exact h3
  · rw [mU_j (fun q => by rw [← q] at hj; cases hj)]; exact h4 i t hi
theorem MRep.ast {w : xW} (h : MRep G w o ad A L) {j i : Nat} {x : Int32} (hj : mArr j = true) (h16 : j ≠ 16) : w (ad j) = some (20 + j, .inl (G.2 1, mlen j, .inl (A j))) ∧ MRep G (xu w (ad j) (20 + j, .inl (G.2 1, mlen j, .inl (upd (A j) i x)))) o ad (mU A j i x) L := by
  obtain ⟨M, h1, h2, h3, h4⟩ := h
  have h17 : j ≠ 17 := fun q => by subst q; cases hj
  have e : M j = A j := h2 j h16 h17
  refine ⟨by rw [← e]; exact h1.2 j hj, mU M j i x, by rw [← e]; exact h1.ast hj, fun i2 h5 h6 => ?_, ?_, fun i2 t hi => ?_⟩
  · by_cases hij : i2 = j
    · subst hij
      rw [mU_row, mU_row, h2 i2 h5 h6]
    · rw [mU_j hij, mU_j hij, h2 i2 h5 h6]
  · rw [mU_j (Ne.symm h17)]; exact h3
  · rw [mU_j (Ne.symm h16)]; exact h4 i2 t hi
theorem m_puti (Γ : xC p s m meth c G cc nL own rt) (j : Nat) {idx : Nat} {x : Int32} (hj : j < 20) (h16 : mArr j = false ∧ j ≠ 17) (hf : ∀ f : Nat → Int32, (mFs ad f).set j (.int x) = mFs ad (fun i => if i = j then x else f i)) (hlink : Cond.fieldLink own idx RX3 (TX3 j).2.1 (TX3 j).2.2.1 ∈ xAll) (ho : RX3 = (TX3 j).1) (hfin : (TX3 j).2.2.2 = false) (hty : tyX3 j = .int) (hd : decode cc pc = .ok (.putfield idx, 3))
    (kk : xJ p l e R s m args below meth c G nL Q (mP G o ad (mU A j 0 x) L w0) k n (pc + 3) lv st) : xJ p l e R s m args below meth c G nL Q (mP G o ad A L w0) k n pc lv (.int x :: .ref o :: st) :=
  x_putf Γ kl4 j (fun w h => by
    obtain ⟨fs, h2, h3, h4⟩ := h.1.put h16.1 h16.2 hf
    exact ⟨_, _, h2, by rw [h3]; exact hj, h4, h.2.set h2 (by omega)⟩) hj hlink (Or.inl ho) hfin (by rw [hty]; rfl) (by rw [hty]; rfl) hd kk
theorem m_ast (Γ : xC p s m meth c G cc nL own rt) {j t : Nat} {i x : Int32} (hi : i = nI t) (hj : mArr j = true) (h16 : j ≠ 16) (ht : t < mlen j) (hd : decode cc pc = .ok (.iastore, 1))
    (kk : xJ p l e R s m args below meth c G nL Q (mP G o ad (mU A j t x) L w0) k n (pc + 1) lv st) : xJ p l e R s m args below meth c G nL Q (mP G o ad A L w0) k n pc lv (.int x :: .int i :: .ref (ad j) :: st) := by
  have hm : mlen j < 2 ^ 31 := mlen_lt j
  have hb : 20 + j < 60 := by
    have : j ≤ 18 := by
      simp only [mArr, Bool.or_eq_true, Bool.and_eq_true, beq_iff_eq] at hj
      rcases hj with ((h | h) | h) | h
      · omega
      · omega
      · have := Nat.le_of_ble_eq_true h.2; omega
      · omega
    omega
  subst hi
  refine x_iast (N := mlen j) (f := A j) Γ (fun w h => ?_) (vp_in_nI ht hm) hd kk
  obtain ⟨h2, h3⟩ := h.1.ast (i := t) (x := x) hj h16
  refine ⟨_, h2, ?_⟩
  rw [nI_clamp (by omega)]
  exact ⟨h3, h.2.set h2 (by omega)⟩
end XMD
end
section
section XSP
/-! what each call does to the reference's state: the code that is thrown (k..), then result, state, wishes (g..) -/
def bq (p : Prop) (r : Int32) : Prop := (p ∧ r = 1) ∨ (¬ p ∧ r = 0)
theorem bq.ne {p : Prop} {r : Int32} (h : bq p r) (c : ¬ r = 0) : p := by
  rcases h with h | h
  · exact h.1
  · exact absurd h.2 c
theorem bq.eq {p : Prop} {r : Int32} (h : bq p r) (c : r = 0) : ¬ p := by
  rcases h with h | h
  · rw [h.2] at c; exact absurd c (by decide)
  · exact h.1
theorem bq.one {p : Prop} {r : Int32} (h : bq p r) (hp : p) : ¬ r = 0 := by
  rcases h with h | h
  · rw [h.2]; decide
  · exact absurd hp h.1
theorem bq.zero {p : Prop} {r : Int32} (h : bq p r) (hp : ¬ p) : r = 0 := by
  rcases h with h | h
  · exact absurd h.1 hp
  · exact h.2
theorem bq.iff {p q : Prop} {r : Int32} (h : bq p r) (e : p ↔ q) : bq q r := by
  rcases h with h | h
  · exact Or.inl ⟨e.mp h.1, h.2⟩
  · exact Or.inr ⟨fun z => h.1 (e.mpr z), h.2⟩
theorem bq.nr {p : Prop} {r : Int32} (h : bq p r) : narrow .boolean (.int r) = .int r := by
  rcases h with h | h
  · rw [h.2]; rfl
  · rw [h.2]; rfl
abbrev rIn (lo hi x : Int32) : Prop := lo ≤ x ∧ x ≤ hi
def ix (x : Int32) : Nat := x.toNatClampNeg
theorem ixn {t : Nat} (h : t < 24) : ix (nI t) = t := nI_clamp (by omega)
theorem ixn2 {t : Nat} (h : t < 100000) : ix (nI t) = t := nI_clamp (by omega)
theorem rIn_nat {x M : Int32} {n : Nat} (hM : M.toInt = n) (h : rIn 0 M x) : ∃ j : Nat, j ≤ n ∧ x = nI j := nI_of2 hM (Int32.not_lt.mpr h.1) h.2
theorem nI_m1 {n : Nat} (h : 0 < n) : nI n - 1 = nI (n - 1) := by
  have h9 := nI_pred (n - 1)
  rw [show n - 1 + 1 = n by omega] at h9
  exact h9
theorem nI_mul (a b : Nat) : nI a * nI b = nI (a * b) := (Int32.ofNat_mul a b).symm
theorem nI_int {n : Nat} (h : n < 2 ^ 31) : (nI n).toInt = n := nI_toInt h
theorem rT_nat {x : Int32} {n : Nat} (hn : n < 100000) (h : rIn 0 (nI n - 1) x) : ∃ j : Nat, j < n ∧ x = nI j := by
  by_cases h0 : n = 0
  · subst h0
    obtain ⟨h1, h2⟩ := h
    exact absurd (Int32.le_trans h1 h2) (by decide)
  · rw [nI_m1 (by omega)] at h
    obtain ⟨j, h1, h2⟩ := rIn_nat (nI_int (by omega)) h
    exact ⟨j, by omega, h2⟩
theorem rT_of {j n : Nat} (hn : n < 100000) (h : j < n) : rIn 0 (nI n - 1) (nI j) := by
  rw [nI_m1 (by omega)]
  exact ⟨nI_pos' (by omega), nI_le (by omega) (by omega)⟩
abbrev xR : Type := Int32 × xS × List Nat
def fin (k : Int32) (A : xS) (L : List Nat) (b : xR) : xR := if k = 0 then b else (0, mU A 19 0 k, L)
theorem fin_ok {k : Int32} {A : xS} {L : List Nat} {b : xR} (h : k = 0) : fin k A L b = b := if_pos h
theorem fin_no {k j : Int32} {A : xS} {L : List Nat} {b : xR} (h : k = j) (hj : ¬ j = 0) : fin k A L b = (0, mU A 19 0 j, L) := by
  subst h
  exact if_neg hj
abbrev kT (A : xS) (x : Int32) : Prop := rIn 0 (A 5 0 - 1) x
def ldF (A : xS) (c : Int32) : Nat → Int32
  | 0 => 0
  | t + 1 => ldF A c t + (if A 9 t = c then A 7 t else 0)
def fFor (t : Nat) (L : List Nat) : List Nat := L.filter (fun q => !(q == t))
def kSetRoom (c r : Int32) : Int32 := if rIn 0 4 c ∧ rIn 0 30 r then 0 else 1
def gSetRoom (A : xS) (L : List Nat) (c r : Int32) : xR := fin (kSetRoom c r) A L (A 0 (ix c), mU (mU A 19 0 0) 0 (ix c) r, L)
def kSetVan (r : Int32) : Int32 := if rIn 0 30 r then 0 else 1
def gSetVan (A : xS) (L : List Nat) (r : Int32) : xR := fin (kSetVan r) A L (A 1 0, mU (mU A 19 0 0) 1 0 r, L)
def kLeave (A : xS) (o z c : Int32) : Int32 := if ¬ (rIn 0 7 o ∧ rIn 1 3 z ∧ rIn 0 4 c) then 1 else if A 5 0 = 24 ∨ A 0 (ix c) < ldF A c (ix (A 5 0)) + z then 2 else 0
def bLeave (A : xS) (n : Nat) (o z c : Int32) : xS := mU (mU (mU (mU (mU (mU (mU (mU A 6 n o) 7 n z) 8 n (20 * z)) 9 n c) 10 n (A 4 0)) 14 n (-1)) 15 n (-1)) 5 0 (A 5 0 + 1)
def gLeave (A : xS) (L : List Nat) (o z c : Int32) : xR := fin (kLeave A o z c) A L (A 5 0, bLeave (mU A 19 0 0) (ix (A 5 0)) o z c, L)
def kFetch (A : xS) (x : Int32) : Int32 := if ¬ kT A x then 1 else if ¬ A 9 (ix x) < 5 ∨ 0 < A 12 (ix x) then 2 else 0
def bFetch (A : xS) (t : Nat) : xS := mU (mU (mU A 9 t 10) 3 0 (A 3 0 + A 11 t)) 15 t (-1)
def gFetch (A : xS) (L : List Nat) (x : Int32) : xR := fin (kFetch A x) A L (A 11 (ix x), bFetch (mU A 19 0 0) (ix x), fFor (ix x) L)
def kWant (A : xS) (x c : Int32) : Int32 := if ¬ kT A x then 1 else if ¬ rIn 0 4 c then 2 else if ¬ A 9 (ix x) < 5 ∨ A 9 (ix x) = c then 3 else 0
def gWant (A : xS) (L : List Nat) (x c : Int32) : xR := fin (kWant A x c) A L (nI ((fFor (ix x) L).length + 1), mU (mU (mU A 19 0 0) 15 (ix x) (-1)) 15 (ix x) c, fFor (ix x) L ++ [ix x])
def kValue (A : xS) (x v : Int32) : Int32 := if ¬ kT A x then 1 else if ¬ rIn 0 10000 v then 2 else if ¬ A 9 (ix x) < 5 then 3 else 0
def gValue (A : xS) (L : List Nat) (x v : Int32) : xR := fin (kValue A x v) A L (A 8 (ix x), mU (mU A 19 0 0) 8 (ix x) v, L)
def kLend (A : xS) (x l z : Int32) : Int32 := if ¬ kT A x then 1 else if ¬ (rIn 0 7 l ∧ rIn 1 5000 z) then 2 else if ¬ A 9 (ix x) < 5 ∨ A 6 (ix x) = l ∨ 0 < A 12 (ix x) ∨ A 8 (ix x) / 2 < z then 3 else 0
def bLend (A : xS) (t : Nat) (l z : Int32) : xS := mU (mU (mU (mU A 12 t z) 13 t l) 14 t (-1)) 2 (ix (A 6 t)) (A 2 (ix (A 6 t)) + z)
def gLend (A : xS) (L : List Nat) (x l z : Int32) : xR := fin (kLend A x l z) A L (0, bLend (mU A 19 0 0) (ix x) l z, L)
def kRepay (A : xS) (x : Int32) : Int32 := if ¬ kT A x then 1 else if A 12 (ix x) = 0 then 2 else 0
def bRepay (A : xS) (t : Nat) : xS := mU (mU (mU A 2 (ix (A 13 t)) (A 2 (ix (A 13 t)) + A 12 t)) 12 t 0) 14 t (-1)
def gRepay (A : xS) (L : List Nat) (x : Int32) : xR := fin (kRepay A x) A L (A 12 (ix x), bRepay (mU A 19 0 0) (ix x), L)
def kDoubt (A : xS) (x : Int32) : Int32 := if ¬ kT A x then 1 else if A 12 (ix x) = 0 ∨ ¬ A 14 (ix x) = -1 then 2 else 0
def gDoubt (A : xS) (L : List Nat) (x : Int32) : xR := fin (kDoubt A x) A L (A 4 0 + 3, mU (mU A 19 0 0) 14 (ix x) (A 4 0 + 3), L)
/-! the days -/
def imn (x y : Int32) : Int32 := if x < y then x else y
def sBack (A : xS) (t : Nat) : Int32 := imn (A 12 t) (A 8 t)
def sA1 (A : xS) (t : Nat) : xS := if 0 < sBack A t then mU A 2 (ix (A 13 t)) (A 2 (ix (A 13 t)) + sBack A t) else A
def sPaid (A : xS) (t : Nat) : Int32 := imn (A 11 t) (A 8 t - sBack A t)
def sA2 (A : xS) (t : Nat) : xS := mU (mU (sA1 A t) 11 t (sPaid A t)) 3 0 (A 3 0 + sPaid A t)
def sA3 (A : xS) (t : Nat) : xS := mU (sA2 A t) 2 (ix (A 6 t)) (sA1 A t 2 (ix (A 6 t)) + (A 8 t - sBack A t - sPaid A t))
def fSell (t : Nat) (A : xS) : xS := mU (mU (mU (mU (sA3 A t) 12 t 0) 14 t (-1)) 9 t 11) 15 t (-1)
def owes (A : xS) (t : Nat) : Int32 := if ¬ A 9 t < 5 then 0 else if 0 < A 12 t then A 7 t else 2 * A 7 t
def fOwe : Nat → xS → xS
  | 0, A => A
  | t + 1, A => mU (fOwe t A) 11 t (fOwe t A 11 t + owes (fOwe t A) t)
abbrev xV : Type := Int32 × xS × List Nat
abbrev fCalT (A : xS) (t : Nat) : Prop := A 9 t < 5 ∧ 0 < A 12 t ∧ A 14 t = A 4 0
abbrev fUnfT (A : xS) (t : Nat) : Prop := A 9 t < 5 ∧ A 12 t = 0 ∧ 30 ≤ A 4 0 - A 10 t + 1
def vSell (t : Nat) (V : xV) : xV := (V.1 + 1, fSell t V.2.1, fFor t V.2.2)
def fCal : Nat → xV → xV
  | 0, V => V
  | t + 1, V => if fCalT (fCal t V).2.1 t then vSell t (fCal t V) else fCal t V
def fUnf : Nat → xV → xV
  | 0, V => V
  | t + 1, V => if fUnfT (fUnf t V).2.1 t then vSell t (fUnf t V) else fUnf t V
abbrev fDrvT (n : Nat) (A : xS) (left : Int32) (t : Nat) : Prop := A 12 t = 0 ∧ A 7 t ≤ left ∧ ldF A (A 15 t) n + A 7 t ≤ A 0 (ix (A 15 t))
def fMove (A : xS) (t : Nat) : xS := mU (mU A 9 t (A 15 t)) 15 t (-1)
def fDrv (n : Nat) : List Nat → xV → xV
  | [], V => V
  | t :: r, V => if fDrvT n V.2.1 V.1 t then fDrv n r (V.1 - V.2.1 7 t, fMove V.2.1 t, fFor t V.2.2) else fDrv n r V
def fBeg : Nat → xS → xS
  | 0, A => A
  | t + 1, A => mU (fBeg t A) 18 (ix (24 * A 4 0 + nI t)) (A 9 t)
def fDay (n : Nat) (V : xV) : xV :=
  let V1 : xV := fUnf n (fCal n (V.1, fOwe n V.2.1, V.2.2))
  let V2 : xV := fDrv n V1.2.2 (V1.2.1 1 0, V1.2.1, V1.2.2)
  (V1.1, fBeg n (mU V2.2.1 4 0 (V2.2.1 4 0 + 1)), V2.2.2)
def fDays (n : Nat) : Nat → xV → xV
  | 0, V => V
  | d + 1, V => ((fDays n d V).1 + (fDay n (0, (fDays n d V).2)).1, (fDay n (0, (fDays n d V).2)).2)
def kPass (A : xS) (d : Int32) : Int32 := if ¬ rIn 1 40 d then 1 else if 1000 < A 4 0 + d then 2 else 0
def gPass (A : xS) (L : List Nat) (d : Int32) : xR := fin (kPass A d) A L (fDays (ix (A 5 0)) (ix d) (0, mU A 19 0 0, L))
/-! what is -/
def g0 (j : Nat) (A : xS) (L : List Nat) : xR := (A j 0, mU A 19 0 0, L)
def kT1 (A : xS) (x : Int32) : Int32 := if kT A x then 0 else 1
def gT1 (j : Nat) (A : xS) (L : List Nat) (x : Int32) : xR := fin (kT1 A x) A L (A j (ix x), mU A 19 0 0, L)
def kWhereOn (A : xS) (x d : Int32) : Int32 := if ¬ kT A x then 1 else if ¬ rIn 0 (A 4 0) d then 2 else 0
def gWhereOn (A : xS) (L : List Nat) (x d : Int32) : xR := fin (kWhereOn A x d) A L (if d = A 4 0 then A 9 (ix x) else A 18 (ix (24 * d + x)), mU A 19 0 0, L)
def kLoad (c : Int32) : Int32 := if rIn 0 4 c then 0 else 1
def gLoad (A : xS) (L : List Nat) (c : Int32) : xR := fin (kLoad c) A L (ldF A c (ix (A 5 0)), mU A 19 0 0, L)
def kPurse (x : Int32) : Int32 := if rIn 0 7 x then 0 else 1
def gPurse (A : xS) (L : List Nat) (x : Int32) : xR := fin (kPurse x) A L (A 2 (ix x), mU A 19 0 0, L)
def kWish (L : List Nat) (x : Int32) : Int32 := if rIn 0 (nI L.length - 1) x then 0 else 1
def gWish (A : xS) (L : List Nat) (x : Int32) : xR := fin (kWish L x) A L (nI (L.getD (ix x) 0), mU A 19 0 0, L)
/-! what holds between calls -/
def aI (A : xS) (n : Nat) : Prop := A 5 0 = nI n ∧ n ≤ 24 ∧ (∃ d, d ≤ 1000 ∧ A 4 0 = nI d) ∧ (∀ t, t < 24 → ∃ o, o < 8 ∧ A 6 t = nI o) ∧ ∀ t, t < 24 → ∃ o, o < 8 ∧ A 13 t = nI o
def lI (A : xS) (n : Nat) (L : List Nat) : Prop := L.length ≤ n ∧ L.Nodup ∧ ∀ t, t ∈ L → t < n ∧ ∃ c, c < 5 ∧ A 15 t = nI c
theorem aI_kT {A : xS} {n : Nat} (h : aI A n) {x : Int32} (hx : kT A x) : ∃ t, t < n ∧ t < 24 ∧ x = nI t := by
  have hx : rIn 0 (A 5 0 - 1) x := hx
  rw [h.1] at hx
  obtain ⟨t, h1, h2⟩ := rT_nat (by have := h.2.1; omega) hx
  exact ⟨t, h1, by have := h.2.1; omega, h2⟩
theorem aI_toT {A : xS} {n t : Nat} (h : aI A n) (ht : t < n) : kT A (nI t) := by
  show rIn 0 (A 5 0 - 1) (nI t)
  rw [h.1]
  exact rT_of (by have := h.2.1; omega) ht
section XM2
variable {p : Program} {l : Launch} {e : Env} {R : Room} {s : State} {m : MethodId} {args : Array Value} {below : List Frame} {meth : Method} {c : Code} {G : xG} {cc : ByteArray} {nL : Nat} {own : String} {rt : Option FieldType} {Q : State → Prop} {P P' : xW → Prop} {k n pc : Nat} {lv : List (Nat × Value)} {st : List Value}
variable {o : Nat} {ad : Nat → Nat} {A A' : xS} {L L' : List Nat} {w0 : xW}
theorem x_dup2 (Γ : xC p s m meth c G cc nL own rt) {va vb : Value} (hd : decode cc pc = .ok (.dup2, 1)) (h1 : va.category = 1) (h2 : vb.category = 1) (kk : xJ p l e R s m args below meth c G nL Q P k n (pc + 1) lv (va :: vb :: va :: vb :: st)) : xJ p l e R s m args below meth c G nL Q P k n pc lv (va :: vb :: st) := fun w H locs ls hp hh hs hl => lv_dup2_11 Γ.1 Γ.2.1 hd h1 h2 (kk w H locs ls hp hh hs hl)
theorem m_in {w : xW} (h : MRep G w o ad A L) (kk : xJ p l e R s m args below meth c G nL Q (mP G o ad A L w) k n pc lv st) : xJ p l e R s m args below meth c G nL Q (fun w' => w' = w) k n pc lv st :=
  x_weak (fun w' e => by subst e; exact ⟨h, KpM.rf⟩) kk
theorem m_then {φ : Prop} (kk : φ → xJ p l e R s m args below meth c G nL Q (mP G o ad A' L' w0) k n pc lv st) : xJ p l e R s m args below meth c G nL Q (fun w' => ∃ w1, mP G o ad A L w0 w1 ∧ φ ∧ mP G o ad A' L' w1 w') k n pc lv st :=
  x_then (fun w' h => by obtain ⟨w1, h1, h2, h3⟩ := h; exact ⟨h2, h3.1, h1.2.tr h3.2⟩) kk
theorem m_then0 (kk : xJ p l e R s m args below meth c G nL Q (mP G o ad A' L' w0) k n pc lv st) : xJ p l e R s m args below meth c G nL Q (fun w' => ∃ w1, mP G o ad A L w0 w1 ∧ mP G o ad A' L' w1 w') k n pc lv st :=
  x_weak (fun w' h => by obtain ⟨w1, h1, h3⟩ := h; exact ⟨h3.1, h1.2.tr h3.2⟩) kk
theorem m_same {φ : Prop} (kk : φ → xJ p l e R s m args below meth c G nL Q P k n pc lv st) : xJ p l e R s m args below meth c G nL Q (fun w' => ∃ w1, P w1 ∧ φ ∧ w' = w1) k n pc lv st :=
  x_then (fun w' h => by obtain ⟨w1, h1, h2, h3⟩ := h; subst h3; exact ⟨h2, h1⟩) kk
end XM2
end XSP
end
section
section XM3
variable {l : Launch} {G : xG}
set_option maxRecDepth 100000 in
theorem t_in {w : xW} {x a b : Int32} : xMet l G yX3_in cX3_in 3 (some .boolean) ({ frames := 0, cells := 0, slots := 0, locals := 0 } : Room) [.int x, .int a, .int b] w embI (fun r w' => bq (rIn a b x) r ∧ w' = w) := by
  refine xMet_of (by decide) (Nat.le_of_ble_eq_true rfl) ?_
  intro p e s m below meth c Γ hnm
  refine x_iload_n Γ dX3_in_0 rfl rfl ?_
  refine x_iload_n Γ dX3_in_1 rfl rfl ?_
  refine x_icmp_lt (tgt := 14) Γ dX3_in_2 (by decide) (fun c2 => ?_) (fun c2 => ?_)
  · refine x_iconst (v := 0) Γ dX3_in_14 (by decide) ?_
    exact x_iret Γ rfl rfl (fun w2 e2 => ⟨Or.inr ⟨fun z => absurd c2 (Int32.not_lt.mpr z.1), rfl⟩, e2⟩) ⟨Nat.le_of_ble_eq_true rfl, Nat.le_of_ble_eq_true rfl⟩ dX3_in_15
  · refine x_iload_n Γ dX3_in_5 rfl rfl ?_
    refine x_iload_n Γ dX3_in_6 rfl rfl ?_
    refine x_icmp_gt (tgt := 14) Γ dX3_in_7 (by decide) (fun c7 => ?_) (fun c7 => ?_)
    · refine x_iconst (v := 0) Γ dX3_in_14 (by decide) ?_
      exact x_iret Γ rfl rfl (fun w2 e2 => ⟨Or.inr ⟨fun z => absurd c7 (Int32.not_lt.mpr z.2), rfl⟩, e2⟩) ⟨Nat.le_of_ble_eq_true rfl, Nat.le_of_ble_eq_true rfl⟩ dX3_in_15
    · refine x_iconst (v := 1) Γ dX3_in_10 (by decide) ?_
      refine x_goto (tgt := 15) Γ dX3_in_11 (by decide) ?_
      exact x_iret Γ rfl rfl (fun w2 e2 => ⟨Or.inl ⟨⟨Int32.not_lt.mp c2, Int32.not_lt.mp c7⟩, rfl⟩, e2⟩) ⟨Nat.le_of_ble_eq_true rfl, Nat.le_of_ble_eq_true rfl⟩ dX3_in_15
set_option maxRecDepth 100000 in
theorem t_isCounter {w : xW} {x : Int32} : xMet l G yX3_isCounter cX3_isCounter 1 (some .boolean) ({ frames := 1, cells := 0, slots := 0, locals := 40 } : Room) [.int x] w embI (fun r w' => bq (rIn 0 4 x) r ∧ w' = w) := by
  refine xMet_of (by decide) (Nat.le_of_ble_eq_true rfl) ?_
  intro p e s m below meth c Γ hnm
  refine x_iload_n Γ dX3_isCounter_0 rfl rfl ?_
  refine x_iconst (v := 0) Γ dX3_isCounter_1 (by decide) ?_
  refine x_iconst (v := 4) Γ dX3_isCounter_2 (by decide) ?_
  refine x_invS (emb := embI) (rm := ({ frames := 0, cells := 0, slots := 0, locals := 0 } : Room)) Γ [.int (x), .int (0), .int (4)] (fun w1 r w2 => bq (rIn (0) (4) (x)) r ∧ w2 = w1) rfl (fun w1 h1 => t_in) k_652 k_6 k_650 k_651 hd_X3_in ⟨Nat.le_of_ble_eq_true rfl, Nat.le_of_ble_eq_true rfl⟩ ⟨Nat.le_of_ble_eq_true rfl, Nat.le_of_ble_eq_true rfl⟩ (Nat.le_of_ble_eq_true rfl) dX3_isCounter_3 (fun r => ?_)
  refine m_same (fun q => ?_)
  exact x_iret Γ rfl q.nr (fun w2 e2 => ⟨q, e2⟩) ⟨Nat.le_of_ble_eq_true rfl, Nat.le_of_ble_eq_true rfl⟩ dX3_isCounter_6
set_option maxRecDepth 100000 in
theorem t_isFine {o : Nat} {ad : Nat → Nat} {A : xS} {L : List Nat} {w : xW} (h : MRep G w o ad A L) {x : Int32} : xMet l G yX3_isFine cX3_isFine 2 (some .boolean) ({ frames := 0, cells := 0, slots := 0, locals := 0 } : Room) [.ref o, .int x] w embI (fun r w' => bq (x = 0) r ∧ mP G o ad (mU A 19 0 x) L w w') := by
  refine xMet_of (by decide) (Nat.le_of_ble_eq_true rfl) ?_
  intro p e s m below meth c Γ hnm
  refine m_in h ?_
  refine x_aload_n Γ dX3_isFine_0 rfl rfl ?_
  refine x_iload_n Γ dX3_isFine_1 rfl rfl ?_
  refine m_puti Γ 19 (by decide) (by decide) (fun _ => rfl) k_597 rfl rfl rfl dX3_isFine_2 ?_
  refine x_iload_n Γ dX3_isFine_5 rfl rfl ?_
  refine x_if_ne (tgt := 13) Γ dX3_isFine_6 (by decide) (fun c6 => ?_) (fun c6 => ?_)
  · refine x_iconst (v := 0) Γ dX3_isFine_13 (by decide) ?_
    exact x_iret Γ rfl rfl (fun w2 e2 => ⟨Or.inr ⟨c6, rfl⟩, e2⟩) ⟨Nat.le_of_ble_eq_true rfl, Nat.le_of_ble_eq_true rfl⟩ dX3_isFine_14
  · refine x_iconst (v := 1) Γ dX3_isFine_9 (by decide) ?_
    refine x_goto (tgt := 14) Γ dX3_isFine_10 (by decide) ?_
    exact x_iret Γ rfl rfl (fun w2 e2 => ⟨Or.inl ⟨c6, rfl⟩, e2⟩) ⟨Nat.le_of_ble_eq_true rfl, Nat.le_of_ble_eq_true rfl⟩ dX3_isFine_14
set_option maxRecDepth 100000 in
theorem t_isThing {o : Nat} {ad : Nat → Nat} {A : xS} {L : List Nat} {w : xW} (h : MRep G w o ad A L) {x : Int32} : xMet l G yX3_isThing cX3_isThing 2 (some .boolean) ({ frames := 1, cells := 0, slots := 0, locals := 40 } : Room) [.ref o, .int x] w embI (fun r w' => bq (kT A x) r ∧ mP G o ad A L w w') := by
  refine xMet_of (by decide) (Nat.le_of_ble_eq_true rfl) ?_
  intro p e s m below meth c Γ hnm
  refine m_in h ?_
  refine x_iload_n Γ dX3_isThing_0 rfl rfl ?_
  refine x_iconst (v := 0) Γ dX3_isThing_1 (by decide) ?_
  refine x_aload_n Γ dX3_isThing_2 rfl rfl ?_
  refine m_geti Γ 5 (by decide) (by decide) (fun _ => rfl) k_583 rfl dX3_isThing_3 ?_
  refine x_iconst (v := 1) Γ dX3_isThing_6 (by decide) ?_
  refine x_isub Γ dX3_isThing_7 ?_
  refine x_invS (emb := embI) (rm := ({ frames := 0, cells := 0, slots := 0, locals := 0 } : Room)) Γ [.int (x), .int (0), .int (A 5 0 - 1)] (fun w1 r w2 => bq (rIn (0) (A 5 0 - 1) (x)) r ∧ w2 = w1) rfl (fun w1 h1 => t_in) k_652 k_6 k_650 k_651 hd_X3_in ⟨Nat.le_of_ble_eq_true rfl, Nat.le_of_ble_eq_true rfl⟩ ⟨Nat.le_of_ble_eq_true rfl, Nat.le_of_ble_eq_true rfl⟩ (Nat.le_of_ble_eq_true rfl) dX3_isThing_8 (fun r => ?_)
  refine m_same (fun q => ?_)
  exact x_iret Γ rfl q.nr (fun w2 e2 => ⟨q, e2⟩) ⟨Nat.le_of_ble_eq_true rfl, Nat.le_of_ble_eq_true rfl⟩ dX3_isThing_11
set_option maxRecDepth 100000 in
theorem t_isAt {o : Nat} {ad : Nat → Nat} {A : xS} {L : List Nat} {w : xW} (h : MRep G w o ad A L) {t : Nat} (ht : t < 24) : xMet l G yX3_isAt cX3_isAt 2 (some .boolean) ({ frames := 0, cells := 0, slots := 0, locals := 0 } : Room) [.ref o, .int (nI t)] w embI (fun r w' => bq (A 9 t < 5) r ∧ mP G o ad A L w w') := by
  refine xMet_of (by decide) (Nat.le_of_ble_eq_true rfl) ?_
  intro p e s m below meth c Γ hnm
  refine m_in h ?_
  refine x_aload_n Γ dX3_isAt_0 rfl rfl ?_
  refine m_geta Γ 9 (by decide) (fun _ => rfl) k_587 rfl dX3_isAt_1 ?_
  refine x_iload_n Γ dX3_isAt_4 rfl rfl ?_
  refine m_ald Γ rfl rfl (by decide) (by show _ < 24; omega) dX3_isAt_5 ?_
  refine x_iconst (v := 5) Γ dX3_isAt_6 (by decide) ?_
  refine x_icmp_ge (tgt := 14) Γ dX3_isAt_7 (by decide) (fun c7 => ?_) (fun c7 => ?_)
  · refine x_iconst (v := 0) Γ dX3_isAt_14 (by decide) ?_
    exact x_iret Γ rfl rfl (fun w2 e2 => ⟨Or.inr ⟨Int32.not_lt.mpr c7, rfl⟩, e2⟩) ⟨Nat.le_of_ble_eq_true rfl, Nat.le_of_ble_eq_true rfl⟩ dX3_isAt_15
  · refine x_iconst (v := 1) Γ dX3_isAt_10 (by decide) ?_
    refine x_goto (tgt := 15) Γ dX3_isAt_11 (by decide) ?_
    exact x_iret Γ rfl rfl (fun w2 e2 => ⟨Or.inl ⟨Int32.not_le.mp c7, rfl⟩, e2⟩) ⟨Nat.le_of_ble_eq_true rfl, Nat.le_of_ble_eq_true rfl⟩ dX3_isAt_15
set_option maxRecDepth 100000 in
theorem t_thrown {o : Nat} {ad : Nat → Nat} {A : xS} {L : List Nat} {w : xW} (h : MRep G w o ad A L) : xMet l G yX3_thrown cX3_thrown 1 (some .int) ({ frames := 0, cells := 0, slots := 0, locals := 0 } : Room) [.ref o] w embI (fun r w' => r = A 19 0 ∧ mP G o ad A L w w') := by
  refine xMet_of (by decide) (Nat.le_of_ble_eq_true rfl) ?_
  intro p e s m below meth c Γ hnm
  refine m_in h ?_
  refine x_aload_n Γ dX3_thrown_0 rfl rfl ?_
  refine m_geti Γ 19 (by decide) (by decide) (fun _ => rfl) k_597 rfl dX3_thrown_1 ?_
  exact x_iret Γ rfl rfl (fun w2 e2 => ⟨rfl, e2⟩) ⟨Nat.le_of_ble_eq_true rfl, Nat.le_of_ble_eq_true rfl⟩ dX3_thrown_4
set_option maxRecDepth 100000 in
theorem tm_day {o : Nat} {ad : Nat → Nat} {A : xS} {L : List Nat} {w : xW} (h : MRep G w o ad A L) : xMet l G yX3_day cX3_day 1 (some .int) ({ frames := 0, cells := 0, slots := 0, locals := 0 } : Room) [.ref o] w embI (fun r w' => r = (g0 4 A L).1 ∧ mP G o ad (g0 4 A L).2.1 (g0 4 A L).2.2 w w') := by
  refine xMet_of (by decide) (Nat.le_of_ble_eq_true rfl) ?_
  intro p e s m below meth c Γ hnm
  refine m_in h ?_
  refine x_aload_n Γ dX3_day_0 rfl rfl ?_
  refine x_iconst (v := 0) Γ dX3_day_1 (by decide) ?_
  refine m_puti Γ 19 (by decide) (by decide) (fun _ => rfl) k_597 rfl rfl rfl dX3_day_2 ?_
  refine x_aload_n Γ dX3_day_5 rfl rfl ?_
  refine m_geti Γ 4 (by decide) (by decide) (fun _ => rfl) k_582 rfl dX3_day_6 ?_
  exact x_iret Γ rfl rfl (fun w2 e2 => ⟨rfl, e2⟩) ⟨Nat.le_of_ble_eq_true rfl, Nat.le_of_ble_eq_true rfl⟩ dX3_day_9
set_option maxRecDepth 100000 in
theorem tm_things {o : Nat} {ad : Nat → Nat} {A : xS} {L : List Nat} {w : xW} (h : MRep G w o ad A L) : xMet l G yX3_things cX3_things 1 (some .int) ({ frames := 0, cells := 0, slots := 0, locals := 0 } : Room) [.ref o] w embI (fun r w' => r = (g0 5 A L).1 ∧ mP G o ad (g0 5 A L).2.1 (g0 5 A L).2.2 w w') := by
  refine xMet_of (by decide) (Nat.le_of_ble_eq_true rfl) ?_
  intro p e s m below meth c Γ hnm
  refine m_in h ?_
  refine x_aload_n Γ dX3_things_0 rfl rfl ?_
  refine x_iconst (v := 0) Γ dX3_things_1 (by decide) ?_
  refine m_puti Γ 19 (by decide) (by decide) (fun _ => rfl) k_597 rfl rfl rfl dX3_things_2 ?_
  refine x_aload_n Γ dX3_things_5 rfl rfl ?_
  refine m_geti Γ 5 (by decide) (by decide) (fun _ => rfl) k_583 rfl dX3_things_6 ?_
  exact x_iret Γ rfl rfl (fun w2 e2 => ⟨rfl, e2⟩) ⟨Nat.le_of_ble_eq_true rfl, Nat.le_of_ble_eq_true rfl⟩ dX3_things_9
set_option maxRecDepth 100000 in
theorem tm_taken {o : Nat} {ad : Nat → Nat} {A : xS} {L : List Nat} {w : xW} (h : MRep G w o ad A L) : xMet l G yX3_taken cX3_taken 1 (some .int) ({ frames := 0, cells := 0, slots := 0, locals := 0 } : Room) [.ref o] w embI (fun r w' => r = (g0 3 A L).1 ∧ mP G o ad (g0 3 A L).2.1 (g0 3 A L).2.2 w w') := by
  refine xMet_of (by decide) (Nat.le_of_ble_eq_true rfl) ?_
  intro p e s m below meth c Γ hnm
  refine m_in h ?_
  refine x_aload_n Γ dX3_taken_0 rfl rfl ?_
  refine x_iconst (v := 0) Γ dX3_taken_1 (by decide) ?_
  refine m_puti Γ 19 (by decide) (by decide) (fun _ => rfl) k_597 rfl rfl rfl dX3_taken_2 ?_
  refine x_aload_n Γ dX3_taken_5 rfl rfl ?_
  refine m_geti Γ 3 (by decide) (by decide) (fun _ => rfl) k_581 rfl dX3_taken_6 ?_
  exact x_iret Γ rfl rfl (fun w2 e2 => ⟨rfl, e2⟩) ⟨Nat.le_of_ble_eq_true rfl, Nat.le_of_ble_eq_true rfl⟩ dX3_taken_9
set_option maxRecDepth 100000 in
theorem t_loadOf {o : Nat} {ad : Nat → Nat} {A : xS} {L : List Nat} {w : xW} (h : MRep G w o ad A L) {n : Nat} {x : Int32} (hI : aI A n) : xMet l G yX3_loadOf cX3_loadOf 4 (some .int) ({ frames := 0, cells := 0, slots := 0, locals := 0 } : Room) [.ref o, .int x] w embI (fun r w' => r = ldF A x n ∧ mP G o ad A L w w') := by
  refine xMet_of (by decide) (Nat.le_of_ble_eq_true rfl) ?_
  intro p e s m below meth c Γ hnm
  have hn := hI.1
  have hn2 := hI.2.1
  refine m_in h ?_
  have loop : ∀ d t, t + d = n → xJ p l e ({ frames := 0, cells := 0, slots := 0, locals := 0 } : Room) s m ([.ref o, .int x] : List Value).toArray below meth c G 4 (MQ below (xQ G embI (fun r w' => r = ldF A x n ∧ mP G o ad A L w w')) ([.ref o, .int x] : List Value).toArray s ({ frames := 0, cells := 0, slots := 0, locals := 0 } : Room).cells ({ frames := 0, cells := 0, slots := 0, locals := 0 } : Room).slots (xA G)) (mP G o ad A L w) 0 0 4 [(0, .ref o), (1, .int x), (2, .int (ldF A x t)), (3, .int (nI t))] [] := by
    intro d
    induction d with
    | zero =>
      intro t ht
      refine x_iload_n Γ dX3_loadOf_4 rfl rfl ?_
      refine x_aload_n Γ dX3_loadOf_5 rfl rfl ?_
      refine m_geti Γ 5 (by decide) (by decide) (fun _ => rfl) k_583 rfl dX3_loadOf_6 ?_
      rw [hn]
      refine x_icmp_ge (tgt := 41) Γ dX3_loadOf_9 (by decide) (fun c9 => ?_) (fun c9 => absurd (nI_le (by omega) (by omega)) c9)
      refine x_iload_n Γ dX3_loadOf_41 rfl rfl ?_
      exact x_iret Γ rfl rfl (fun w2 e2 => ⟨by rw [show t = n by omega], e2⟩) ⟨Nat.le_of_ble_eq_true rfl, Nat.le_of_ble_eq_true rfl⟩ dX3_loadOf_42
    | succ d ih =>
      intro t ht
      have h24 : t < 24 := by omega
      have hend : ∀ v, ldF A x t + v = ldF A x (t + 1) → xJ p l e ({ frames := 0, cells := 0, slots := 0, locals := 0 } : Room) s m ([.ref o, .int x] : List Value).toArray below meth c G 4 (MQ below (xQ G embI (fun r w' => r = ldF A x n ∧ mP G o ad A L w w')) ([.ref o, .int x] : List Value).toArray s ({ frames := 0, cells := 0, slots := 0, locals := 0 } : Room).cells ({ frames := 0, cells := 0, slots := 0, locals := 0 } : Room).slots (xA G)) (mP G o ad A L w) 0 0 33 [(0, .ref o), (1, .int x), (2, .int (ldF A x t)), (3, .int (nI t))] [.int v, .int (ldF A x t)] := by
        intro v hv
        refine x_iadd Γ dX3_loadOf_33 ?_
        rw [hv]
        refine x_istore_n Γ dX3_loadOf_34 rfl rfl (by decide) ?_
        refine x_iinc (v := _ + 1) Γ dX3_loadOf_35 rfl rfl rfl (by decide) ?_
        rw [nI_1]
        refine x_goto (tgt := 4) Γ dX3_loadOf_38 (by decide) ?_
        refine x_lv [0, 1, 2, 3] rfl ?_
        exact ih (t + 1) (by omega)
      refine x_iload_n Γ dX3_loadOf_4 rfl rfl ?_
      refine x_aload_n Γ dX3_loadOf_5 rfl rfl ?_
      refine m_geti Γ 5 (by decide) (by decide) (fun _ => rfl) k_583 rfl dX3_loadOf_6 ?_
      rw [hn]
      refine x_icmp_ge (tgt := 41) Γ dX3_loadOf_9 (by decide) (fun c9 => absurd c9 (nI_ge (by omega) (by omega))) (fun c9 => ?_)
      refine x_iload_n Γ dX3_loadOf_12 rfl rfl ?_
      refine x_aload_n Γ dX3_loadOf_13 rfl rfl ?_
      refine m_geta Γ 9 (by decide) (fun _ => rfl) k_587 rfl dX3_loadOf_14 ?_
      refine x_iload_n Γ dX3_loadOf_17 rfl rfl ?_
      refine m_ald Γ rfl rfl (by decide) (by show _ < 24; omega) dX3_loadOf_18 ?_
      refine x_iload_n Γ dX3_loadOf_19 rfl rfl ?_
      refine x_icmp_ne (tgt := 32) Γ dX3_loadOf_20 (by decide) (fun c20 => ?_) (fun c20 => ?_)
      · refine x_iconst (v := 0) Γ dX3_loadOf_32 (by decide) ?_
        exact hend _ (by rw [ldF, if_neg c20])
      · refine x_aload_n Γ dX3_loadOf_23 rfl rfl ?_
        refine m_geta Γ 7 (by decide) (fun _ => rfl) k_585 rfl dX3_loadOf_24 ?_
        refine x_iload_n Γ dX3_loadOf_27 rfl rfl ?_
        refine m_ald Γ rfl rfl (by decide) (by show _ < 24; omega) dX3_loadOf_28 ?_
        refine x_goto (tgt := 33) Γ dX3_loadOf_29 (by decide) ?_
        exact hend _ (by rw [ldF, if_pos c20])
  refine x_iconst (v := 0) Γ dX3_loadOf_0 (by decide) ?_
  refine x_istore_n Γ dX3_loadOf_1 rfl rfl (by decide) ?_
  refine x_iconst (v := 0) Γ dX3_loadOf_2 (by decide) ?_
  refine x_istore_n Γ dX3_loadOf_3 rfl rfl (by decide) ?_
  refine x_lv [0, 1, 2, 3] rfl ?_
  exact loop n 0 (by omega)
end XM3
end
section
section XM4
variable {l : Launch} {G : xG}
theorem fFor_len (t : Nat) (L : List Nat) : (fFor t L).length ≤ L.length := List.length_filter_le _ _
theorem fFor_eq {t k q : Nat} {L : List Nat} (hq : L[k]? = some q) (h : q = t) : fFor t (L.take (k + 1)) = fFor t (L.take k) := by
  unfold fFor
  rw [List.take_add_one, hq, List.filter_append]
  simp [h]
theorem fFor_ne {t k q : Nat} {L : List Nat} (hq : L[k]? = some q) (h : ¬ q = t) : fFor t (L.take (k + 1)) = fFor t (L.take k) ++ [q] := by
  unfold fFor
  rw [List.take_add_one, hq, List.filter_append]
  simp [h]
theorem fFor_mem {t q : Nat} {L : List Nat} (h : q ∈ fFor t L) : q ∈ L ∧ q ≠ t := by
  unfold fFor at h
  have h2 := List.mem_filter.mp h
  exact ⟨h2.1, by simpa using h2.2⟩
set_option maxRecDepth 100000 in
theorem t_forgets {o : Nat} {ad : Nat → Nat} {A : xS} {L : List Nat} {w : xW} (h : MRep G w o ad A L) {t : Nat} (ht : t < 24) (hl : L.length ≤ 24) (hL : ∀ q ∈ L, q < 24) : xMet l G yX3_forgets cX3_forgets 4 none ({ frames := 0, cells := 0, slots := 0, locals := 0 } : Room) [.ref o, .int (nI t)] w embV (fun _ w' => mP G o ad (mU A 15 t (-1)) (fFor t L) w w') := by
  refine xMet_of (by decide) (Nat.le_of_ble_eq_true rfl) ?_
  intro p e s m below meth c Γ hnm
  obtain ⟨M0, hM0, hA0, h170, h160⟩ := h
  have loop : ∀ d k w1 M, k + d = L.length → MdlAt G w1 o ad M → (∀ j, j ≠ 16 → j ≠ 17 → M j = A j) → M 17 0 = nI L.length → (∀ i q, (fFor t (L.take (k)))[i]? = some q → M 16 i = nI q) → (∀ i q, k ≤ i → L[i]? = some q → M 16 i = nI q) → KpM w w1 → xJ p l e ({ frames := 0, cells := 0, slots := 0, locals := 0 } : Room) s m ([.ref o, .int (nI t)] : List Value).toArray below meth c G 4 (MQ below (xQ G embV (fun _ w' => mP G o ad (mU A 15 t (-1)) (fFor t L) w w')) ([.ref o, .int (nI t)] : List Value).toArray s ({ frames := 0, cells := 0, slots := 0, locals := 0 } : Room).cells ({ frames := 0, cells := 0, slots := 0, locals := 0 } : Room).slots (xA G)) (fun w' => w' = w1) 0 0 4 [(0, .ref o), (1, .int (nI t)), (2, .int (nI (fFor t (L.take k)).length)), (3, .int (nI (k)))] [] := by
    intro d
    induction d with
    | zero =>
      intro k w1 M hkd hM hA h17 hpre hsuf hk
      have hto := fFor_len t (L.take k)
      rw [List.length_take] at hto
      have hall : L.take k = L := List.take_of_length_le (by omega)
      refine x_iload_n Γ dX3_forgets_4 rfl rfl ?_
      refine x_aload_n Γ dX3_forgets_5 rfl rfl ?_
      refine x_getf (v := .int (nI L.length)) Γ kl4 17 (fun w9 e9 => by rw [e9]; exact ⟨_, _, hM.1, by rw [← h17]; rfl⟩) (by decide) k_595 (Or.inl rfl) dX3_forgets_6 ?_
      refine x_icmp_ge (tgt := 43) Γ dX3_forgets_9 (by decide) (fun c9 => ?_) (fun c9 => absurd (nI_le (by omega) (by omega)) c9)
      refine x_aload_n Γ dX3_forgets_43 rfl rfl ?_
      refine x_iload_n Γ dX3_forgets_44 rfl rfl ?_
      refine x_putf (P' := fun w2 => w2 = xu w1 o (10, .inr (4, (mFs ad (fun j => M j 0)).set 17 (.int (nI (fFor t (L.take k)).length))))) Γ kl4 17 (fun w9 e9 => by rw [e9]; exact ⟨_, _, hM.1, Nat.le_of_ble_eq_true rfl, rfl⟩) (by decide) k_595 (Or.inl rfl) rfl rfl rfl dX3_forgets_45 ?_
      have hM2 := MdlAt.put hM (j := 17) (x := nI (fFor t (L.take k)).length) rfl rfl
      refine x_pin (fun w2 hw2 => ?_)
      have hk2 : KpM w w2 := by rw [hw2]; exact hk.set hM.1 (by omega)
      rw [← hw2] at hM2
      clear hw2
      refine x_aload_n Γ dX3_forgets_48 rfl rfl ?_
      refine x_getf Γ kl4 15 (fun w9 e9 => by rw [e9]; exact ⟨_, _, hM2.1, rfl⟩) (by decide) k_593 (Or.inl rfl) dX3_forgets_49 ?_
      refine x_iload_n Γ dX3_forgets_52 rfl rfl ?_
      refine x_iconst (v := (-1)) Γ dX3_forgets_53 (by decide) ?_
      refine x_iast (P' := fun w3 => w3 = xu w2 (ad 15) (20 + 15, .inl (G.2 1, mlen 15, .inl (upd (mU M 17 0 (nI (fFor t (L.take k)).length) 15) t (-1))))) (N := mlen 15) (f := mU M 17 0 (nI (fFor t (L.take k)).length) 15) Γ (fun w9 e9 => by rw [e9]; refine ⟨_, hM2.2 15 rfl, ?_⟩; rw [nI_clamp (by omega)]) (vp_in_nI (by show t < 24; omega) (by decide)) dX3_forgets_54 ?_
      have hM3 := MdlAt.ast hM2 (j := 15) (i := t) (x := -1) rfl
      refine x_vret Γ rfl (fun w3 hw3 => ?_) ⟨Nat.le_of_ble_eq_true rfl, Nat.le_of_ble_eq_true rfl⟩ dX3_forgets_55
      rw [← hw3] at hM3
      refine ⟨⟨_, hM3, fun j h1 h2 => ?_, ?_, fun i q hq => ?_⟩, by rw [hw3]; exact hk2.set (hM2.2 15 rfl) (by omega)⟩
      · by_cases hj : j = 15
        · subst hj; rw [mU_row, mU_row, mU_j (by decide), hA 15 h1 h2]
        · rw [mU_j hj, mU_j hj, mU_j h2, hA j h1 h2]
      · rw [mU_j (by decide), mU_eq, hall]
      · rw [mU_j (by decide), mU_j (by decide)]; exact hpre i q (by rw [hall]; exact hq)
    | succ d ih =>
      intro k w1 M hkd hM hA h17 hpre hsuf hk
      have hto := fFor_len t (L.take k)
      rw [List.length_take] at hto
      have hkl : k < L.length := by omega
      obtain ⟨q, hq⟩ : ∃ q, L[k]? = some q := ⟨L[k], List.getElem?_eq_getElem hkl⟩
      have hq24 : q < 24 := hL q (List.mem_of_getElem? hq)
      have hnext : ∀ w1 M to', MdlAt G w1 o ad M → (∀ j, j ≠ 16 → j ≠ 17 → M j = A j) → M 17 0 = nI L.length → (∀ i q, (fFor t (L.take (k + 1)))[i]? = some q → M 16 i = nI q) → (∀ i q, k + 1 ≤ i → L[i]? = some q → M 16 i = nI q) → KpM w w1 → (fFor t (L.take (k + 1))).length = to' → xJ p l e ({ frames := 0, cells := 0, slots := 0, locals := 0 } : Room) s m ([.ref o, .int (nI t)] : List Value).toArray below meth c G 4 (MQ below (xQ G embV (fun _ w' => mP G o ad (mU A 15 t (-1)) (fFor t L) w w')) ([.ref o, .int (nI t)] : List Value).toArray s ({ frames := 0, cells := 0, slots := 0, locals := 0 } : Room).cells ({ frames := 0, cells := 0, slots := 0, locals := 0 } : Room).slots (xA G)) (fun w' => w' = w1) 0 0 37 [(0, .ref o), (1, .int (nI t)), (2, .int (nI to')), (3, .int (nI (k)))] [] := by
        intro w1 M to' hM hA h17 hpre hsuf hk hto'
        refine x_iinc (v := _ + 1) Γ dX3_forgets_37 rfl rfl rfl (by decide) ?_
        rw [nI_1]
        refine x_goto (tgt := 4) Γ dX3_forgets_40 (by decide) ?_
        refine x_lv [0, 1, 2, 3] rfl ?_
        rw [← hto']
        exact ih (k + 1) w1 M (by omega) hM hA h17 hpre hsuf hk
      refine x_iload_n Γ dX3_forgets_4 rfl rfl ?_
      refine x_aload_n Γ dX3_forgets_5 rfl rfl ?_
      refine x_getf (v := .int (nI L.length)) Γ kl4 17 (fun w9 e9 => by rw [e9]; exact ⟨_, _, hM.1, by rw [← h17]; rfl⟩) (by decide) k_595 (Or.inl rfl) dX3_forgets_6 ?_
      refine x_icmp_ge (tgt := 43) Γ dX3_forgets_9 (by decide) (fun c9 => absurd c9 (nI_ge (by omega) (by omega))) (fun c9 => ?_)
      refine x_aload_n Γ dX3_forgets_12 rfl rfl ?_
      refine x_getf Γ kl4 16 (fun w9 e9 => by rw [e9]; exact ⟨_, _, hM.1, rfl⟩) (by decide) k_594 (Or.inl rfl) dX3_forgets_13 ?_
      refine x_iload_n Γ dX3_forgets_16 rfl rfl ?_
      refine x_iald (N := 24) (f := M 16) (x := nI q) Γ (xv_arr (hM.2 16 rfl)) (vp_in_nI (by omega) (by omega)) (by rw [nI_clamp (by omega)]; exact hsuf k q (Nat.le_refl k) hq) dX3_forgets_17 ?_
      refine x_iload_n Γ dX3_forgets_18 rfl rfl ?_
      refine x_icmp_eq (tgt := 37) Γ dX3_forgets_19 (by decide) (fun c19 => ?_) (fun c19 => ?_)
      · have hqt : q = t := (nI_eq (by omega) (by omega)).mp c19
        refine x_lv [0, 1, 2, 3] rfl ?_
        exact hnext w1 M _ hM hA h17 (by rw [fFor_eq hq hqt]; exact hpre) (fun i q2 hi => hsuf i q2 (by omega)) hk (by rw [fFor_eq hq hqt])
      · have hqt : ¬ q = t := fun z => c19 (by rw [z])
        refine x_aload_n Γ dX3_forgets_22 rfl rfl ?_
        refine x_getf Γ kl4 16 (fun w9 e9 => by rw [e9]; exact ⟨_, _, hM.1, rfl⟩) (by decide) k_594 (Or.inl rfl) dX3_forgets_23 ?_
        refine x_iload_n Γ dX3_forgets_26 rfl rfl ?_
        refine x_aload_n Γ dX3_forgets_27 rfl rfl ?_
        refine x_getf Γ kl4 16 (fun w9 e9 => by rw [e9]; exact ⟨_, _, hM.1, rfl⟩) (by decide) k_594 (Or.inl rfl) dX3_forgets_28 ?_
        refine x_iload_n Γ dX3_forgets_31 rfl rfl ?_
        refine x_iald (N := 24) (f := M 16) (x := nI q) Γ (xv_arr (hM.2 16 rfl)) (vp_in_nI (by omega) (by omega)) (by rw [nI_clamp (by omega)]; exact hsuf k q (Nat.le_refl k) hq) dX3_forgets_32 ?_
        refine x_iast (P' := fun w3 => w3 = xu w1 (ad 16) (20 + 16, .inl (G.2 1, mlen 16, .inl (upd (M 16) (fFor t (L.take k)).length (nI q))))) (N := mlen 16) (f := M 16) Γ (fun w9 e9 => by rw [e9]; refine ⟨_, hM.2 16 rfl, ?_⟩; rw [nI_clamp (by omega)]) (vp_in_nI (by show _ < 24; omega) (by decide)) dX3_forgets_33 ?_
        have hM3 := MdlAt.ast hM (j := 16) (i := (fFor t (L.take k)).length) (x := nI q) rfl
        refine x_pin (fun w2 hw2 => ?_)
        rw [← hw2] at hM3
        refine x_iinc (v := _ + 1) Γ dX3_forgets_34 rfl rfl rfl (by decide) ?_
        rw [nI_1]
        refine x_lv [0, 1, 2, 3] rfl ?_
        refine hnext w2 _ _ hM3 (fun j h1 h2 => by rw [mU_j h1]; exact hA j h1 h2) (by rw [mU_j (by decide)]; exact h17) (fun i q2 hi => ?_) (fun i q2 hi hq2 => ?_) (by rw [hw2]; exact hk.set (hM.2 16 rfl) (by omega)) (by rw [fFor_ne hq hqt, List.length_append]; rfl)
        · rw [fFor_ne hq hqt] at hi
          by_cases hil : i < (fFor t (L.take k)).length
          · rw [List.getElem?_append_left hil] at hi
            rw [mU_i (by omega)]
            exact hpre i q2 hi
          · rw [List.getElem?_append_right (by omega)] at hi
            have hie : i - (fFor t (L.take k)).length = 0 := by
              have := (List.getElem?_eq_some_iff.mp hi).1
              simp only [List.length_cons, List.length_nil] at this
              omega
            rw [hie] at hi
            have hqq : q = q2 := by simpa using hi
            rw [show i = (fFor t (L.take k)).length by omega, mU_eq, hqq]
        · rw [mU_i (by omega)]
          exact hsuf i q2 (by omega) hq2
  refine x_iconst (v := 0) Γ dX3_forgets_0 (by decide) ?_
  refine x_istore_n Γ dX3_forgets_1 rfl rfl (by decide) ?_
  refine x_iconst (v := 0) Γ dX3_forgets_2 (by decide) ?_
  refine x_istore_n Γ dX3_forgets_3 rfl rfl (by decide) ?_
  refine x_lv [0, 1, 2, 3] rfl ?_
  exact loop L.length 0 w M0 (by omega) hM0 hA0 h170 (fun i q hi => by rw [List.take_zero] at hi; simp [fFor] at hi) (fun i q _ hi => h160 i q hi) KpM.rf
end XM4
end
section
section XM5
variable {l : Launch} {G : xG}
set_option maxRecDepth 100000 in
theorem tm_setRoom {o : Nat} {ad : Nat → Nat} {A : xS} {L : List Nat} {w : xW} (h : MRep G w o ad A L) {n : Nat} {c0 r0 : Int32} (hI : aI A n)  : xMet l G yX3_setRoom cX3_setRoom 4 (some .int) ({ frames := 3, cells := 0, slots := 0, locals := 140 } : Room) [.ref o, .int c0, .int r0] w embI (fun r w' => r = (gSetRoom A L c0 r0).1 ∧ mP G o ad (gSetRoom A L c0 r0).2.1 (gSetRoom A L c0 r0).2.2 w w') := by
  refine xMet_of (by decide) (Nat.le_of_ble_eq_true rfl) ?_
  intro p e s m below meth c Γ hnm
  have hn := hI.1
  have hn2 := hI.2.1
  refine m_in h ?_
  have hE : ∀ k : Int32, ¬ k = 0 → kSetRoom c0 r0 = k → xJ p l e ({ frames := 3, cells := 0, slots := 0, locals := 140 } : Room) s m ([.ref o, .int c0, .int r0] : List Value).toArray below meth c G 4 (MQ below (xQ G embI (fun r w' => r = (gSetRoom A L c0 r0).1 ∧ mP G o ad (gSetRoom A L c0 r0).2.1 (gSetRoom A L c0 r0).2.2 w w')) ([.ref o, .int c0, .int r0] : List Value).toArray s ({ frames := 3, cells := 0, slots := 0, locals := 140 } : Room).cells ({ frames := 3, cells := 0, slots := 0, locals := 140 } : Room).slots (xA G)) (mP G o ad A L w) 0 0 23 [(0, .ref o), (1, .int c0), (2, .int r0)] [.int k, .ref o] := by
    intro k h0 hk
    refine x_invV (emb := embI) (ci := 4) (rm := ({ frames := 0, cells := 0, slots := 0, locals := 0 } : Room)) Γ [.int k] (fun w1 r w2 => bq (k = 0) r ∧ mP G o ad (mU (A) 19 0 k) (L) w1 w2) rfl (fun w1 h1 => t_isFine h1.1) m_obj rfl k_656 k_6 k_653 k_655 s_24 hd_X3_isFine ⟨Nat.le_of_ble_eq_true rfl, Nat.le_of_ble_eq_true rfl⟩ ⟨Nat.le_of_ble_eq_true rfl, Nat.le_of_ble_eq_true rfl⟩ (Nat.le_of_ble_eq_true rfl) dX3_setRoom_23 (fun r => ?_)
    refine m_then (A' := mU (A) 19 0 k) (L' := L) (fun q => ?_)
    refine x_if_ne (tgt := 31) Γ dX3_setRoom_26 (by decide) (fun c26 => absurd (q.zero h0) c26) (fun c26 => ?_)
    refine x_iconst (v := 0) Γ dX3_setRoom_29 (by decide) ?_
    refine x_iret Γ rfl rfl (fun w2 e2 => ?_) ⟨Nat.le_of_ble_eq_true rfl, Nat.le_of_ble_eq_true rfl⟩ dX3_setRoom_30
    unfold gSetRoom
    rw [fin_no hk h0]
    exact ⟨rfl, e2⟩
  refine x_aload_n Γ dX3_setRoom_0 rfl rfl ?_
  refine x_iload_n Γ dX3_setRoom_1 rfl rfl ?_
  refine x_invS (emb := embI) (rm := ({ frames := 1, cells := 0, slots := 0, locals := 40 } : Room)) Γ [.int (c0)] (fun w1 r w2 => bq (rIn 0 4 (c0)) r ∧ w2 = w1) rfl (fun w1 h1 => t_isCounter) k_649 k_6 k_647 k_648 hd_X3_isCounter ⟨Nat.le_of_ble_eq_true rfl, Nat.le_of_ble_eq_true rfl⟩ ⟨Nat.le_of_ble_eq_true rfl, Nat.le_of_ble_eq_true rfl⟩ (Nat.le_of_ble_eq_true rfl) dX3_setRoom_2 (fun r => ?_)
  refine m_same (fun q2 => ?_)
  refine x_if_eq (tgt := 22) Γ dX3_setRoom_5 (by decide) (fun c5 => ?_) (fun c5 => ?_)
  · have hk : kSetRoom c0 r0 = 1 := if_neg (fun z => by first | exact q2.eq c5 z.1 | exact q12.eq c15 z.2)
    refine x_iconst (v := 1) Γ dX3_setRoom_22 (by decide) ?_
    exact hE 1 (by decide) hk
  · refine x_iload_n Γ dX3_setRoom_8 rfl rfl ?_
    refine x_iconst (v := 0) Γ dX3_setRoom_9 (by decide) ?_
    refine x_bipush (v := 30) Γ dX3_setRoom_10 (by decide) ?_
    refine x_invS (emb := embI) (rm := ({ frames := 0, cells := 0, slots := 0, locals := 0 } : Room)) Γ [.int (r0), .int (0), .int (30)] (fun w1 r w2 => bq (rIn (0) (30) (r0)) r ∧ w2 = w1) rfl (fun w1 h1 => t_in) k_652 k_6 k_650 k_651 hd_X3_in ⟨Nat.le_of_ble_eq_true rfl, Nat.le_of_ble_eq_true rfl⟩ ⟨Nat.le_of_ble_eq_true rfl, Nat.le_of_ble_eq_true rfl⟩ (Nat.le_of_ble_eq_true rfl) dX3_setRoom_12 (fun r => ?_)
    refine m_same (fun q12 => ?_)
    refine x_if_eq (tgt := 22) Γ dX3_setRoom_15 (by decide) (fun c15 => ?_) (fun c15 => ?_)
    · have hk : kSetRoom c0 r0 = 1 := if_neg (fun z => by first | exact q2.eq c5 z.1 | exact q12.eq c15 z.2)
      refine x_iconst (v := 1) Γ dX3_setRoom_22 (by decide) ?_
      exact hE 1 (by decide) hk
    · have hk : kSetRoom c0 r0 = 0 := if_pos ⟨q2.ne c5, q12.ne c15⟩
      obtain ⟨i, hi, rfl⟩ := rIn_nat (M := 4) (n := 4) (by decide) (q2.ne c5)
      refine x_iconst (v := 0) Γ dX3_setRoom_18 (by decide) ?_
      refine x_goto (tgt := 23) Γ dX3_setRoom_19 (by decide) ?_
      refine x_invV (emb := embI) (ci := 4) (rm := ({ frames := 0, cells := 0, slots := 0, locals := 0 } : Room)) Γ [.int 0] (fun w1 r w2 => bq (0 = 0) r ∧ mP G o ad (mU (A) 19 0 0) (L) w1 w2) rfl (fun w1 h1 => t_isFine h1.1) m_obj rfl k_656 k_6 k_653 k_655 s_24 hd_X3_isFine ⟨Nat.le_of_ble_eq_true rfl, Nat.le_of_ble_eq_true rfl⟩ ⟨Nat.le_of_ble_eq_true rfl, Nat.le_of_ble_eq_true rfl⟩ (Nat.le_of_ble_eq_true rfl) dX3_setRoom_23 (fun r => ?_)
      refine m_then (A' := mU (A) 19 0 0) (L' := L) (fun q => ?_)
      refine x_if_ne (tgt := 31) Γ dX3_setRoom_26 (by decide) (fun c26 => ?_) (fun c26 => absurd c26 (q.one rfl))
      refine x_aload_n Γ dX3_setRoom_31 rfl rfl ?_
      refine m_geta Γ 0 (by decide) (fun _ => rfl) k_578 rfl dX3_setRoom_32 ?_
      refine x_iload_n Γ dX3_setRoom_35 rfl rfl ?_
      refine m_ald Γ rfl rfl (by decide) (by show _ < 5; omega) dX3_setRoom_36 ?_
      refine x_istore_n Γ dX3_setRoom_37 rfl rfl (by decide) ?_
      refine x_aload_n Γ dX3_setRoom_38 rfl rfl ?_
      refine m_geta Γ 0 (by decide) (fun _ => rfl) k_578 rfl dX3_setRoom_39 ?_
      refine x_iload_n Γ dX3_setRoom_42 rfl rfl ?_
      refine x_iload_n Γ dX3_setRoom_43 rfl rfl ?_
      refine m_ast Γ rfl rfl (by decide) (by show _ < 5; omega) dX3_setRoom_44 ?_
      refine x_iload_n Γ dX3_setRoom_45 rfl rfl ?_
      refine x_iret Γ rfl rfl (fun w2 e2 => ?_) ⟨Nat.le_of_ble_eq_true rfl, Nat.le_of_ble_eq_true rfl⟩ dX3_setRoom_46
      unfold gSetRoom
      rw [fin_ok hk, ixn (t := i) (by omega)]
      exact ⟨rfl, e2⟩
set_option maxRecDepth 100000 in
theorem tm_setVan {o : Nat} {ad : Nat → Nat} {A : xS} {L : List Nat} {w : xW} (h : MRep G w o ad A L) {n : Nat} {r0 : Int32} (hI : aI A n)  : xMet l G yX3_setVan cX3_setVan 3 (some .int) ({ frames := 3, cells := 0, slots := 0, locals := 140 } : Room) [.ref o, .int r0] w embI (fun r w' => r = (gSetVan A L r0).1 ∧ mP G o ad (gSetVan A L r0).2.1 (gSetVan A L r0).2.2 w w') := by
  refine xMet_of (by decide) (Nat.le_of_ble_eq_true rfl) ?_
  intro p e s m below meth c Γ hnm
  have hn := hI.1
  have hn2 := hI.2.1
  refine m_in h ?_
  have hE : ∀ k : Int32, ¬ k = 0 → kSetVan r0 = k → xJ p l e ({ frames := 3, cells := 0, slots := 0, locals := 140 } : Room) s m ([.ref o, .int r0] : List Value).toArray below meth c G 3 (MQ below (xQ G embI (fun r w' => r = (gSetVan A L r0).1 ∧ mP G o ad (gSetVan A L r0).2.1 (gSetVan A L r0).2.2 w w')) ([.ref o, .int r0] : List Value).toArray s ({ frames := 3, cells := 0, slots := 0, locals := 140 } : Room).cells ({ frames := 3, cells := 0, slots := 0, locals := 140 } : Room).slots (xA G)) (mP G o ad A L w) 0 0 16 [(0, .ref o), (1, .int r0)] [.int k, .ref o] := by
    intro k h0 hk
    refine x_invV (emb := embI) (ci := 4) (rm := ({ frames := 0, cells := 0, slots := 0, locals := 0 } : Room)) Γ [.int k] (fun w1 r w2 => bq (k = 0) r ∧ mP G o ad (mU (A) 19 0 k) (L) w1 w2) rfl (fun w1 h1 => t_isFine h1.1) m_obj rfl k_656 k_6 k_653 k_655 s_24 hd_X3_isFine ⟨Nat.le_of_ble_eq_true rfl, Nat.le_of_ble_eq_true rfl⟩ ⟨Nat.le_of_ble_eq_true rfl, Nat.le_of_ble_eq_true rfl⟩ (Nat.le_of_ble_eq_true rfl) dX3_setVan_16 (fun r => ?_)
    refine m_then (A' := mU (A) 19 0 k) (L' := L) (fun q => ?_)
    refine x_if_ne (tgt := 24) Γ dX3_setVan_19 (by decide) (fun c19 => absurd (q.zero h0) c19) (fun c19 => ?_)
    refine x_iconst (v := 0) Γ dX3_setVan_22 (by decide) ?_
    refine x_iret Γ rfl rfl (fun w2 e2 => ?_) ⟨Nat.le_of_ble_eq_true rfl, Nat.le_of_ble_eq_true rfl⟩ dX3_setVan_23
    unfold gSetVan
    rw [fin_no hk h0]
    exact ⟨rfl, e2⟩
  refine x_aload_n Γ dX3_setVan_0 rfl rfl ?_
  refine x_iload_n Γ dX3_setVan_1 rfl rfl ?_
  refine x_iconst (v := 0) Γ dX3_setVan_2 (by decide) ?_
  refine x_bipush (v := 30) Γ dX3_setVan_3 (by decide) ?_
  refine x_invS (emb := embI) (rm := ({ frames := 0, cells := 0, slots := 0, locals := 0 } : Room)) Γ [.int (r0), .int (0), .int (30)] (fun w1 r w2 => bq (rIn (0) (30) (r0)) r ∧ w2 = w1) rfl (fun w1 h1 => t_in) k_652 k_6 k_650 k_651 hd_X3_in ⟨Nat.le_of_ble_eq_true rfl, Nat.le_of_ble_eq_true rfl⟩ ⟨Nat.le_of_ble_eq_true rfl, Nat.le_of_ble_eq_true rfl⟩ (Nat.le_of_ble_eq_true rfl) dX3_setVan_5 (fun r => ?_)
  refine m_same (fun q5 => ?_)
  refine x_if_eq (tgt := 15) Γ dX3_setVan_8 (by decide) (fun c8 => ?_) (fun c8 => ?_)
  · have hk : kSetVan r0 = 1 := if_neg (q5.eq c8)
    refine x_iconst (v := 1) Γ dX3_setVan_15 (by decide) ?_
    exact hE 1 (by decide) hk
  · have hk : kSetVan r0 = 0 := if_pos (q5.ne c8)
    refine x_iconst (v := 0) Γ dX3_setVan_11 (by decide) ?_
    refine x_goto (tgt := 16) Γ dX3_setVan_12 (by decide) ?_
    refine x_invV (emb := embI) (ci := 4) (rm := ({ frames := 0, cells := 0, slots := 0, locals := 0 } : Room)) Γ [.int 0] (fun w1 r w2 => bq (0 = 0) r ∧ mP G o ad (mU (A) 19 0 0) (L) w1 w2) rfl (fun w1 h1 => t_isFine h1.1) m_obj rfl k_656 k_6 k_653 k_655 s_24 hd_X3_isFine ⟨Nat.le_of_ble_eq_true rfl, Nat.le_of_ble_eq_true rfl⟩ ⟨Nat.le_of_ble_eq_true rfl, Nat.le_of_ble_eq_true rfl⟩ (Nat.le_of_ble_eq_true rfl) dX3_setVan_16 (fun r => ?_)
    refine m_then (A' := mU (A) 19 0 0) (L' := L) (fun q => ?_)
    refine x_if_ne (tgt := 24) Γ dX3_setVan_19 (by decide) (fun c19 => ?_) (fun c19 => absurd c19 (q.one rfl))
    refine x_aload_n Γ dX3_setVan_24 rfl rfl ?_
    refine m_geti Γ 1 (by decide) (by decide) (fun _ => rfl) k_579 rfl dX3_setVan_25 ?_
    refine x_istore_n Γ dX3_setVan_28 rfl rfl (by decide) ?_
    refine x_aload_n Γ dX3_setVan_29 rfl rfl ?_
    refine x_iload_n Γ dX3_setVan_30 rfl rfl ?_
    refine m_puti Γ 1 (by decide) (by decide) (fun _ => rfl) k_579 rfl rfl rfl dX3_setVan_31 ?_
    refine x_iload_n Γ dX3_setVan_34 rfl rfl ?_
    refine x_iret Γ rfl rfl (fun w2 e2 => ?_) ⟨Nat.le_of_ble_eq_true rfl, Nat.le_of_ble_eq_true rfl⟩ dX3_setVan_35
    unfold gSetVan
    rw [fin_ok hk]
    exact ⟨rfl, e2⟩
set_option maxRecDepth 100000 in
theorem tm_fetch {o : Nat} {ad : Nat → Nat} {A : xS} {L : List Nat} {w : xW} (h : MRep G w o ad A L) {n : Nat} {x : Int32} (hI : aI A n) (hL : ∀ q ∈ L, q < n) (hl : L.length ≤ n) : xMet l G yX3_fetch cX3_fetch 2 (some .int) ({ frames := 3, cells := 0, slots := 0, locals := 140 } : Room) [.ref o, .int x] w embI (fun r w' => r = (gFetch A L x).1 ∧ mP G o ad (gFetch A L x).2.1 (gFetch A L x).2.2 w w') := by
  refine xMet_of (by decide) (Nat.le_of_ble_eq_true rfl) ?_
  intro p e s m below meth c Γ hnm
  have hn := hI.1
  have hn2 := hI.2.1
  refine m_in h ?_
  have hE : ∀ k : Int32, ¬ k = 0 → kFetch A x = k → xJ p l e ({ frames := 3, cells := 0, slots := 0, locals := 140 } : Room) s m ([.ref o, .int x] : List Value).toArray below meth c G 2 (MQ below (xQ G embI (fun r w' => r = (gFetch A L x).1 ∧ mP G o ad (gFetch A L x).2.1 (gFetch A L x).2.2 w w')) ([.ref o, .int x] : List Value).toArray s ({ frames := 3, cells := 0, slots := 0, locals := 140 } : Room).cells ({ frames := 3, cells := 0, slots := 0, locals := 140 } : Room).slots (xA G)) (mP G o ad A L w) 0 0 35 [(0, .ref o), (1, .int x)] [.int k, .ref o] := by
    intro k h0 hk
    refine x_invV (emb := embI) (ci := 4) (rm := ({ frames := 0, cells := 0, slots := 0, locals := 0 } : Room)) Γ [.int k] (fun w1 r w2 => bq (k = 0) r ∧ mP G o ad (mU (A) 19 0 k) (L) w1 w2) rfl (fun w1 h1 => t_isFine h1.1) m_obj rfl k_656 k_6 k_653 k_655 s_24 hd_X3_isFine ⟨Nat.le_of_ble_eq_true rfl, Nat.le_of_ble_eq_true rfl⟩ ⟨Nat.le_of_ble_eq_true rfl, Nat.le_of_ble_eq_true rfl⟩ (Nat.le_of_ble_eq_true rfl) dX3_fetch_35 (fun r => ?_)
    refine m_then (A' := mU (A) 19 0 k) (L' := L) (fun q => ?_)
    refine x_if_ne (tgt := 43) Γ dX3_fetch_38 (by decide) (fun c38 => absurd (q.zero h0) c38) (fun c38 => ?_)
    refine x_iconst (v := 0) Γ dX3_fetch_41 (by decide) ?_
    refine x_iret Γ rfl rfl (fun w2 e2 => ?_) ⟨Nat.le_of_ble_eq_true rfl, Nat.le_of_ble_eq_true rfl⟩ dX3_fetch_42
    unfold gFetch
    rw [fin_no hk h0]
    exact ⟨rfl, e2⟩
  refine x_aload_n Γ dX3_fetch_0 rfl rfl ?_
  refine x_aload_n Γ dX3_fetch_1 rfl rfl ?_
  refine x_iload_n Γ dX3_fetch_2 rfl rfl ?_
  refine x_invV (emb := embI) (ci := 4) (rm := ({ frames := 1, cells := 0, slots := 0, locals := 40 } : Room)) Γ [.int x] (fun w1 r w2 => bq (kT (A) (x)) r ∧ mP G o ad (A) (L) w1 w2) rfl (fun w1 h1 => t_isThing h1.1) m_obj rfl k_676 k_6 k_673 k_675 s_26 hd_X3_isThing ⟨Nat.le_of_ble_eq_true rfl, Nat.le_of_ble_eq_true rfl⟩ ⟨Nat.le_of_ble_eq_true rfl, Nat.le_of_ble_eq_true rfl⟩ (Nat.le_of_ble_eq_true rfl) dX3_fetch_3 (fun r => ?_)
  refine m_then (A' := A) (L' := L) (fun q3 => ?_)
  refine x_if_ne (tgt := 13) Γ dX3_fetch_6 (by decide) (fun c6 => ?_) (fun c6 => ?_)
  · obtain ⟨t, htn, ht, rfl⟩ := aI_kT hI (q3.ne c6)
    have hT := aI_toT hI htn
    refine x_aload_n Γ dX3_fetch_13 rfl rfl ?_
    refine x_iload_n Γ dX3_fetch_14 rfl rfl ?_
    refine x_invV (emb := embI) (ci := 4) (rm := ({ frames := 0, cells := 0, slots := 0, locals := 0 } : Room)) Γ [.int (nI t)] (fun w1 r w2 => bq ((A) 9 t < 5) r ∧ mP G o ad (A) (L) w1 w2) rfl (fun w1 h1 => t_isAt h1.1 (by omega)) m_obj rfl k_680 k_6 k_677 k_679 s_27 hd_X3_isAt ⟨Nat.le_of_ble_eq_true rfl, Nat.le_of_ble_eq_true rfl⟩ ⟨Nat.le_of_ble_eq_true rfl, Nat.le_of_ble_eq_true rfl⟩ (Nat.le_of_ble_eq_true rfl) dX3_fetch_15 (fun r => ?_)
    refine m_then (A' := A) (L' := L) (fun q15 => ?_)
    refine x_if_eq (tgt := 30) Γ dX3_fetch_18 (by decide) (fun c18 => ?_) (fun c18 => ?_)
    · have hk : kFetch A (nI t) = 2 := by
        unfold kFetch
        rw [if_neg (not_not_intro hT), ixn ht, if_pos (by first | exact Or.inl (q15.eq c18) | exact Or.inr (Int32.not_le.mp c27))]
      refine x_iconst (v := 2) Γ dX3_fetch_30 (by decide) ?_
      refine x_goto (tgt := 35) Γ dX3_fetch_31 (by decide) ?_
      exact hE 2 (by decide) hk
    · refine x_aload_n Γ dX3_fetch_21 rfl rfl ?_
      refine m_geta Γ 12 (by decide) (fun _ => rfl) k_590 rfl dX3_fetch_22 ?_
      refine x_iload_n Γ dX3_fetch_25 rfl rfl ?_
      refine m_ald Γ rfl rfl (by decide) (by show _ < 24; omega) dX3_fetch_26 ?_
      refine x_if_le (tgt := 34) Γ dX3_fetch_27 (by decide) (fun c27 => ?_) (fun c27 => ?_)
      · have hk : kFetch A (nI t) = 0 := by
          unfold kFetch
          rw [if_neg (not_not_intro hT), ixn ht, if_neg (fun z => z.elim (fun z => z (q15.ne c18)) (fun z => Int32.not_lt.mpr c27 z))]
        refine x_iconst (v := 0) Γ dX3_fetch_34 (by decide) ?_
        refine x_invV (emb := embI) (ci := 4) (rm := ({ frames := 0, cells := 0, slots := 0, locals := 0 } : Room)) Γ [.int 0] (fun w1 r w2 => bq (0 = 0) r ∧ mP G o ad (mU (A) 19 0 0) (L) w1 w2) rfl (fun w1 h1 => t_isFine h1.1) m_obj rfl k_656 k_6 k_653 k_655 s_24 hd_X3_isFine ⟨Nat.le_of_ble_eq_true rfl, Nat.le_of_ble_eq_true rfl⟩ ⟨Nat.le_of_ble_eq_true rfl, Nat.le_of_ble_eq_true rfl⟩ (Nat.le_of_ble_eq_true rfl) dX3_fetch_35 (fun r => ?_)
        refine m_then (A' := mU (A) 19 0 0) (L' := L) (fun q => ?_)
        refine x_if_ne (tgt := 43) Γ dX3_fetch_38 (by decide) (fun c38 => ?_) (fun c38 => absurd c38 (q.one rfl))
        refine x_aload_n Γ dX3_fetch_43 rfl rfl ?_
        refine m_geta Γ 9 (by decide) (fun _ => rfl) k_587 rfl dX3_fetch_44 ?_
        refine x_iload_n Γ dX3_fetch_47 rfl rfl ?_
        refine x_bipush (v := 10) Γ dX3_fetch_48 (by decide) ?_
        refine m_ast Γ rfl rfl (by decide) (by show _ < 24; omega) dX3_fetch_50 ?_
        refine x_aload_n Γ dX3_fetch_51 rfl rfl ?_
        refine x_dup Γ dX3_fetch_52 rfl ?_
        refine m_geti Γ 3 (by decide) (by decide) (fun _ => rfl) k_581 rfl dX3_fetch_53 ?_
        refine x_aload_n Γ dX3_fetch_56 rfl rfl ?_
        refine m_geta Γ 11 (by decide) (fun _ => rfl) k_589 rfl dX3_fetch_57 ?_
        refine x_iload_n Γ dX3_fetch_60 rfl rfl ?_
        refine m_ald Γ rfl rfl (by decide) (by show _ < 24; omega) dX3_fetch_61 ?_
        refine x_iadd Γ dX3_fetch_62 ?_
        refine m_puti Γ 3 (by decide) (by decide) (fun _ => rfl) k_581 rfl rfl rfl dX3_fetch_63 ?_
        refine x_aload_n Γ dX3_fetch_66 rfl rfl ?_
        refine x_iload_n Γ dX3_fetch_67 rfl rfl ?_
        refine x_invV (emb := embV) (ci := 4) (rm := ({ frames := 0, cells := 0, slots := 0, locals := 0 } : Room)) Γ [.int (nI t)] (fun w1 _ w2 => mP G o ad (bFetch (mU A 19 0 0) t) (fFor t L) w1 w2) rfl (fun w1 h1 => t_forgets h1.1 (by omega) (by omega) (fun q hq => by have := hL q hq; omega)) m_obj rfl k_684 k_6 k_681 k_683 s_28 hd_X3_forgets ⟨Nat.le_of_ble_eq_true rfl, Nat.le_of_ble_eq_true rfl⟩ ⟨Nat.le_of_ble_eq_true rfl, Nat.le_of_ble_eq_true rfl⟩ (Nat.le_of_ble_eq_true rfl) dX3_fetch_68 (fun _ => ?_)
        refine m_then0 (A' := bFetch (mU A 19 0 0) t) (L' := fFor t L) ?_
        refine x_aload_n Γ dX3_fetch_71 rfl rfl ?_
        refine m_geta Γ 11 (by decide) (fun _ => rfl) k_589 rfl dX3_fetch_72 ?_
        refine x_iload_n Γ dX3_fetch_75 rfl rfl ?_
        refine m_ald Γ rfl rfl (by decide) (by show _ < 24; omega) dX3_fetch_76 ?_
        refine x_iret Γ rfl rfl (fun w2 e2 => ?_) ⟨Nat.le_of_ble_eq_true rfl, Nat.le_of_ble_eq_true rfl⟩ dX3_fetch_77
        unfold gFetch
        rw [fin_ok hk, ixn ht]
        exact ⟨rfl, e2⟩
      · have hk : kFetch A (nI t) = 2 := by
          unfold kFetch
          rw [if_neg (not_not_intro hT), ixn ht, if_pos (by first | exact Or.inl (q15.eq c18) | exact Or.inr (Int32.not_le.mp c27))]
        refine x_iconst (v := 2) Γ dX3_fetch_30 (by decide) ?_
        refine x_goto (tgt := 35) Γ dX3_fetch_31 (by decide) ?_
        exact hE 2 (by decide) hk
  · have hT := q3.eq c6
    have hk : kFetch A x = 1 := if_pos (q3.eq c6)
    refine x_iconst (v := 1) Γ dX3_fetch_9 (by decide) ?_
    refine x_goto (tgt := 35) Γ dX3_fetch_10 (by decide) ?_
    exact hE 1 (by decide) hk
set_option maxRecDepth 100000 in
theorem tm_value {o : Nat} {ad : Nat → Nat} {A : xS} {L : List Nat} {w : xW} (h : MRep G w o ad A L) {n : Nat} {x v : Int32} (hI : aI A n)  : xMet l G yX3_value cX3_value 4 (some .int) ({ frames := 3, cells := 0, slots := 0, locals := 140 } : Room) [.ref o, .int x, .int v] w embI (fun r w' => r = (gValue A L x v).1 ∧ mP G o ad (gValue A L x v).2.1 (gValue A L x v).2.2 w w') := by
  refine xMet_of (by decide) (Nat.le_of_ble_eq_true rfl) ?_
  intro p e s m below meth c Γ hnm
  have hn := hI.1
  have hn2 := hI.2.1
  refine m_in h ?_
  have hE : ∀ k : Int32, ¬ k = 0 → kValue A x v = k → xJ p l e ({ frames := 3, cells := 0, slots := 0, locals := 140 } : Room) s m ([.ref o, .int x, .int v] : List Value).toArray below meth c G 4 (MQ below (xQ G embI (fun r w' => r = (gValue A L x v).1 ∧ mP G o ad (gValue A L x v).2.1 (gValue A L x v).2.2 w w')) ([.ref o, .int x, .int v] : List Value).toArray s ({ frames := 3, cells := 0, slots := 0, locals := 140 } : Room).cells ({ frames := 3, cells := 0, slots := 0, locals := 140 } : Room).slots (xA G)) (mP G o ad A L w) 0 0 41 [(0, .ref o), (1, .int x), (2, .int v)] [.int k, .ref o] := by
    intro k h0 hk
    refine x_invV (emb := embI) (ci := 4) (rm := ({ frames := 0, cells := 0, slots := 0, locals := 0 } : Room)) Γ [.int k] (fun w1 r w2 => bq (k = 0) r ∧ mP G o ad (mU (A) 19 0 k) (L) w1 w2) rfl (fun w1 h1 => t_isFine h1.1) m_obj rfl k_656 k_6 k_653 k_655 s_24 hd_X3_isFine ⟨Nat.le_of_ble_eq_true rfl, Nat.le_of_ble_eq_true rfl⟩ ⟨Nat.le_of_ble_eq_true rfl, Nat.le_of_ble_eq_true rfl⟩ (Nat.le_of_ble_eq_true rfl) dX3_value_41 (fun r => ?_)
    refine m_then (A' := mU (A) 19 0 k) (L' := L) (fun q => ?_)
    refine x_if_ne (tgt := 49) Γ dX3_value_44 (by decide) (fun c44 => absurd (q.zero h0) c44) (fun c44 => ?_)
    refine x_iconst (v := 0) Γ dX3_value_47 (by decide) ?_
    refine x_iret Γ rfl rfl (fun w2 e2 => ?_) ⟨Nat.le_of_ble_eq_true rfl, Nat.le_of_ble_eq_true rfl⟩ dX3_value_48
    unfold gValue
    rw [fin_no hk h0]
    exact ⟨rfl, e2⟩
  refine x_aload_n Γ dX3_value_0 rfl rfl ?_
  refine x_aload_n Γ dX3_value_1 rfl rfl ?_
  refine x_iload_n Γ dX3_value_2 rfl rfl ?_
  refine x_invV (emb := embI) (ci := 4) (rm := ({ frames := 1, cells := 0, slots := 0, locals := 40 } : Room)) Γ [.int x] (fun w1 r w2 => bq (kT (A) (x)) r ∧ mP G o ad (A) (L) w1 w2) rfl (fun w1 h1 => t_isThing h1.1) m_obj rfl k_676 k_6 k_673 k_675 s_26 hd_X3_isThing ⟨Nat.le_of_ble_eq_true rfl, Nat.le_of_ble_eq_true rfl⟩ ⟨Nat.le_of_ble_eq_true rfl, Nat.le_of_ble_eq_true rfl⟩ (Nat.le_of_ble_eq_true rfl) dX3_value_3 (fun r => ?_)
  refine m_then (A' := A) (L' := L) (fun q3 => ?_)
  refine x_if_ne (tgt := 13) Γ dX3_value_6 (by decide) (fun c6 => ?_) (fun c6 => ?_)
  · obtain ⟨t, htn, ht, rfl⟩ := aI_kT hI (q3.ne c6)
    have hT := aI_toT hI htn
    refine x_iload_n Γ dX3_value_13 rfl rfl ?_
    refine x_iconst (v := 0) Γ dX3_value_14 (by decide) ?_
    refine x_sipush (v := 10000) Γ dX3_value_15 (by decide) ?_
    refine x_invS (emb := embI) (rm := ({ frames := 0, cells := 0, slots := 0, locals := 0 } : Room)) Γ [.int (v), .int (0), .int (10000)] (fun w1 r w2 => bq (rIn (0) (10000) (v)) r ∧ w2 = w1) rfl (fun w1 h1 => t_in) k_652 k_6 k_650 k_651 hd_X3_in ⟨Nat.le_of_ble_eq_true rfl, Nat.le_of_ble_eq_true rfl⟩ ⟨Nat.le_of_ble_eq_true rfl, Nat.le_of_ble_eq_true rfl⟩ (Nat.le_of_ble_eq_true rfl) dX3_value_18 (fun r => ?_)
    refine m_same (fun q18 => ?_)
    refine x_if_ne (tgt := 28) Γ dX3_value_21 (by decide) (fun c21 => ?_) (fun c21 => ?_)
    · refine x_aload_n Γ dX3_value_28 rfl rfl ?_
      refine x_iload_n Γ dX3_value_29 rfl rfl ?_
      refine x_invV (emb := embI) (ci := 4) (rm := ({ frames := 0, cells := 0, slots := 0, locals := 0 } : Room)) Γ [.int (nI t)] (fun w1 r w2 => bq ((A) 9 t < 5) r ∧ mP G o ad (A) (L) w1 w2) rfl (fun w1 h1 => t_isAt h1.1 (by omega)) m_obj rfl k_680 k_6 k_677 k_679 s_27 hd_X3_isAt ⟨Nat.le_of_ble_eq_true rfl, Nat.le_of_ble_eq_true rfl⟩ ⟨Nat.le_of_ble_eq_true rfl, Nat.le_of_ble_eq_true rfl⟩ (Nat.le_of_ble_eq_true rfl) dX3_value_30 (fun r => ?_)
      refine m_then (A' := A) (L' := L) (fun q30 => ?_)
      refine x_if_ne (tgt := 40) Γ dX3_value_33 (by decide) (fun c33 => ?_) (fun c33 => ?_)
      · have hk : kValue A (nI t) v = 0 := by
          unfold kValue
          rw [if_neg (not_not_intro hT), if_neg (not_not_intro (q18.ne c21)), ixn ht, if_neg (not_not_intro (q30.ne c33))]
        refine x_iconst (v := 0) Γ dX3_value_40 (by decide) ?_
        refine x_invV (emb := embI) (ci := 4) (rm := ({ frames := 0, cells := 0, slots := 0, locals := 0 } : Room)) Γ [.int 0] (fun w1 r w2 => bq (0 = 0) r ∧ mP G o ad (mU (A) 19 0 0) (L) w1 w2) rfl (fun w1 h1 => t_isFine h1.1) m_obj rfl k_656 k_6 k_653 k_655 s_24 hd_X3_isFine ⟨Nat.le_of_ble_eq_true rfl, Nat.le_of_ble_eq_true rfl⟩ ⟨Nat.le_of_ble_eq_true rfl, Nat.le_of_ble_eq_true rfl⟩ (Nat.le_of_ble_eq_true rfl) dX3_value_41 (fun r => ?_)
        refine m_then (A' := mU (A) 19 0 0) (L' := L) (fun q => ?_)
        refine x_if_ne (tgt := 49) Γ dX3_value_44 (by decide) (fun c44 => ?_) (fun c44 => absurd c44 (q.one rfl))
        refine x_aload_n Γ dX3_value_49 rfl rfl ?_
        refine m_geta Γ 8 (by decide) (fun _ => rfl) k_586 rfl dX3_value_50 ?_
        refine x_iload_n Γ dX3_value_53 rfl rfl ?_
        refine m_ald Γ rfl rfl (by decide) (by show _ < 24; omega) dX3_value_54 ?_
        refine x_istore_n Γ dX3_value_55 rfl rfl (by decide) ?_
        refine x_aload_n Γ dX3_value_56 rfl rfl ?_
        refine m_geta Γ 8 (by decide) (fun _ => rfl) k_586 rfl dX3_value_57 ?_
        refine x_iload_n Γ dX3_value_60 rfl rfl ?_
        refine x_iload_n Γ dX3_value_61 rfl rfl ?_
        refine m_ast Γ rfl rfl (by decide) (by show _ < 24; omega) dX3_value_62 ?_
        refine x_iload_n Γ dX3_value_63 rfl rfl ?_
        refine x_iret Γ rfl rfl (fun w2 e2 => ?_) ⟨Nat.le_of_ble_eq_true rfl, Nat.le_of_ble_eq_true rfl⟩ dX3_value_64
        unfold gValue
        rw [fin_ok hk, ixn ht]
        exact ⟨rfl, e2⟩
      · have hk : kValue A (nI t) v = 3 := by
          unfold kValue
          rw [if_neg (not_not_intro hT), if_neg (not_not_intro (q18.ne c21)), ixn ht, if_pos (q30.eq c33)]
        refine x_iconst (v := 3) Γ dX3_value_36 (by decide) ?_
        refine x_goto (tgt := 41) Γ dX3_value_37 (by decide) ?_
        exact hE 3 (by decide) hk
    · have hk : kValue A (nI t) v = 2 := by
        unfold kValue
        rw [if_neg (not_not_intro hT), if_pos (q18.eq c21)]
      refine x_iconst (v := 2) Γ dX3_value_24 (by decide) ?_
      refine x_goto (tgt := 41) Γ dX3_value_25 (by decide) ?_
      exact hE 2 (by decide) hk
  · have hT := q3.eq c6
    have hk : kValue A x v = 1 := by
      unfold kValue
      exact if_pos (q3.eq c6)
    refine x_iconst (v := 1) Γ dX3_value_9 (by decide) ?_
    refine x_goto (tgt := 41) Γ dX3_value_10 (by decide) ?_
    exact hE 1 (by decide) hk
set_option maxRecDepth 100000 in
theorem tm_lend {o : Nat} {ad : Nat → Nat} {A : xS} {L : List Nat} {w : xW} (h : MRep G w o ad A L) {n : Nat} {x lr z : Int32} (hI : aI A n)  : xMet l G yX3_lend cX3_lend 5 none ({ frames := 3, cells := 0, slots := 0, locals := 140 } : Room) [.ref o, .int x, .int lr, .int z] w embV (fun _ w' => mP G o ad (gLend A L x lr z).2.1 (gLend A L x lr z).2.2 w w') := by
  refine xMet_of (by decide) (Nat.le_of_ble_eq_true rfl) ?_
  intro p e s m below meth c Γ hnm
  have hn := hI.1
  have hn2 := hI.2.1
  refine m_in h ?_
  have hE : ∀ k : Int32, ¬ k = 0 → kLend A x lr z = k → xJ p l e ({ frames := 3, cells := 0, slots := 0, locals := 140 } : Room) s m ([.ref o, .int x, .int lr, .int z] : List Value).toArray below meth c G 5 (MQ below (xQ G embV (fun _ w' => mP G o ad (gLend A L x lr z).2.1 (gLend A L x lr z).2.2 w w')) ([.ref o, .int x, .int lr, .int z] : List Value).toArray s ({ frames := 3, cells := 0, slots := 0, locals := 140 } : Room).cells ({ frames := 3, cells := 0, slots := 0, locals := 140 } : Room).slots (xA G)) (mP G o ad A L w) 0 0 90 [(0, .ref o), (1, .int x), (2, .int lr), (3, .int z)] [.int k, .ref o] := by
    intro k h0 hk
    refine x_invV (emb := embI) (ci := 4) (rm := ({ frames := 0, cells := 0, slots := 0, locals := 0 } : Room)) Γ [.int k] (fun w1 r w2 => bq (k = 0) r ∧ mP G o ad (mU (A) 19 0 k) (L) w1 w2) rfl (fun w1 h1 => t_isFine h1.1) m_obj rfl k_656 k_6 k_653 k_655 s_24 hd_X3_isFine ⟨Nat.le_of_ble_eq_true rfl, Nat.le_of_ble_eq_true rfl⟩ ⟨Nat.le_of_ble_eq_true rfl, Nat.le_of_ble_eq_true rfl⟩ (Nat.le_of_ble_eq_true rfl) dX3_lend_90 (fun r => ?_)
    refine m_then (A' := mU (A) 19 0 k) (L' := L) (fun q => ?_)
    refine x_if_eq (tgt := 132) Γ dX3_lend_93 (by decide) (fun c93 => ?_) (fun c93 => absurd (q.zero h0) c93)
    refine x_vret Γ rfl (fun w2 e2 => ?_) ⟨Nat.le_of_ble_eq_true rfl, Nat.le_of_ble_eq_true rfl⟩ dX3_lend_132
    unfold gLend
    rw [fin_no hk h0]
    exact e2
  refine x_aload_n Γ dX3_lend_0 rfl rfl ?_
  refine x_iload_n Γ dX3_lend_1 rfl rfl ?_
  refine x_invV (emb := embI) (ci := 4) (rm := ({ frames := 1, cells := 0, slots := 0, locals := 40 } : Room)) Γ [.int x] (fun w1 r w2 => bq (kT (A) (x)) r ∧ mP G o ad (A) (L) w1 w2) rfl (fun w1 h1 => t_isThing h1.1) m_obj rfl k_676 k_6 k_673 k_675 s_26 hd_X3_isThing ⟨Nat.le_of_ble_eq_true rfl, Nat.le_of_ble_eq_true rfl⟩ ⟨Nat.le_of_ble_eq_true rfl, Nat.le_of_ble_eq_true rfl⟩ (Nat.le_of_ble_eq_true rfl) dX3_lend_2 (fun r => ?_)
  refine m_then (A' := A) (L' := L) (fun q2 => ?_)
  refine x_if_ne (tgt := 12) Γ dX3_lend_5 (by decide) (fun c5 => ?_) (fun c5 => ?_)
  · obtain ⟨t, htn, ht, rfl⟩ := aI_kT hI (q2.ne c5)
    have hT := aI_toT hI htn
    refine x_iload_n Γ dX3_lend_12 rfl rfl ?_
    refine x_iconst (v := 0) Γ dX3_lend_13 (by decide) ?_
    refine x_bipush (v := 7) Γ dX3_lend_14 (by decide) ?_
    refine x_invS (emb := embI) (rm := ({ frames := 0, cells := 0, slots := 0, locals := 0 } : Room)) Γ [.int (lr), .int (0), .int (7)] (fun w1 r w2 => bq (rIn (0) (7) (lr)) r ∧ w2 = w1) rfl (fun w1 h1 => t_in) k_652 k_6 k_650 k_651 hd_X3_in ⟨Nat.le_of_ble_eq_true rfl, Nat.le_of_ble_eq_true rfl⟩ ⟨Nat.le_of_ble_eq_true rfl, Nat.le_of_ble_eq_true rfl⟩ (Nat.le_of_ble_eq_true rfl) dX3_lend_16 (fun r => ?_)
    refine m_same (fun q16 => ?_)
    refine x_if_eq (tgt := 33) Γ dX3_lend_19 (by decide) (fun c19 => ?_) (fun c19 => ?_)
    · have hk : kLend A (nI t) lr z = 2 := by
        unfold kLend
        rw [if_neg (not_not_intro hT), if_pos (fun z => by first | exact q16.eq c19 z.1 | exact q27.eq c30 z.2)]
      refine x_iconst (v := 2) Γ dX3_lend_33 (by decide) ?_
      refine x_goto (tgt := 38) Γ dX3_lend_34 (by decide) ?_
      refine x_istore Γ dX3_lend_38 rfl (by decide) ?_
      refine x_iload Γ dX3_lend_40 rfl ?_
      refine x_if_ne (tgt := 87) Γ dX3_lend_42 (by decide) (fun c42 => ?_) (fun c42 => absurd c42 (by decide))
      refine x_aload_n Γ dX3_lend_87 rfl rfl ?_
      refine x_iload Γ dX3_lend_88 rfl ?_
      refine x_lv [0, 1, 2, 3] rfl ?_
      exact hE 2 (by decide) hk
    · refine x_iload_n Γ dX3_lend_22 rfl rfl ?_
      refine x_iconst (v := 1) Γ dX3_lend_23 (by decide) ?_
      refine x_sipush (v := 5000) Γ dX3_lend_24 (by decide) ?_
      refine x_invS (emb := embI) (rm := ({ frames := 0, cells := 0, slots := 0, locals := 0 } : Room)) Γ [.int (z), .int (1), .int (5000)] (fun w1 r w2 => bq (rIn (1) (5000) (z)) r ∧ w2 = w1) rfl (fun w1 h1 => t_in) k_652 k_6 k_650 k_651 hd_X3_in ⟨Nat.le_of_ble_eq_true rfl, Nat.le_of_ble_eq_true rfl⟩ ⟨Nat.le_of_ble_eq_true rfl, Nat.le_of_ble_eq_true rfl⟩ (Nat.le_of_ble_eq_true rfl) dX3_lend_27 (fun r => ?_)
      refine m_same (fun q27 => ?_)
      refine x_if_ne (tgt := 37) Γ dX3_lend_30 (by decide) (fun c30 => ?_) (fun c30 => ?_)
      · have hR : rIn 0 7 lr ∧ rIn 1 5000 z := ⟨q16.ne c19, q27.ne c30⟩
        refine x_iconst (v := 0) Γ dX3_lend_37 (by decide) ?_
        refine x_istore Γ dX3_lend_38 rfl (by decide) ?_
        refine x_iload Γ dX3_lend_40 rfl ?_
        refine x_if_ne (tgt := 87) Γ dX3_lend_42 (by decide) (fun c42 => absurd (rfl) c42) (fun c42 => ?_)
        refine x_aload_n Γ dX3_lend_45 rfl rfl ?_
        refine x_iload_n Γ dX3_lend_46 rfl rfl ?_
        refine x_invV (emb := embI) (ci := 4) (rm := ({ frames := 0, cells := 0, slots := 0, locals := 0 } : Room)) Γ [.int (nI t)] (fun w1 r w2 => bq ((A) 9 t < 5) r ∧ mP G o ad (A) (L) w1 w2) rfl (fun w1 h1 => t_isAt h1.1 (by omega)) m_obj rfl k_680 k_6 k_677 k_679 s_27 hd_X3_isAt ⟨Nat.le_of_ble_eq_true rfl, Nat.le_of_ble_eq_true rfl⟩ ⟨Nat.le_of_ble_eq_true rfl, Nat.le_of_ble_eq_true rfl⟩ (Nat.le_of_ble_eq_true rfl) dX3_lend_47 (fun r => ?_)
        refine m_then (A' := A) (L' := L) (fun q47 => ?_)
        refine x_if_eq (tgt := 84) Γ dX3_lend_50 (by decide) (fun c50 => ?_) (fun c50 => ?_)
        · have hk : kLend A (nI t) lr z = 3 := by
            unfold kLend
            rw [if_neg (not_not_intro hT), if_neg (not_not_intro hR), ixn ht, if_pos (by first | exact Or.inl (q47.eq c50) | exact Or.inr (Or.inl c60) | exact Or.inr (Or.inr (Or.inl c69)) | exact Or.inr (Or.inr (Or.inr (Int32.not_le.mp c81))))]
          refine x_iconst (v := 3) Γ dX3_lend_84 (by decide) ?_
          refine x_istore Γ dX3_lend_85 rfl (by decide) ?_
          refine x_aload_n Γ dX3_lend_87 rfl rfl ?_
          refine x_iload Γ dX3_lend_88 rfl ?_
          refine x_lv [0, 1, 2, 3] rfl ?_
          exact hE 3 (by decide) hk
        · refine x_aload_n Γ dX3_lend_53 rfl rfl ?_
          refine m_geta Γ 6 (by decide) (fun _ => rfl) k_584 rfl dX3_lend_54 ?_
          refine x_iload_n Γ dX3_lend_57 rfl rfl ?_
          refine m_ald Γ rfl rfl (by decide) (by show _ < 24; omega) dX3_lend_58 ?_
          refine x_iload_n Γ dX3_lend_59 rfl rfl ?_
          refine x_icmp_eq (tgt := 84) Γ dX3_lend_60 (by decide) (fun c60 => ?_) (fun c60 => ?_)
          · have hk : kLend A (nI t) lr z = 3 := by
              unfold kLend
              rw [if_neg (not_not_intro hT), if_neg (not_not_intro hR), ixn ht, if_pos (by first | exact Or.inl (q47.eq c50) | exact Or.inr (Or.inl c60) | exact Or.inr (Or.inr (Or.inl c69)) | exact Or.inr (Or.inr (Or.inr (Int32.not_le.mp c81))))]
            refine x_iconst (v := 3) Γ dX3_lend_84 (by decide) ?_
            refine x_istore Γ dX3_lend_85 rfl (by decide) ?_
            refine x_aload_n Γ dX3_lend_87 rfl rfl ?_
            refine x_iload Γ dX3_lend_88 rfl ?_
            refine x_lv [0, 1, 2, 3] rfl ?_
            exact hE 3 (by decide) hk
          · refine x_aload_n Γ dX3_lend_63 rfl rfl ?_
            refine m_geta Γ 12 (by decide) (fun _ => rfl) k_590 rfl dX3_lend_64 ?_
            refine x_iload_n Γ dX3_lend_67 rfl rfl ?_
            refine m_ald Γ rfl rfl (by decide) (by show _ < 24; omega) dX3_lend_68 ?_
            refine x_if_gt (tgt := 84) Γ dX3_lend_69 (by decide) (fun c69 => ?_) (fun c69 => ?_)
            · have hk : kLend A (nI t) lr z = 3 := by
                unfold kLend
                rw [if_neg (not_not_intro hT), if_neg (not_not_intro hR), ixn ht, if_pos (by first | exact Or.inl (q47.eq c50) | exact Or.inr (Or.inl c60) | exact Or.inr (Or.inr (Or.inl c69)) | exact Or.inr (Or.inr (Or.inr (Int32.not_le.mp c81))))]
              refine x_iconst (v := 3) Γ dX3_lend_84 (by decide) ?_
              refine x_istore Γ dX3_lend_85 rfl (by decide) ?_
              refine x_aload_n Γ dX3_lend_87 rfl rfl ?_
              refine x_iload Γ dX3_lend_88 rfl ?_
              refine x_lv [0, 1, 2, 3] rfl ?_
              exact hE 3 (by decide) hk
            · refine x_iload_n Γ dX3_lend_72 rfl rfl ?_
              refine x_aload_n Γ dX3_lend_73 rfl rfl ?_
              refine m_geta Γ 8 (by decide) (fun _ => rfl) k_586 rfl dX3_lend_74 ?_
              refine x_iload_n Γ dX3_lend_77 rfl rfl ?_
              refine m_ald Γ rfl rfl (by decide) (by show _ < 24; omega) dX3_lend_78 ?_
              refine x_iconst (v := 2) Γ dX3_lend_79 (by decide) ?_
              refine x_idiv Γ dX3_lend_80 (by decide) ?_
              refine x_icmp_le (tgt := 87) Γ dX3_lend_81 (by decide) (fun c81 => ?_) (fun c81 => ?_)
              · have hk : kLend A (nI t) lr z = 0 := by
                  unfold kLend
                  rw [if_neg (not_not_intro hT), if_neg (not_not_intro hR), ixn ht, if_neg (fun z => z.elim (fun z => z (q47.ne c50)) (fun z => z.elim (fun z => c60 z) (fun z => z.elim (fun z => c69 z) (fun z => Int32.not_lt.mpr c81 z))))]
                refine x_aload_n Γ dX3_lend_87 rfl rfl ?_
                refine x_iload Γ dX3_lend_88 rfl ?_
                obtain ⟨ow, how8, how⟩ := hI.2.2.2.1 t ht
                have how2 : mU (mU (mU (mU A 19 0 0) 12 t z) 13 t lr) 14 t (-1) 6 t = nI ow := how
                refine x_invV (emb := embI) (ci := 4) (rm := ({ frames := 0, cells := 0, slots := 0, locals := 0 } : Room)) Γ [.int 0] (fun w1 r w2 => bq (0 = 0) r ∧ mP G o ad (mU (A) 19 0 0) (L) w1 w2) rfl (fun w1 h1 => t_isFine h1.1) m_obj rfl k_656 k_6 k_653 k_655 s_24 hd_X3_isFine ⟨Nat.le_of_ble_eq_true rfl, Nat.le_of_ble_eq_true rfl⟩ ⟨Nat.le_of_ble_eq_true rfl, Nat.le_of_ble_eq_true rfl⟩ (Nat.le_of_ble_eq_true rfl) dX3_lend_90 (fun r => ?_)
                refine m_then (A' := mU (A) 19 0 0) (L' := L) (fun q => ?_)
                refine x_if_eq (tgt := 132) Γ dX3_lend_93 (by decide) (fun c93 => absurd c93 (q.one rfl)) (fun c93 => ?_)
                refine x_aload_n Γ dX3_lend_96 rfl rfl ?_
                refine m_geta Γ 12 (by decide) (fun _ => rfl) k_590 rfl dX3_lend_97 ?_
                refine x_iload_n Γ dX3_lend_100 rfl rfl ?_
                refine x_iload_n Γ dX3_lend_101 rfl rfl ?_
                refine m_ast Γ rfl rfl (by decide) (by show _ < 24; omega) dX3_lend_102 ?_
                refine x_aload_n Γ dX3_lend_103 rfl rfl ?_
                refine m_geta Γ 13 (by decide) (fun _ => rfl) k_591 rfl dX3_lend_104 ?_
                refine x_iload_n Γ dX3_lend_107 rfl rfl ?_
                refine x_iload_n Γ dX3_lend_108 rfl rfl ?_
                refine m_ast Γ rfl rfl (by decide) (by show _ < 24; omega) dX3_lend_109 ?_
                refine x_aload_n Γ dX3_lend_110 rfl rfl ?_
                refine m_geta Γ 14 (by decide) (fun _ => rfl) k_592 rfl dX3_lend_111 ?_
                refine x_iload_n Γ dX3_lend_114 rfl rfl ?_
                refine x_iconst (v := (-1)) Γ dX3_lend_115 (by decide) ?_
                refine m_ast Γ rfl rfl (by decide) (by show _ < 24; omega) dX3_lend_116 ?_
                refine x_aload_n Γ dX3_lend_117 rfl rfl ?_
                refine m_geta Γ 2 (by decide) (fun _ => rfl) k_580 rfl dX3_lend_118 ?_
                refine x_aload_n Γ dX3_lend_121 rfl rfl ?_
                refine m_geta Γ 6 (by decide) (fun _ => rfl) k_584 rfl dX3_lend_122 ?_
                refine x_iload_n Γ dX3_lend_125 rfl rfl ?_
                refine m_ald Γ rfl rfl (by decide) (by show _ < 24; omega) dX3_lend_126 ?_
                rw [how2]
                refine x_dup2 Γ dX3_lend_127 rfl rfl ?_
                refine m_ald Γ rfl rfl (by decide) (by show ow < 8; omega) dX3_lend_128 ?_
                refine x_iload_n Γ dX3_lend_129 rfl rfl ?_
                refine x_iadd Γ dX3_lend_130 ?_
                refine m_ast Γ rfl rfl (by decide) (by show ow < 8; omega) dX3_lend_131 ?_
                refine x_vret Γ rfl (fun w2 e2 => ?_) ⟨Nat.le_of_ble_eq_true rfl, Nat.le_of_ble_eq_true rfl⟩ dX3_lend_132
                unfold gLend
                rw [fin_ok hk, ixn ht]
                unfold bLend
                rw [show mU A 19 0 0 6 t = nI ow from how, ixn (by omega)]
                exact e2
              · have hk : kLend A (nI t) lr z = 3 := by
                  unfold kLend
                  rw [if_neg (not_not_intro hT), if_neg (not_not_intro hR), ixn ht, if_pos (by first | exact Or.inl (q47.eq c50) | exact Or.inr (Or.inl c60) | exact Or.inr (Or.inr (Or.inl c69)) | exact Or.inr (Or.inr (Or.inr (Int32.not_le.mp c81))))]
                refine x_iconst (v := 3) Γ dX3_lend_84 (by decide) ?_
                refine x_istore Γ dX3_lend_85 rfl (by decide) ?_
                refine x_aload_n Γ dX3_lend_87 rfl rfl ?_
                refine x_iload Γ dX3_lend_88 rfl ?_
                refine x_lv [0, 1, 2, 3] rfl ?_
                exact hE 3 (by decide) hk
      · have hk : kLend A (nI t) lr z = 2 := by
          unfold kLend
          rw [if_neg (not_not_intro hT), if_pos (fun z => by first | exact q16.eq c19 z.1 | exact q27.eq c30 z.2)]
        refine x_iconst (v := 2) Γ dX3_lend_33 (by decide) ?_
        refine x_goto (tgt := 38) Γ dX3_lend_34 (by decide) ?_
        refine x_istore Γ dX3_lend_38 rfl (by decide) ?_
        refine x_iload Γ dX3_lend_40 rfl ?_
        refine x_if_ne (tgt := 87) Γ dX3_lend_42 (by decide) (fun c42 => ?_) (fun c42 => absurd c42 (by decide))
        refine x_aload_n Γ dX3_lend_87 rfl rfl ?_
        refine x_iload Γ dX3_lend_88 rfl ?_
        refine x_lv [0, 1, 2, 3] rfl ?_
        exact hE 2 (by decide) hk
  · have hT := q2.eq c5
    have hk : kLend A x lr z = 1 := by
      unfold kLend
      exact if_pos (q2.eq c5)
    refine x_iconst (v := 1) Γ dX3_lend_8 (by decide) ?_
    refine x_goto (tgt := 38) Γ dX3_lend_9 (by decide) ?_
    refine x_istore Γ dX3_lend_38 rfl (by decide) ?_
    refine x_iload Γ dX3_lend_40 rfl ?_
    refine x_if_ne (tgt := 87) Γ dX3_lend_42 (by decide) (fun c42 => ?_) (fun c42 => absurd c42 (by decide))
    refine x_aload_n Γ dX3_lend_87 rfl rfl ?_
    refine x_iload Γ dX3_lend_88 rfl ?_
    refine x_lv [0, 1, 2, 3] rfl ?_
    exact hE 1 (by decide) hk
set_option maxRecDepth 100000 in
theorem tm_repay {o : Nat} {ad : Nat → Nat} {A : xS} {L : List Nat} {w : xW} (h : MRep G w o ad A L) {n : Nat} {x : Int32} (hI : aI A n)  : xMet l G yX3_repay cX3_repay 3 (some .int) ({ frames := 3, cells := 0, slots := 0, locals := 140 } : Room) [.ref o, .int x] w embI (fun r w' => r = (gRepay A L x).1 ∧ mP G o ad (gRepay A L x).2.1 (gRepay A L x).2.2 w w') := by
  refine xMet_of (by decide) (Nat.le_of_ble_eq_true rfl) ?_
  intro p e s m below meth c Γ hnm
  have hn := hI.1
  have hn2 := hI.2.1
  refine m_in h ?_
  have hE : ∀ k : Int32, ¬ k = 0 → kRepay A x = k → xJ p l e ({ frames := 3, cells := 0, slots := 0, locals := 140 } : Room) s m ([.ref o, .int x] : List Value).toArray below meth c G 3 (MQ below (xQ G embI (fun r w' => r = (gRepay A L x).1 ∧ mP G o ad (gRepay A L x).2.1 (gRepay A L x).2.2 w w')) ([.ref o, .int x] : List Value).toArray s ({ frames := 3, cells := 0, slots := 0, locals := 140 } : Room).cells ({ frames := 3, cells := 0, slots := 0, locals := 140 } : Room).slots (xA G)) (mP G o ad A L w) 0 0 27 [(0, .ref o), (1, .int x)] [.int k, .ref o] := by
    intro k h0 hk
    refine x_invV (emb := embI) (ci := 4) (rm := ({ frames := 0, cells := 0, slots := 0, locals := 0 } : Room)) Γ [.int k] (fun w1 r w2 => bq (k = 0) r ∧ mP G o ad (mU (A) 19 0 k) (L) w1 w2) rfl (fun w1 h1 => t_isFine h1.1) m_obj rfl k_656 k_6 k_653 k_655 s_24 hd_X3_isFine ⟨Nat.le_of_ble_eq_true rfl, Nat.le_of_ble_eq_true rfl⟩ ⟨Nat.le_of_ble_eq_true rfl, Nat.le_of_ble_eq_true rfl⟩ (Nat.le_of_ble_eq_true rfl) dX3_repay_27 (fun r => ?_)
    refine m_then (A' := mU (A) 19 0 k) (L' := L) (fun q => ?_)
    refine x_if_ne (tgt := 35) Γ dX3_repay_30 (by decide) (fun c30 => absurd (q.zero h0) c30) (fun c30 => ?_)
    refine x_iconst (v := 0) Γ dX3_repay_33 (by decide) ?_
    refine x_iret Γ rfl rfl (fun w2 e2 => ?_) ⟨Nat.le_of_ble_eq_true rfl, Nat.le_of_ble_eq_true rfl⟩ dX3_repay_34
    unfold gRepay
    rw [fin_no hk h0]
    exact ⟨rfl, e2⟩
  refine x_aload_n Γ dX3_repay_0 rfl rfl ?_
  refine x_aload_n Γ dX3_repay_1 rfl rfl ?_
  refine x_iload_n Γ dX3_repay_2 rfl rfl ?_
  refine x_invV (emb := embI) (ci := 4) (rm := ({ frames := 1, cells := 0, slots := 0, locals := 40 } : Room)) Γ [.int x] (fun w1 r w2 => bq (kT (A) (x)) r ∧ mP G o ad (A) (L) w1 w2) rfl (fun w1 h1 => t_isThing h1.1) m_obj rfl k_676 k_6 k_673 k_675 s_26 hd_X3_isThing ⟨Nat.le_of_ble_eq_true rfl, Nat.le_of_ble_eq_true rfl⟩ ⟨Nat.le_of_ble_eq_true rfl, Nat.le_of_ble_eq_true rfl⟩ (Nat.le_of_ble_eq_true rfl) dX3_repay_3 (fun r => ?_)
  refine m_then (A' := A) (L' := L) (fun q3 => ?_)
  refine x_if_ne (tgt := 13) Γ dX3_repay_6 (by decide) (fun c6 => ?_) (fun c6 => ?_)
  · obtain ⟨t, htn, ht, rfl⟩ := aI_kT hI (q3.ne c6)
    have hT := aI_toT hI htn
    refine x_aload_n Γ dX3_repay_13 rfl rfl ?_
    refine m_geta Γ 12 (by decide) (fun _ => rfl) k_590 rfl dX3_repay_14 ?_
    refine x_iload_n Γ dX3_repay_17 rfl rfl ?_
    refine m_ald Γ rfl rfl (by decide) (by show _ < 24; omega) dX3_repay_18 ?_
    refine x_if_ne (tgt := 26) Γ dX3_repay_19 (by decide) (fun c19 => ?_) (fun c19 => ?_)
    · have hk : kRepay A (nI t) = 0 := by
        unfold kRepay
        rw [if_neg (not_not_intro hT), ixn ht, if_neg c19]
      refine x_iconst (v := 0) Γ dX3_repay_26 (by decide) ?_
      obtain ⟨ow, how8, how⟩ := hI.2.2.2.2 t ht
      have how2 : mU A 19 0 0 13 t = nI ow := how
      refine x_invV (emb := embI) (ci := 4) (rm := ({ frames := 0, cells := 0, slots := 0, locals := 0 } : Room)) Γ [.int 0] (fun w1 r w2 => bq (0 = 0) r ∧ mP G o ad (mU (A) 19 0 0) (L) w1 w2) rfl (fun w1 h1 => t_isFine h1.1) m_obj rfl k_656 k_6 k_653 k_655 s_24 hd_X3_isFine ⟨Nat.le_of_ble_eq_true rfl, Nat.le_of_ble_eq_true rfl⟩ ⟨Nat.le_of_ble_eq_true rfl, Nat.le_of_ble_eq_true rfl⟩ (Nat.le_of_ble_eq_true rfl) dX3_repay_27 (fun r => ?_)
      refine m_then (A' := mU (A) 19 0 0) (L' := L) (fun q => ?_)
      refine x_if_ne (tgt := 35) Γ dX3_repay_30 (by decide) (fun c30 => ?_) (fun c30 => absurd c30 (q.one rfl))
      refine x_aload_n Γ dX3_repay_35 rfl rfl ?_
      refine m_geta Γ 12 (by decide) (fun _ => rfl) k_590 rfl dX3_repay_36 ?_
      refine x_iload_n Γ dX3_repay_39 rfl rfl ?_
      refine m_ald Γ rfl rfl (by decide) (by show _ < 24; omega) dX3_repay_40 ?_
      refine x_istore_n Γ dX3_repay_41 rfl rfl (by decide) ?_
      refine x_aload_n Γ dX3_repay_42 rfl rfl ?_
      refine m_geta Γ 2 (by decide) (fun _ => rfl) k_580 rfl dX3_repay_43 ?_
      refine x_aload_n Γ dX3_repay_46 rfl rfl ?_
      refine m_geta Γ 13 (by decide) (fun _ => rfl) k_591 rfl dX3_repay_47 ?_
      refine x_iload_n Γ dX3_repay_50 rfl rfl ?_
      refine m_ald Γ rfl rfl (by decide) (by show _ < 24; omega) dX3_repay_51 ?_
      rw [how2]
      refine x_dup2 Γ dX3_repay_52 rfl rfl ?_
      refine m_ald Γ rfl rfl (by decide) (by show ow < 8; omega) dX3_repay_53 ?_
      refine x_iload_n Γ dX3_repay_54 rfl rfl ?_
      refine x_iadd Γ dX3_repay_55 ?_
      refine m_ast Γ rfl rfl (by decide) (by show ow < 8; omega) dX3_repay_56 ?_
      refine x_aload_n Γ dX3_repay_57 rfl rfl ?_
      refine m_geta Γ 12 (by decide) (fun _ => rfl) k_590 rfl dX3_repay_58 ?_
      refine x_iload_n Γ dX3_repay_61 rfl rfl ?_
      refine x_iconst (v := 0) Γ dX3_repay_62 (by decide) ?_
      refine m_ast Γ rfl rfl (by decide) (by show _ < 24; omega) dX3_repay_63 ?_
      refine x_aload_n Γ dX3_repay_64 rfl rfl ?_
      refine m_geta Γ 14 (by decide) (fun _ => rfl) k_592 rfl dX3_repay_65 ?_
      refine x_iload_n Γ dX3_repay_68 rfl rfl ?_
      refine x_iconst (v := (-1)) Γ dX3_repay_69 (by decide) ?_
      refine m_ast Γ rfl rfl (by decide) (by show _ < 24; omega) dX3_repay_70 ?_
      refine x_iload_n Γ dX3_repay_71 rfl rfl ?_
      refine x_iret Γ rfl rfl (fun w2 e2 => ?_) ⟨Nat.le_of_ble_eq_true rfl, Nat.le_of_ble_eq_true rfl⟩ dX3_repay_72
      unfold gRepay
      rw [fin_ok hk, ixn ht]
      unfold bRepay
      rw [show mU A 19 0 0 13 t = nI ow from how, ixn (by omega)]
      exact ⟨rfl, e2⟩
    · have hk : kRepay A (nI t) = 2 := by
        unfold kRepay
        rw [if_neg (not_not_intro hT), ixn ht, if_pos c19]
      refine x_iconst (v := 2) Γ dX3_repay_22 (by decide) ?_
      refine x_goto (tgt := 27) Γ dX3_repay_23 (by decide) ?_
      exact hE 2 (by decide) hk
  · have hT := q3.eq c6
    have hk : kRepay A x = 1 := by
      unfold kRepay
      exact if_pos (q3.eq c6)
    refine x_iconst (v := 1) Γ dX3_repay_9 (by decide) ?_
    refine x_goto (tgt := 27) Γ dX3_repay_10 (by decide) ?_
    exact hE 1 (by decide) hk
set_option maxRecDepth 100000 in
theorem tm_doubt {o : Nat} {ad : Nat → Nat} {A : xS} {L : List Nat} {w : xW} (h : MRep G w o ad A L) {n : Nat} {x : Int32} (hI : aI A n)  : xMet l G yX3_doubt cX3_doubt 2 (some .int) ({ frames := 3, cells := 0, slots := 0, locals := 140 } : Room) [.ref o, .int x] w embI (fun r w' => r = (gDoubt A L x).1 ∧ mP G o ad (gDoubt A L x).2.1 (gDoubt A L x).2.2 w w') := by
  refine xMet_of (by decide) (Nat.le_of_ble_eq_true rfl) ?_
  intro p e s m below meth c Γ hnm
  have hn := hI.1
  have hn2 := hI.2.1
  refine m_in h ?_
  have hE : ∀ k : Int32, ¬ k = 0 → kDoubt A x = k → xJ p l e ({ frames := 3, cells := 0, slots := 0, locals := 140 } : Room) s m ([.ref o, .int x] : List Value).toArray below meth c G 2 (MQ below (xQ G embI (fun r w' => r = (gDoubt A L x).1 ∧ mP G o ad (gDoubt A L x).2.1 (gDoubt A L x).2.2 w w')) ([.ref o, .int x] : List Value).toArray s ({ frames := 3, cells := 0, slots := 0, locals := 140 } : Room).cells ({ frames := 3, cells := 0, slots := 0, locals := 140 } : Room).slots (xA G)) (mP G o ad A L w) 0 0 37 [(0, .ref o), (1, .int x)] [.int k, .ref o] := by
    intro k h0 hk
    refine x_invV (emb := embI) (ci := 4) (rm := ({ frames := 0, cells := 0, slots := 0, locals := 0 } : Room)) Γ [.int k] (fun w1 r w2 => bq (k = 0) r ∧ mP G o ad (mU (A) 19 0 k) (L) w1 w2) rfl (fun w1 h1 => t_isFine h1.1) m_obj rfl k_656 k_6 k_653 k_655 s_24 hd_X3_isFine ⟨Nat.le_of_ble_eq_true rfl, Nat.le_of_ble_eq_true rfl⟩ ⟨Nat.le_of_ble_eq_true rfl, Nat.le_of_ble_eq_true rfl⟩ (Nat.le_of_ble_eq_true rfl) dX3_doubt_37 (fun r => ?_)
    refine m_then (A' := mU (A) 19 0 k) (L' := L) (fun q => ?_)
    refine x_if_ne (tgt := 45) Γ dX3_doubt_40 (by decide) (fun c40 => absurd (q.zero h0) c40) (fun c40 => ?_)
    refine x_iconst (v := 0) Γ dX3_doubt_43 (by decide) ?_
    refine x_iret Γ rfl rfl (fun w2 e2 => ?_) ⟨Nat.le_of_ble_eq_true rfl, Nat.le_of_ble_eq_true rfl⟩ dX3_doubt_44
    unfold gDoubt
    rw [fin_no hk h0]
    exact ⟨rfl, e2⟩
  refine x_aload_n Γ dX3_doubt_0 rfl rfl ?_
  refine x_aload_n Γ dX3_doubt_1 rfl rfl ?_
  refine x_iload_n Γ dX3_doubt_2 rfl rfl ?_
  refine x_invV (emb := embI) (ci := 4) (rm := ({ frames := 1, cells := 0, slots := 0, locals := 40 } : Room)) Γ [.int x] (fun w1 r w2 => bq (kT (A) (x)) r ∧ mP G o ad (A) (L) w1 w2) rfl (fun w1 h1 => t_isThing h1.1) m_obj rfl k_676 k_6 k_673 k_675 s_26 hd_X3_isThing ⟨Nat.le_of_ble_eq_true rfl, Nat.le_of_ble_eq_true rfl⟩ ⟨Nat.le_of_ble_eq_true rfl, Nat.le_of_ble_eq_true rfl⟩ (Nat.le_of_ble_eq_true rfl) dX3_doubt_3 (fun r => ?_)
  refine m_then (A' := A) (L' := L) (fun q3 => ?_)
  refine x_if_ne (tgt := 13) Γ dX3_doubt_6 (by decide) (fun c6 => ?_) (fun c6 => ?_)
  · obtain ⟨t, htn, ht, rfl⟩ := aI_kT hI (q3.ne c6)
    have hT := aI_toT hI htn
    refine x_aload_n Γ dX3_doubt_13 rfl rfl ?_
    refine m_geta Γ 12 (by decide) (fun _ => rfl) k_590 rfl dX3_doubt_14 ?_
    refine x_iload_n Γ dX3_doubt_17 rfl rfl ?_
    refine m_ald Γ rfl rfl (by decide) (by show _ < 24; omega) dX3_doubt_18 ?_
    refine x_if_eq (tgt := 32) Γ dX3_doubt_19 (by decide) (fun c19 => ?_) (fun c19 => ?_)
    · have hk : kDoubt A (nI t) = 2 := by
        unfold kDoubt
        rw [if_neg (not_not_intro hT), ixn ht, if_pos (by first | exact Or.inl c19 | exact Or.inr c29)]
      refine x_iconst (v := 2) Γ dX3_doubt_32 (by decide) ?_
      refine x_goto (tgt := 37) Γ dX3_doubt_33 (by decide) ?_
      exact hE 2 (by decide) hk
    · refine x_aload_n Γ dX3_doubt_22 rfl rfl ?_
      refine m_geta Γ 14 (by decide) (fun _ => rfl) k_592 rfl dX3_doubt_23 ?_
      refine x_iload_n Γ dX3_doubt_26 rfl rfl ?_
      refine m_ald Γ rfl rfl (by decide) (by show _ < 24; omega) dX3_doubt_27 ?_
      refine x_iconst (v := (-1)) Γ dX3_doubt_28 (by decide) ?_
      refine x_icmp_eq (tgt := 36) Γ dX3_doubt_29 (by decide) (fun c29 => ?_) (fun c29 => ?_)
      · have hk : kDoubt A (nI t) = 0 := by
          unfold kDoubt
          rw [if_neg (not_not_intro hT), ixn ht, if_neg (fun z => z.elim (fun z => c19 z) (fun z => z c29))]
        refine x_iconst (v := 0) Γ dX3_doubt_36 (by decide) ?_
        refine x_invV (emb := embI) (ci := 4) (rm := ({ frames := 0, cells := 0, slots := 0, locals := 0 } : Room)) Γ [.int 0] (fun w1 r w2 => bq (0 = 0) r ∧ mP G o ad (mU (A) 19 0 0) (L) w1 w2) rfl (fun w1 h1 => t_isFine h1.1) m_obj rfl k_656 k_6 k_653 k_655 s_24 hd_X3_isFine ⟨Nat.le_of_ble_eq_true rfl, Nat.le_of_ble_eq_true rfl⟩ ⟨Nat.le_of_ble_eq_true rfl, Nat.le_of_ble_eq_true rfl⟩ (Nat.le_of_ble_eq_true rfl) dX3_doubt_37 (fun r => ?_)
        refine m_then (A' := mU (A) 19 0 0) (L' := L) (fun q => ?_)
        refine x_if_ne (tgt := 45) Γ dX3_doubt_40 (by decide) (fun c40 => ?_) (fun c40 => absurd c40 (q.one rfl))
        refine x_aload_n Γ dX3_doubt_45 rfl rfl ?_
        refine m_geta Γ 14 (by decide) (fun _ => rfl) k_592 rfl dX3_doubt_46 ?_
        refine x_iload_n Γ dX3_doubt_49 rfl rfl ?_
        refine x_aload_n Γ dX3_doubt_50 rfl rfl ?_
        refine m_geti Γ 4 (by decide) (by decide) (fun _ => rfl) k_582 rfl dX3_doubt_51 ?_
        refine x_iconst (v := 3) Γ dX3_doubt_54 (by decide) ?_
        refine x_iadd Γ dX3_doubt_55 ?_
        refine m_ast Γ rfl rfl (by decide) (by show _ < 24; omega) dX3_doubt_56 ?_
        refine x_aload_n Γ dX3_doubt_57 rfl rfl ?_
        refine m_geta Γ 14 (by decide) (fun _ => rfl) k_592 rfl dX3_doubt_58 ?_
        refine x_iload_n Γ dX3_doubt_61 rfl rfl ?_
        refine m_ald Γ rfl rfl (by decide) (by show _ < 24; omega) dX3_doubt_62 ?_
        rw [mU_eq]
        refine x_iret Γ rfl rfl (fun w2 e2 => ?_) ⟨Nat.le_of_ble_eq_true rfl, Nat.le_of_ble_eq_true rfl⟩ dX3_doubt_63
        unfold gDoubt
        rw [fin_ok hk, ixn ht]
        exact ⟨rfl, e2⟩
      · have hk : kDoubt A (nI t) = 2 := by
          unfold kDoubt
          rw [if_neg (not_not_intro hT), ixn ht, if_pos (by first | exact Or.inl c19 | exact Or.inr c29)]
        refine x_iconst (v := 2) Γ dX3_doubt_32 (by decide) ?_
        refine x_goto (tgt := 37) Γ dX3_doubt_33 (by decide) ?_
        exact hE 2 (by decide) hk
  · have hT := q3.eq c6
    have hk : kDoubt A x = 1 := by
      unfold kDoubt
      exact if_pos (q3.eq c6)
    refine x_iconst (v := 1) Γ dX3_doubt_9 (by decide) ?_
    refine x_goto (tgt := 37) Γ dX3_doubt_10 (by decide) ?_
    exact hE 1 (by decide) hk
set_option maxRecDepth 100000 in
theorem tm_where {o : Nat} {ad : Nat → Nat} {A : xS} {L : List Nat} {w : xW} (h : MRep G w o ad A L) {n : Nat} {x : Int32} (hI : aI A n)  : xMet l G yX3_where cX3_where 2 (some .int) ({ frames := 3, cells := 0, slots := 0, locals := 140 } : Room) [.ref o, .int x] w embI (fun r w' => r = (gT1 9 A L x).1 ∧ mP G o ad (gT1 9 A L x).2.1 (gT1 9 A L x).2.2 w w') := by
  refine xMet_of (by decide) (Nat.le_of_ble_eq_true rfl) ?_
  intro p e s m below meth c Γ hnm
  have hn := hI.1
  have hn2 := hI.2.1
  refine m_in h ?_
  have hE : ∀ k : Int32, ¬ k = 0 → kT1 A x = k → xJ p l e ({ frames := 3, cells := 0, slots := 0, locals := 140 } : Room) s m ([.ref o, .int x] : List Value).toArray below meth c G 2 (MQ below (xQ G embI (fun r w' => r = (gT1 9 A L x).1 ∧ mP G o ad (gT1 9 A L x).2.1 (gT1 9 A L x).2.2 w w')) ([.ref o, .int x] : List Value).toArray s ({ frames := 3, cells := 0, slots := 0, locals := 140 } : Room).cells ({ frames := 3, cells := 0, slots := 0, locals := 140 } : Room).slots (xA G)) (mP G o ad A L w) 0 0 14 [(0, .ref o), (1, .int x)] [.int k, .ref o] := by
    intro k h0 hk
    refine x_invV (emb := embI) (ci := 4) (rm := ({ frames := 0, cells := 0, slots := 0, locals := 0 } : Room)) Γ [.int k] (fun w1 r w2 => bq (k = 0) r ∧ mP G o ad (mU (A) 19 0 k) (L) w1 w2) rfl (fun w1 h1 => t_isFine h1.1) m_obj rfl k_656 k_6 k_653 k_655 s_24 hd_X3_isFine ⟨Nat.le_of_ble_eq_true rfl, Nat.le_of_ble_eq_true rfl⟩ ⟨Nat.le_of_ble_eq_true rfl, Nat.le_of_ble_eq_true rfl⟩ (Nat.le_of_ble_eq_true rfl) dX3_where_14 (fun r => ?_)
    refine m_then (A' := mU (A) 19 0 k) (L' := L) (fun q => ?_)
    refine x_if_eq (tgt := 29) Γ dX3_where_17 (by decide) (fun c17 => ?_) (fun c17 => absurd (q.zero h0) c17)
    refine x_iconst (v := 0) Γ dX3_where_29 (by decide) ?_
    refine x_iret Γ rfl rfl (fun w2 e2 => ?_) ⟨Nat.le_of_ble_eq_true rfl, Nat.le_of_ble_eq_true rfl⟩ dX3_where_30
    unfold gT1
    rw [fin_no hk h0]
    exact ⟨rfl, e2⟩
  refine x_aload_n Γ dX3_where_0 rfl rfl ?_
  refine x_aload_n Γ dX3_where_1 rfl rfl ?_
  refine x_iload_n Γ dX3_where_2 rfl rfl ?_
  refine x_invV (emb := embI) (ci := 4) (rm := ({ frames := 1, cells := 0, slots := 0, locals := 40 } : Room)) Γ [.int x] (fun w1 r w2 => bq (kT (A) (x)) r ∧ mP G o ad (A) (L) w1 w2) rfl (fun w1 h1 => t_isThing h1.1) m_obj rfl k_676 k_6 k_673 k_675 s_26 hd_X3_isThing ⟨Nat.le_of_ble_eq_true rfl, Nat.le_of_ble_eq_true rfl⟩ ⟨Nat.le_of_ble_eq_true rfl, Nat.le_of_ble_eq_true rfl⟩ (Nat.le_of_ble_eq_true rfl) dX3_where_3 (fun r => ?_)
  refine m_then (A' := A) (L' := L) (fun q3 => ?_)
  refine x_if_eq (tgt := 13) Γ dX3_where_6 (by decide) (fun c6 => ?_) (fun c6 => ?_)
  · have hT := q3.eq c6
    have hk : kT1 A x = 1 := by
      unfold kT1
      exact if_neg (q3.eq c6)
    refine x_iconst (v := 1) Γ dX3_where_13 (by decide) ?_
    exact hE 1 (by decide) hk
  · obtain ⟨t, htn, ht, rfl⟩ := aI_kT hI (q3.ne c6)
    have hT := aI_toT hI htn
    have hk : kT1 A (nI t) = 0 := by
      unfold kT1
      exact if_pos hT
    refine x_iconst (v := 0) Γ dX3_where_9 (by decide) ?_
    refine x_goto (tgt := 14) Γ dX3_where_10 (by decide) ?_
    refine x_invV (emb := embI) (ci := 4) (rm := ({ frames := 0, cells := 0, slots := 0, locals := 0 } : Room)) Γ [.int 0] (fun w1 r w2 => bq (0 = 0) r ∧ mP G o ad (mU (A) 19 0 0) (L) w1 w2) rfl (fun w1 h1 => t_isFine h1.1) m_obj rfl k_656 k_6 k_653 k_655 s_24 hd_X3_isFine ⟨Nat.le_of_ble_eq_true rfl, Nat.le_of_ble_eq_true rfl⟩ ⟨Nat.le_of_ble_eq_true rfl, Nat.le_of_ble_eq_true rfl⟩ (Nat.le_of_ble_eq_true rfl) dX3_where_14 (fun r => ?_)
    refine m_then (A' := mU (A) 19 0 0) (L' := L) (fun q => ?_)
    refine x_if_eq (tgt := 29) Γ dX3_where_17 (by decide) (fun c17 => absurd c17 (q.one rfl)) (fun c17 => ?_)
    refine x_aload_n Γ dX3_where_20 rfl rfl ?_
    refine m_geta Γ 9 (by decide) (fun _ => rfl) k_587 rfl dX3_where_21 ?_
    refine x_iload_n Γ dX3_where_24 rfl rfl ?_
    refine m_ald Γ rfl rfl (by decide) (by show _ < 24; omega) dX3_where_25 ?_
    refine x_goto (tgt := 30) Γ dX3_where_26 (by decide) ?_
    refine x_iret Γ rfl rfl (fun w2 e2 => ?_) ⟨Nat.le_of_ble_eq_true rfl, Nat.le_of_ble_eq_true rfl⟩ dX3_where_30
    unfold gT1
    rw [fin_ok hk, ixn ht]
    exact ⟨rfl, e2⟩
set_option maxRecDepth 100000 in
theorem tm_fees {o : Nat} {ad : Nat → Nat} {A : xS} {L : List Nat} {w : xW} (h : MRep G w o ad A L) {n : Nat} {x : Int32} (hI : aI A n)  : xMet l G yX3_fees cX3_fees 2 (some .int) ({ frames := 3, cells := 0, slots := 0, locals := 140 } : Room) [.ref o, .int x] w embI (fun r w' => r = (gT1 11 A L x).1 ∧ mP G o ad (gT1 11 A L x).2.1 (gT1 11 A L x).2.2 w w') := by
  refine xMet_of (by decide) (Nat.le_of_ble_eq_true rfl) ?_
  intro p e s m below meth c Γ hnm
  have hn := hI.1
  have hn2 := hI.2.1
  refine m_in h ?_
  have hE : ∀ k : Int32, ¬ k = 0 → kT1 A x = k → xJ p l e ({ frames := 3, cells := 0, slots := 0, locals := 140 } : Room) s m ([.ref o, .int x] : List Value).toArray below meth c G 2 (MQ below (xQ G embI (fun r w' => r = (gT1 11 A L x).1 ∧ mP G o ad (gT1 11 A L x).2.1 (gT1 11 A L x).2.2 w w')) ([.ref o, .int x] : List Value).toArray s ({ frames := 3, cells := 0, slots := 0, locals := 140 } : Room).cells ({ frames := 3, cells := 0, slots := 0, locals := 140 } : Room).slots (xA G)) (mP G o ad A L w) 0 0 14 [(0, .ref o), (1, .int x)] [.int k, .ref o] := by
    intro k h0 hk
    refine x_invV (emb := embI) (ci := 4) (rm := ({ frames := 0, cells := 0, slots := 0, locals := 0 } : Room)) Γ [.int k] (fun w1 r w2 => bq (k = 0) r ∧ mP G o ad (mU (A) 19 0 k) (L) w1 w2) rfl (fun w1 h1 => t_isFine h1.1) m_obj rfl k_656 k_6 k_653 k_655 s_24 hd_X3_isFine ⟨Nat.le_of_ble_eq_true rfl, Nat.le_of_ble_eq_true rfl⟩ ⟨Nat.le_of_ble_eq_true rfl, Nat.le_of_ble_eq_true rfl⟩ (Nat.le_of_ble_eq_true rfl) dX3_fees_14 (fun r => ?_)
    refine m_then (A' := mU (A) 19 0 k) (L' := L) (fun q => ?_)
    refine x_if_eq (tgt := 29) Γ dX3_fees_17 (by decide) (fun c17 => ?_) (fun c17 => absurd (q.zero h0) c17)
    refine x_iconst (v := 0) Γ dX3_fees_29 (by decide) ?_
    refine x_iret Γ rfl rfl (fun w2 e2 => ?_) ⟨Nat.le_of_ble_eq_true rfl, Nat.le_of_ble_eq_true rfl⟩ dX3_fees_30
    unfold gT1
    rw [fin_no hk h0]
    exact ⟨rfl, e2⟩
  refine x_aload_n Γ dX3_fees_0 rfl rfl ?_
  refine x_aload_n Γ dX3_fees_1 rfl rfl ?_
  refine x_iload_n Γ dX3_fees_2 rfl rfl ?_
  refine x_invV (emb := embI) (ci := 4) (rm := ({ frames := 1, cells := 0, slots := 0, locals := 40 } : Room)) Γ [.int x] (fun w1 r w2 => bq (kT (A) (x)) r ∧ mP G o ad (A) (L) w1 w2) rfl (fun w1 h1 => t_isThing h1.1) m_obj rfl k_676 k_6 k_673 k_675 s_26 hd_X3_isThing ⟨Nat.le_of_ble_eq_true rfl, Nat.le_of_ble_eq_true rfl⟩ ⟨Nat.le_of_ble_eq_true rfl, Nat.le_of_ble_eq_true rfl⟩ (Nat.le_of_ble_eq_true rfl) dX3_fees_3 (fun r => ?_)
  refine m_then (A' := A) (L' := L) (fun q3 => ?_)
  refine x_if_eq (tgt := 13) Γ dX3_fees_6 (by decide) (fun c6 => ?_) (fun c6 => ?_)
  · have hT := q3.eq c6
    have hk : kT1 A x = 1 := by
      unfold kT1
      exact if_neg (q3.eq c6)
    refine x_iconst (v := 1) Γ dX3_fees_13 (by decide) ?_
    exact hE 1 (by decide) hk
  · obtain ⟨t, htn, ht, rfl⟩ := aI_kT hI (q3.ne c6)
    have hT := aI_toT hI htn
    have hk : kT1 A (nI t) = 0 := by
      unfold kT1
      exact if_pos hT
    refine x_iconst (v := 0) Γ dX3_fees_9 (by decide) ?_
    refine x_goto (tgt := 14) Γ dX3_fees_10 (by decide) ?_
    refine x_invV (emb := embI) (ci := 4) (rm := ({ frames := 0, cells := 0, slots := 0, locals := 0 } : Room)) Γ [.int 0] (fun w1 r w2 => bq (0 = 0) r ∧ mP G o ad (mU (A) 19 0 0) (L) w1 w2) rfl (fun w1 h1 => t_isFine h1.1) m_obj rfl k_656 k_6 k_653 k_655 s_24 hd_X3_isFine ⟨Nat.le_of_ble_eq_true rfl, Nat.le_of_ble_eq_true rfl⟩ ⟨Nat.le_of_ble_eq_true rfl, Nat.le_of_ble_eq_true rfl⟩ (Nat.le_of_ble_eq_true rfl) dX3_fees_14 (fun r => ?_)
    refine m_then (A' := mU (A) 19 0 0) (L' := L) (fun q => ?_)
    refine x_if_eq (tgt := 29) Γ dX3_fees_17 (by decide) (fun c17 => absurd c17 (q.one rfl)) (fun c17 => ?_)
    refine x_aload_n Γ dX3_fees_20 rfl rfl ?_
    refine m_geta Γ 11 (by decide) (fun _ => rfl) k_589 rfl dX3_fees_21 ?_
    refine x_iload_n Γ dX3_fees_24 rfl rfl ?_
    refine m_ald Γ rfl rfl (by decide) (by show _ < 24; omega) dX3_fees_25 ?_
    refine x_goto (tgt := 30) Γ dX3_fees_26 (by decide) ?_
    refine x_iret Γ rfl rfl (fun w2 e2 => ?_) ⟨Nat.le_of_ble_eq_true rfl, Nat.le_of_ble_eq_true rfl⟩ dX3_fees_30
    unfold gT1
    rw [fin_ok hk, ixn ht]
    exact ⟨rfl, e2⟩
set_option maxRecDepth 100000 in
theorem tm_loan {o : Nat} {ad : Nat → Nat} {A : xS} {L : List Nat} {w : xW} (h : MRep G w o ad A L) {n : Nat} {x : Int32} (hI : aI A n)  : xMet l G yX3_loan cX3_loan 2 (some .int) ({ frames := 3, cells := 0, slots := 0, locals := 140 } : Room) [.ref o, .int x] w embI (fun r w' => r = (gT1 12 A L x).1 ∧ mP G o ad (gT1 12 A L x).2.1 (gT1 12 A L x).2.2 w w') := by
  refine xMet_of (by decide) (Nat.le_of_ble_eq_true rfl) ?_
  intro p e s m below meth c Γ hnm
  have hn := hI.1
  have hn2 := hI.2.1
  refine m_in h ?_
  have hE : ∀ k : Int32, ¬ k = 0 → kT1 A x = k → xJ p l e ({ frames := 3, cells := 0, slots := 0, locals := 140 } : Room) s m ([.ref o, .int x] : List Value).toArray below meth c G 2 (MQ below (xQ G embI (fun r w' => r = (gT1 12 A L x).1 ∧ mP G o ad (gT1 12 A L x).2.1 (gT1 12 A L x).2.2 w w')) ([.ref o, .int x] : List Value).toArray s ({ frames := 3, cells := 0, slots := 0, locals := 140 } : Room).cells ({ frames := 3, cells := 0, slots := 0, locals := 140 } : Room).slots (xA G)) (mP G o ad A L w) 0 0 14 [(0, .ref o), (1, .int x)] [.int k, .ref o] := by
    intro k h0 hk
    refine x_invV (emb := embI) (ci := 4) (rm := ({ frames := 0, cells := 0, slots := 0, locals := 0 } : Room)) Γ [.int k] (fun w1 r w2 => bq (k = 0) r ∧ mP G o ad (mU (A) 19 0 k) (L) w1 w2) rfl (fun w1 h1 => t_isFine h1.1) m_obj rfl k_656 k_6 k_653 k_655 s_24 hd_X3_isFine ⟨Nat.le_of_ble_eq_true rfl, Nat.le_of_ble_eq_true rfl⟩ ⟨Nat.le_of_ble_eq_true rfl, Nat.le_of_ble_eq_true rfl⟩ (Nat.le_of_ble_eq_true rfl) dX3_loan_14 (fun r => ?_)
    refine m_then (A' := mU (A) 19 0 k) (L' := L) (fun q => ?_)
    refine x_if_eq (tgt := 29) Γ dX3_loan_17 (by decide) (fun c17 => ?_) (fun c17 => absurd (q.zero h0) c17)
    refine x_iconst (v := 0) Γ dX3_loan_29 (by decide) ?_
    refine x_iret Γ rfl rfl (fun w2 e2 => ?_) ⟨Nat.le_of_ble_eq_true rfl, Nat.le_of_ble_eq_true rfl⟩ dX3_loan_30
    unfold gT1
    rw [fin_no hk h0]
    exact ⟨rfl, e2⟩
  refine x_aload_n Γ dX3_loan_0 rfl rfl ?_
  refine x_aload_n Γ dX3_loan_1 rfl rfl ?_
  refine x_iload_n Γ dX3_loan_2 rfl rfl ?_
  refine x_invV (emb := embI) (ci := 4) (rm := ({ frames := 1, cells := 0, slots := 0, locals := 40 } : Room)) Γ [.int x] (fun w1 r w2 => bq (kT (A) (x)) r ∧ mP G o ad (A) (L) w1 w2) rfl (fun w1 h1 => t_isThing h1.1) m_obj rfl k_676 k_6 k_673 k_675 s_26 hd_X3_isThing ⟨Nat.le_of_ble_eq_true rfl, Nat.le_of_ble_eq_true rfl⟩ ⟨Nat.le_of_ble_eq_true rfl, Nat.le_of_ble_eq_true rfl⟩ (Nat.le_of_ble_eq_true rfl) dX3_loan_3 (fun r => ?_)
  refine m_then (A' := A) (L' := L) (fun q3 => ?_)
  refine x_if_eq (tgt := 13) Γ dX3_loan_6 (by decide) (fun c6 => ?_) (fun c6 => ?_)
  · have hT := q3.eq c6
    have hk : kT1 A x = 1 := by
      unfold kT1
      exact if_neg (q3.eq c6)
    refine x_iconst (v := 1) Γ dX3_loan_13 (by decide) ?_
    exact hE 1 (by decide) hk
  · obtain ⟨t, htn, ht, rfl⟩ := aI_kT hI (q3.ne c6)
    have hT := aI_toT hI htn
    have hk : kT1 A (nI t) = 0 := by
      unfold kT1
      exact if_pos hT
    refine x_iconst (v := 0) Γ dX3_loan_9 (by decide) ?_
    refine x_goto (tgt := 14) Γ dX3_loan_10 (by decide) ?_
    refine x_invV (emb := embI) (ci := 4) (rm := ({ frames := 0, cells := 0, slots := 0, locals := 0 } : Room)) Γ [.int 0] (fun w1 r w2 => bq (0 = 0) r ∧ mP G o ad (mU (A) 19 0 0) (L) w1 w2) rfl (fun w1 h1 => t_isFine h1.1) m_obj rfl k_656 k_6 k_653 k_655 s_24 hd_X3_isFine ⟨Nat.le_of_ble_eq_true rfl, Nat.le_of_ble_eq_true rfl⟩ ⟨Nat.le_of_ble_eq_true rfl, Nat.le_of_ble_eq_true rfl⟩ (Nat.le_of_ble_eq_true rfl) dX3_loan_14 (fun r => ?_)
    refine m_then (A' := mU (A) 19 0 0) (L' := L) (fun q => ?_)
    refine x_if_eq (tgt := 29) Γ dX3_loan_17 (by decide) (fun c17 => absurd c17 (q.one rfl)) (fun c17 => ?_)
    refine x_aload_n Γ dX3_loan_20 rfl rfl ?_
    refine m_geta Γ 12 (by decide) (fun _ => rfl) k_590 rfl dX3_loan_21 ?_
    refine x_iload_n Γ dX3_loan_24 rfl rfl ?_
    refine m_ald Γ rfl rfl (by decide) (by show _ < 24; omega) dX3_loan_25 ?_
    refine x_goto (tgt := 30) Γ dX3_loan_26 (by decide) ?_
    refine x_iret Γ rfl rfl (fun w2 e2 => ?_) ⟨Nat.le_of_ble_eq_true rfl, Nat.le_of_ble_eq_true rfl⟩ dX3_loan_30
    unfold gT1
    rw [fin_ok hk, ixn ht]
    exact ⟨rfl, e2⟩
set_option maxRecDepth 100000 in
theorem tm_whereOn {o : Nat} {ad : Nat → Nat} {A : xS} {L : List Nat} {w : xW} (h : MRep G w o ad A L) {n : Nat} {x v : Int32} (hI : aI A n)  : xMet l G yX3_whereOn cX3_whereOn 3 (some .int) ({ frames := 3, cells := 0, slots := 0, locals := 140 } : Room) [.ref o, .int x, .int v] w embI (fun r w' => r = (gWhereOn A L x v).1 ∧ mP G o ad (gWhereOn A L x v).2.1 (gWhereOn A L x v).2.2 w w') := by
  refine xMet_of (by decide) (Nat.le_of_ble_eq_true rfl) ?_
  intro p e s m below meth c Γ hnm
  have hn := hI.1
  have hn2 := hI.2.1
  refine m_in h ?_
  have hE : ∀ k : Int32, ¬ k = 0 → kWhereOn A x v = k → xJ p l e ({ frames := 3, cells := 0, slots := 0, locals := 140 } : Room) s m ([.ref o, .int x, .int v] : List Value).toArray below meth c G 3 (MQ below (xQ G embI (fun r w' => r = (gWhereOn A L x v).1 ∧ mP G o ad (gWhereOn A L x v).2.1 (gWhereOn A L x v).2.2 w w')) ([.ref o, .int x, .int v] : List Value).toArray s ({ frames := 3, cells := 0, slots := 0, locals := 140 } : Room).cells ({ frames := 3, cells := 0, slots := 0, locals := 140 } : Room).slots (xA G)) (mP G o ad A L w) 0 0 30 [(0, .ref o), (1, .int x), (2, .int v)] [.int k, .ref o] := by
    intro k h0 hk
    refine x_invV (emb := embI) (ci := 4) (rm := ({ frames := 0, cells := 0, slots := 0, locals := 0 } : Room)) Γ [.int k] (fun w1 r w2 => bq (k = 0) r ∧ mP G o ad (mU (A) 19 0 k) (L) w1 w2) rfl (fun w1 h1 => t_isFine h1.1) m_obj rfl k_656 k_6 k_653 k_655 s_24 hd_X3_isFine ⟨Nat.le_of_ble_eq_true rfl, Nat.le_of_ble_eq_true rfl⟩ ⟨Nat.le_of_ble_eq_true rfl, Nat.le_of_ble_eq_true rfl⟩ (Nat.le_of_ble_eq_true rfl) dX3_whereOn_30 (fun r => ?_)
    refine m_then (A' := mU (A) 19 0 k) (L' := L) (fun q => ?_)
    refine x_if_ne (tgt := 38) Γ dX3_whereOn_33 (by decide) (fun c33 => absurd (q.zero h0) c33) (fun c33 => ?_)
    refine x_iconst (v := 0) Γ dX3_whereOn_36 (by decide) ?_
    refine x_iret Γ rfl rfl (fun w2 e2 => ?_) ⟨Nat.le_of_ble_eq_true rfl, Nat.le_of_ble_eq_true rfl⟩ dX3_whereOn_37
    unfold gWhereOn
    rw [fin_no hk h0]
    exact ⟨rfl, e2⟩
  refine x_aload_n Γ dX3_whereOn_0 rfl rfl ?_
  refine x_aload_n Γ dX3_whereOn_1 rfl rfl ?_
  refine x_iload_n Γ dX3_whereOn_2 rfl rfl ?_
  refine x_invV (emb := embI) (ci := 4) (rm := ({ frames := 1, cells := 0, slots := 0, locals := 40 } : Room)) Γ [.int x] (fun w1 r w2 => bq (kT (A) (x)) r ∧ mP G o ad (A) (L) w1 w2) rfl (fun w1 h1 => t_isThing h1.1) m_obj rfl k_676 k_6 k_673 k_675 s_26 hd_X3_isThing ⟨Nat.le_of_ble_eq_true rfl, Nat.le_of_ble_eq_true rfl⟩ ⟨Nat.le_of_ble_eq_true rfl, Nat.le_of_ble_eq_true rfl⟩ (Nat.le_of_ble_eq_true rfl) dX3_whereOn_3 (fun r => ?_)
  refine m_then (A' := A) (L' := L) (fun q3 => ?_)
  refine x_if_ne (tgt := 13) Γ dX3_whereOn_6 (by decide) (fun c6 => ?_) (fun c6 => ?_)
  · obtain ⟨t, htn, ht, rfl⟩ := aI_kT hI (q3.ne c6)
    have hT := aI_toT hI htn
    refine x_iload_n Γ dX3_whereOn_13 rfl rfl ?_
    refine x_iconst (v := 0) Γ dX3_whereOn_14 (by decide) ?_
    refine x_aload_n Γ dX3_whereOn_15 rfl rfl ?_
    refine m_geti Γ 4 (by decide) (by decide) (fun _ => rfl) k_582 rfl dX3_whereOn_16 ?_
    refine x_invS (emb := embI) (rm := ({ frames := 0, cells := 0, slots := 0, locals := 0 } : Room)) Γ [.int (v), .int (0), .int (A 4 0)] (fun w1 r w2 => bq (rIn (0) (A 4 0) (v)) r ∧ w2 = w1) rfl (fun w1 h1 => t_in) k_652 k_6 k_650 k_651 hd_X3_in ⟨Nat.le_of_ble_eq_true rfl, Nat.le_of_ble_eq_true rfl⟩ ⟨Nat.le_of_ble_eq_true rfl, Nat.le_of_ble_eq_true rfl⟩ (Nat.le_of_ble_eq_true rfl) dX3_whereOn_19 (fun r => ?_)
    refine m_same (fun q19 => ?_)
    refine x_if_ne (tgt := 29) Γ dX3_whereOn_22 (by decide) (fun c22 => ?_) (fun c22 => ?_)
    · obtain ⟨dd, hdd, hd4⟩ := hI.2.2.1
      obtain ⟨d, hd, rfl⟩ : ∃ d, d ≤ dd ∧ v = nI d := rIn_nat (nI_int (by omega)) (by have := q19.ne c22; rw [hd4] at this; exact this)
      have hk : kWhereOn A (nI t) (nI d) = 0 := by
        unfold kWhereOn
        rw [if_neg (not_not_intro hT), if_neg (not_not_intro (q19.ne c22))]
      have h24 : 24 * nI d + nI t = nI (24 * d + t) := by
        rw [show (24 : Int32) = nI 24 from rfl, nI_mul, nI_add]
      refine x_iconst (v := 0) Γ dX3_whereOn_29 (by decide) ?_
      refine x_invV (emb := embI) (ci := 4) (rm := ({ frames := 0, cells := 0, slots := 0, locals := 0 } : Room)) Γ [.int 0] (fun w1 r w2 => bq (0 = 0) r ∧ mP G o ad (mU (A) 19 0 0) (L) w1 w2) rfl (fun w1 h1 => t_isFine h1.1) m_obj rfl k_656 k_6 k_653 k_655 s_24 hd_X3_isFine ⟨Nat.le_of_ble_eq_true rfl, Nat.le_of_ble_eq_true rfl⟩ ⟨Nat.le_of_ble_eq_true rfl, Nat.le_of_ble_eq_true rfl⟩ (Nat.le_of_ble_eq_true rfl) dX3_whereOn_30 (fun r => ?_)
      refine m_then (A' := mU (A) 19 0 0) (L' := L) (fun q => ?_)
      refine x_if_ne (tgt := 38) Γ dX3_whereOn_33 (by decide) (fun c33 => ?_) (fun c33 => absurd c33 (q.one rfl))
      refine x_iload_n Γ dX3_whereOn_38 rfl rfl ?_
      refine x_aload_n Γ dX3_whereOn_39 rfl rfl ?_
      refine m_geti Γ 4 (by decide) (by decide) (fun _ => rfl) k_582 rfl dX3_whereOn_40 ?_
      refine x_icmp_ne (tgt := 55) Γ dX3_whereOn_43 (by decide) (fun c43 => ?_) (fun c43 => ?_)
      · refine x_aload_n Γ dX3_whereOn_55 rfl rfl ?_
        refine m_geta Γ 18 (by decide) (fun _ => rfl) k_596 rfl dX3_whereOn_56 ?_
        refine x_bipush (v := 24) Γ dX3_whereOn_59 (by decide) ?_
        refine x_iload_n Γ dX3_whereOn_61 rfl rfl ?_
        refine x_imul Γ dX3_whereOn_62 ?_
        refine x_iload_n Γ dX3_whereOn_63 rfl rfl ?_
        refine x_iadd Γ dX3_whereOn_64 ?_
        rw [h24]
        refine m_ald Γ rfl rfl (by decide) (by show _ < 24048; omega) dX3_whereOn_65 ?_
        refine x_iret Γ rfl rfl (fun w2 e2 => ?_) ⟨Nat.le_of_ble_eq_true rfl, Nat.le_of_ble_eq_true rfl⟩ dX3_whereOn_66
        unfold gWhereOn
        rw [fin_ok hk, ixn ht, if_neg (show ¬ nI d = A 4 0 from c43), h24, ixn2 (by omega)]
        exact ⟨rfl, e2⟩
      · refine x_aload_n Γ dX3_whereOn_46 rfl rfl ?_
        refine m_geta Γ 9 (by decide) (fun _ => rfl) k_587 rfl dX3_whereOn_47 ?_
        refine x_iload_n Γ dX3_whereOn_50 rfl rfl ?_
        refine m_ald Γ rfl rfl (by decide) (by show _ < 24; omega) dX3_whereOn_51 ?_
        refine x_goto (tgt := 66) Γ dX3_whereOn_52 (by decide) ?_
        refine x_iret Γ rfl rfl (fun w2 e2 => ?_) ⟨Nat.le_of_ble_eq_true rfl, Nat.le_of_ble_eq_true rfl⟩ dX3_whereOn_66
        unfold gWhereOn
        rw [fin_ok hk, ixn ht, if_pos (show nI d = A 4 0 from c43)]
        exact ⟨rfl, e2⟩
    · have hk : kWhereOn A (nI t) v = 2 := by
        unfold kWhereOn
        rw [if_neg (not_not_intro hT), if_pos (q19.eq c22)]
      refine x_iconst (v := 2) Γ dX3_whereOn_25 (by decide) ?_
      refine x_goto (tgt := 30) Γ dX3_whereOn_26 (by decide) ?_
      exact hE 2 (by decide) hk
  · have hT := q3.eq c6
    have hk : kWhereOn A x v = 1 := by
      unfold kWhereOn
      exact if_pos (q3.eq c6)
    refine x_iconst (v := 1) Γ dX3_whereOn_9 (by decide) ?_
    refine x_goto (tgt := 30) Γ dX3_whereOn_10 (by decide) ?_
    exact hE 1 (by decide) hk
theorem ldF_thr (A : xS) (x c : Int32) (n : Nat) : ldF (mU A 19 0 x) c n = ldF A c n := by
  induction n with
  | zero => rfl
  | succ t ih => rw [ldF, ldF, ih]; rfl
theorem aI_thr {A : xS} {n : Nat} (h : aI A n) (x : Int32) : aI (mU A 19 0 x) n := h
set_option maxRecDepth 100000 in
theorem tm_load {o : Nat} {ad : Nat → Nat} {A : xS} {L : List Nat} {w : xW} (h : MRep G w o ad A L) {n : Nat} {c0 : Int32} (hI : aI A n)  : xMet l G yX3_load cX3_load 2 (some .int) ({ frames := 3, cells := 0, slots := 0, locals := 140 } : Room) [.ref o, .int c0] w embI (fun r w' => r = (gLoad A L c0).1 ∧ mP G o ad (gLoad A L c0).2.1 (gLoad A L c0).2.2 w w') := by
  refine xMet_of (by decide) (Nat.le_of_ble_eq_true rfl) ?_
  intro p e s m below meth c Γ hnm
  have hn := hI.1
  have hn2 := hI.2.1
  refine m_in h ?_
  have hE : ∀ k : Int32, ¬ k = 0 → kLoad c0 = k → xJ p l e ({ frames := 3, cells := 0, slots := 0, locals := 140 } : Room) s m ([.ref o, .int c0] : List Value).toArray below meth c G 2 (MQ below (xQ G embI (fun r w' => r = (gLoad A L c0).1 ∧ mP G o ad (gLoad A L c0).2.1 (gLoad A L c0).2.2 w w')) ([.ref o, .int c0] : List Value).toArray s ({ frames := 3, cells := 0, slots := 0, locals := 140 } : Room).cells ({ frames := 3, cells := 0, slots := 0, locals := 140 } : Room).slots (xA G)) (mP G o ad A L w) 0 0 13 [(0, .ref o), (1, .int c0)] [.int k, .ref o] := by
    intro k h0 hk
    refine x_invV (emb := embI) (ci := 4) (rm := ({ frames := 0, cells := 0, slots := 0, locals := 0 } : Room)) Γ [.int k] (fun w1 r w2 => bq (k = 0) r ∧ mP G o ad (mU (A) 19 0 k) (L) w1 w2) rfl (fun w1 h1 => t_isFine h1.1) m_obj rfl k_656 k_6 k_653 k_655 s_24 hd_X3_isFine ⟨Nat.le_of_ble_eq_true rfl, Nat.le_of_ble_eq_true rfl⟩ ⟨Nat.le_of_ble_eq_true rfl, Nat.le_of_ble_eq_true rfl⟩ (Nat.le_of_ble_eq_true rfl) dX3_load_13 (fun r => ?_)
    refine m_then (A' := mU (A) 19 0 k) (L' := L) (fun q => ?_)
    refine x_if_eq (tgt := 27) Γ dX3_load_16 (by decide) (fun c16 => ?_) (fun c16 => absurd (q.zero h0) c16)
    refine x_iconst (v := 0) Γ dX3_load_27 (by decide) ?_
    refine x_iret Γ rfl rfl (fun w2 e2 => ?_) ⟨Nat.le_of_ble_eq_true rfl, Nat.le_of_ble_eq_true rfl⟩ dX3_load_28
    unfold gLoad
    rw [fin_no hk h0]
    exact ⟨rfl, e2⟩
  refine x_aload_n Γ dX3_load_0 rfl rfl ?_
  refine x_iload_n Γ dX3_load_1 rfl rfl ?_
  refine x_invS (emb := embI) (rm := ({ frames := 1, cells := 0, slots := 0, locals := 40 } : Room)) Γ [.int (c0)] (fun w1 r w2 => bq (rIn 0 4 (c0)) r ∧ w2 = w1) rfl (fun w1 h1 => t_isCounter) k_649 k_6 k_647 k_648 hd_X3_isCounter ⟨Nat.le_of_ble_eq_true rfl, Nat.le_of_ble_eq_true rfl⟩ ⟨Nat.le_of_ble_eq_true rfl, Nat.le_of_ble_eq_true rfl⟩ (Nat.le_of_ble_eq_true rfl) dX3_load_2 (fun r => ?_)
  refine m_same (fun q2 => ?_)
  refine x_if_eq (tgt := 12) Γ dX3_load_5 (by decide) (fun c5 => ?_) (fun c5 => ?_)
  · have hk : kLoad c0 = 1 := by
      unfold kLoad
      exact if_neg (q2.eq c5)
    refine x_iconst (v := 1) Γ dX3_load_12 (by decide) ?_
    exact hE 1 (by decide) hk
  · have hk : kLoad c0 = 0 := by
      unfold kLoad
      exact if_pos (q2.ne c5)
    refine x_iconst (v := 0) Γ dX3_load_8 (by decide) ?_
    refine x_goto (tgt := 13) Γ dX3_load_9 (by decide) ?_
    refine x_invV (emb := embI) (ci := 4) (rm := ({ frames := 0, cells := 0, slots := 0, locals := 0 } : Room)) Γ [.int 0] (fun w1 r w2 => bq (0 = 0) r ∧ mP G o ad (mU (A) 19 0 0) (L) w1 w2) rfl (fun w1 h1 => t_isFine h1.1) m_obj rfl k_656 k_6 k_653 k_655 s_24 hd_X3_isFine ⟨Nat.le_of_ble_eq_true rfl, Nat.le_of_ble_eq_true rfl⟩ ⟨Nat.le_of_ble_eq_true rfl, Nat.le_of_ble_eq_true rfl⟩ (Nat.le_of_ble_eq_true rfl) dX3_load_13 (fun r => ?_)
    refine m_then (A' := mU (A) 19 0 0) (L' := L) (fun q => ?_)
    refine x_if_eq (tgt := 27) Γ dX3_load_16 (by decide) (fun c16 => absurd c16 (q.one rfl)) (fun c16 => ?_)
    refine x_aload_n Γ dX3_load_19 rfl rfl ?_
    refine x_iload_n Γ dX3_load_20 rfl rfl ?_
    refine x_invV (emb := embI) (ci := 4) (rm := ({ frames := 0, cells := 0, slots := 0, locals := 0 } : Room)) Γ [.int c0] (fun w1 r w2 => r = ldF A c0 n ∧ mP G o ad (mU A 19 0 0) (L) w1 w2) rfl (fun w1 h1 => by have := t_loadOf (l := l) (x := c0) h1.1 (aI_thr hI 0); rw [ldF_thr] at this; exact this) m_obj rfl k_668 k_6 k_665 k_667 s_25 hd_X3_loadOf ⟨Nat.le_of_ble_eq_true rfl, Nat.le_of_ble_eq_true rfl⟩ ⟨Nat.le_of_ble_eq_true rfl, Nat.le_of_ble_eq_true rfl⟩ (Nat.le_of_ble_eq_true rfl) dX3_load_21 (fun r => ?_)
    refine m_then (A' := mU A 19 0 0) (L' := L) (fun e21 => ?_)
    refine x_goto (tgt := 28) Γ dX3_load_24 (by decide) ?_
    refine x_iret Γ rfl rfl (fun w2 e2 => ?_) ⟨Nat.le_of_ble_eq_true rfl, Nat.le_of_ble_eq_true rfl⟩ dX3_load_28
    unfold gLoad
    rw [fin_ok hk, hn, ixn2 (by omega)]
    exact ⟨e21, e2⟩
set_option maxRecDepth 100000 in
theorem tm_purse {o : Nat} {ad : Nat → Nat} {A : xS} {L : List Nat} {w : xW} (h : MRep G w o ad A L) {n : Nat} {x : Int32} (hI : aI A n)  : xMet l G yX3_purse cX3_purse 2 (some .int) ({ frames := 3, cells := 0, slots := 0, locals := 140 } : Room) [.ref o, .int x] w embI (fun r w' => r = (gPurse A L x).1 ∧ mP G o ad (gPurse A L x).2.1 (gPurse A L x).2.2 w w') := by
  refine xMet_of (by decide) (Nat.le_of_ble_eq_true rfl) ?_
  intro p e s m below meth c Γ hnm
  have hn := hI.1
  have hn2 := hI.2.1
  refine m_in h ?_
  have hE : ∀ k : Int32, ¬ k = 0 → kPurse x = k → xJ p l e ({ frames := 3, cells := 0, slots := 0, locals := 140 } : Room) s m ([.ref o, .int x] : List Value).toArray below meth c G 2 (MQ below (xQ G embI (fun r w' => r = (gPurse A L x).1 ∧ mP G o ad (gPurse A L x).2.1 (gPurse A L x).2.2 w w')) ([.ref o, .int x] : List Value).toArray s ({ frames := 3, cells := 0, slots := 0, locals := 140 } : Room).cells ({ frames := 3, cells := 0, slots := 0, locals := 140 } : Room).slots (xA G)) (mP G o ad A L w) 0 0 16 [(0, .ref o), (1, .int x)] [.int k, .ref o] := by
    intro k h0 hk
    refine x_invV (emb := embI) (ci := 4) (rm := ({ frames := 0, cells := 0, slots := 0, locals := 0 } : Room)) Γ [.int k] (fun w1 r w2 => bq (k = 0) r ∧ mP G o ad (mU (A) 19 0 k) (L) w1 w2) rfl (fun w1 h1 => t_isFine h1.1) m_obj rfl k_656 k_6 k_653 k_655 s_24 hd_X3_isFine ⟨Nat.le_of_ble_eq_true rfl, Nat.le_of_ble_eq_true rfl⟩ ⟨Nat.le_of_ble_eq_true rfl, Nat.le_of_ble_eq_true rfl⟩ (Nat.le_of_ble_eq_true rfl) dX3_purse_16 (fun r => ?_)
    refine m_then (A' := mU (A) 19 0 k) (L' := L) (fun q => ?_)
    refine x_if_eq (tgt := 31) Γ dX3_purse_19 (by decide) (fun c19 => ?_) (fun c19 => absurd (q.zero h0) c19)
    refine x_iconst (v := 0) Γ dX3_purse_31 (by decide) ?_
    refine x_iret Γ rfl rfl (fun w2 e2 => ?_) ⟨Nat.le_of_ble_eq_true rfl, Nat.le_of_ble_eq_true rfl⟩ dX3_purse_32
    unfold gPurse
    rw [fin_no hk h0]
    exact ⟨rfl, e2⟩
  refine x_aload_n Γ dX3_purse_0 rfl rfl ?_
  refine x_iload_n Γ dX3_purse_1 rfl rfl ?_
  refine x_iconst (v := 0) Γ dX3_purse_2 (by decide) ?_
  refine x_bipush (v := 7) Γ dX3_purse_3 (by decide) ?_
  refine x_invS (emb := embI) (rm := ({ frames := 0, cells := 0, slots := 0, locals := 0 } : Room)) Γ [.int (x), .int (0), .int (7)] (fun w1 r w2 => bq (rIn (0) (7) (x)) r ∧ w2 = w1) rfl (fun w1 h1 => t_in) k_652 k_6 k_650 k_651 hd_X3_in ⟨Nat.le_of_ble_eq_true rfl, Nat.le_of_ble_eq_true rfl⟩ ⟨Nat.le_of_ble_eq_true rfl, Nat.le_of_ble_eq_true rfl⟩ (Nat.le_of_ble_eq_true rfl) dX3_purse_5 (fun r => ?_)
  refine m_same (fun q5 => ?_)
  refine x_if_eq (tgt := 15) Γ dX3_purse_8 (by decide) (fun c8 => ?_) (fun c8 => ?_)
  · have hk : kPurse x = 1 := by
      unfold kPurse
      exact if_neg (q5.eq c8)
    refine x_iconst (v := 1) Γ dX3_purse_15 (by decide) ?_
    exact hE 1 (by decide) hk
  · have hk : kPurse x = 0 := by
      unfold kPurse
      exact if_pos (q5.ne c8)
    obtain ⟨i, hi, rfl⟩ := rIn_nat (M := 7) (n := 7) (by decide) (q5.ne c8)
    refine x_iconst (v := 0) Γ dX3_purse_11 (by decide) ?_
    refine x_goto (tgt := 16) Γ dX3_purse_12 (by decide) ?_
    refine x_invV (emb := embI) (ci := 4) (rm := ({ frames := 0, cells := 0, slots := 0, locals := 0 } : Room)) Γ [.int 0] (fun w1 r w2 => bq (0 = 0) r ∧ mP G o ad (mU (A) 19 0 0) (L) w1 w2) rfl (fun w1 h1 => t_isFine h1.1) m_obj rfl k_656 k_6 k_653 k_655 s_24 hd_X3_isFine ⟨Nat.le_of_ble_eq_true rfl, Nat.le_of_ble_eq_true rfl⟩ ⟨Nat.le_of_ble_eq_true rfl, Nat.le_of_ble_eq_true rfl⟩ (Nat.le_of_ble_eq_true rfl) dX3_purse_16 (fun r => ?_)
    refine m_then (A' := mU (A) 19 0 0) (L' := L) (fun q => ?_)
    refine x_if_eq (tgt := 31) Γ dX3_purse_19 (by decide) (fun c19 => absurd c19 (q.one rfl)) (fun c19 => ?_)
    refine x_aload_n Γ dX3_purse_22 rfl rfl ?_
    refine m_geta Γ 2 (by decide) (fun _ => rfl) k_580 rfl dX3_purse_23 ?_
    refine x_iload_n Γ dX3_purse_26 rfl rfl ?_
    refine m_ald Γ rfl rfl (by decide) (by show _ < 8; omega) dX3_purse_27 ?_
    refine x_goto (tgt := 32) Γ dX3_purse_28 (by decide) ?_
    refine x_iret Γ rfl rfl (fun w2 e2 => ?_) ⟨Nat.le_of_ble_eq_true rfl, Nat.le_of_ble_eq_true rfl⟩ dX3_purse_32
    unfold gPurse
    rw [fin_ok hk, ixn (t := i) (by omega)]
    exact ⟨rfl, e2⟩
set_option maxRecDepth 100000 in
theorem tm_wish {o : Nat} {ad : Nat → Nat} {A : xS} {L : List Nat} {w : xW} (h : MRep G w o ad A L) {n : Nat} {x : Int32} (hI : aI A n) (hl : L.length ≤ n) : xMet l G yX3_wish cX3_wish 2 (some .int) ({ frames := 3, cells := 0, slots := 0, locals := 140 } : Room) [.ref o, .int x] w embI (fun r w' => r = (gWish A L x).1 ∧ mP G o ad (gWish A L x).2.1 (gWish A L x).2.2 w w') := by
  refine xMet_of (by decide) (Nat.le_of_ble_eq_true rfl) ?_
  intro p e s m below meth c Γ hnm
  have hn := hI.1
  have hn2 := hI.2.1
  refine m_in h ?_
  have hE : ∀ k : Int32, ¬ k = 0 → kWish L x = k → xJ p l e ({ frames := 3, cells := 0, slots := 0, locals := 140 } : Room) s m ([.ref o, .int x] : List Value).toArray below meth c G 2 (MQ below (xQ G embI (fun r w' => r = (gWish A L x).1 ∧ mP G o ad (gWish A L x).2.1 (gWish A L x).2.2 w w')) ([.ref o, .int x] : List Value).toArray s ({ frames := 3, cells := 0, slots := 0, locals := 140 } : Room).cells ({ frames := 3, cells := 0, slots := 0, locals := 140 } : Room).slots (xA G)) (mP G o ad A L w) 0 0 20 [(0, .ref o), (1, .int x)] [.int k, .ref o] := by
    intro k h0 hk
    refine x_invV (emb := embI) (ci := 4) (rm := ({ frames := 0, cells := 0, slots := 0, locals := 0 } : Room)) Γ [.int k] (fun w1 r w2 => bq (k = 0) r ∧ mP G o ad (mU (A) 19 0 k) (L) w1 w2) rfl (fun w1 h1 => t_isFine h1.1) m_obj rfl k_656 k_6 k_653 k_655 s_24 hd_X3_isFine ⟨Nat.le_of_ble_eq_true rfl, Nat.le_of_ble_eq_true rfl⟩ ⟨Nat.le_of_ble_eq_true rfl, Nat.le_of_ble_eq_true rfl⟩ (Nat.le_of_ble_eq_true rfl) dX3_wish_20 (fun r => ?_)
    refine m_then (A' := mU (A) 19 0 k) (L' := L) (fun q => ?_)
    refine x_if_eq (tgt := 35) Γ dX3_wish_23 (by decide) (fun c23 => ?_) (fun c23 => absurd (q.zero h0) c23)
    refine x_iconst (v := 0) Γ dX3_wish_35 (by decide) ?_
    refine x_iret Γ rfl rfl (fun w2 e2 => ?_) ⟨Nat.le_of_ble_eq_true rfl, Nat.le_of_ble_eq_true rfl⟩ dX3_wish_36
    unfold gWish
    rw [fin_no hk h0]
    exact ⟨rfl, e2⟩
  refine x_aload_n Γ dX3_wish_0 rfl rfl ?_
  refine x_iload_n Γ dX3_wish_1 rfl rfl ?_
  refine x_iconst (v := 0) Γ dX3_wish_2 (by decide) ?_
  refine x_aload_n Γ dX3_wish_3 rfl rfl ?_
  refine m_getw Γ k_595 dX3_wish_4 ?_
  refine x_iconst (v := 1) Γ dX3_wish_7 (by decide) ?_
  refine x_isub Γ dX3_wish_8 ?_
  refine x_invS (emb := embI) (rm := ({ frames := 0, cells := 0, slots := 0, locals := 0 } : Room)) Γ [.int (x), .int (0), .int (nI L.length - 1)] (fun w1 r w2 => bq (rIn (0) (nI L.length - 1) (x)) r ∧ w2 = w1) rfl (fun w1 h1 => t_in) k_652 k_6 k_650 k_651 hd_X3_in ⟨Nat.le_of_ble_eq_true rfl, Nat.le_of_ble_eq_true rfl⟩ ⟨Nat.le_of_ble_eq_true rfl, Nat.le_of_ble_eq_true rfl⟩ (Nat.le_of_ble_eq_true rfl) dX3_wish_9 (fun r => ?_)
  refine m_same (fun q9 => ?_)
  refine x_if_eq (tgt := 19) Γ dX3_wish_12 (by decide) (fun c12 => ?_) (fun c12 => ?_)
  · have hk : kWish L x = 1 := by
      unfold kWish
      exact if_neg (q9.eq c12)
    refine x_iconst (v := 1) Γ dX3_wish_19 (by decide) ?_
    exact hE 1 (by decide) hk
  · have hk : kWish L x = 0 := by
      unfold kWish
      exact if_pos (q9.ne c12)
    obtain ⟨i, hi, rfl⟩ := rT_nat (by omega) (q9.ne c12)
    obtain ⟨j, hj⟩ : ∃ j, L[i]? = some j := ⟨L[i], List.getElem?_eq_getElem hi⟩
    refine x_iconst (v := 0) Γ dX3_wish_15 (by decide) ?_
    refine x_goto (tgt := 20) Γ dX3_wish_16 (by decide) ?_
    refine x_invV (emb := embI) (ci := 4) (rm := ({ frames := 0, cells := 0, slots := 0, locals := 0 } : Room)) Γ [.int 0] (fun w1 r w2 => bq (0 = 0) r ∧ mP G o ad (mU (A) 19 0 0) (L) w1 w2) rfl (fun w1 h1 => t_isFine h1.1) m_obj rfl k_656 k_6 k_653 k_655 s_24 hd_X3_isFine ⟨Nat.le_of_ble_eq_true rfl, Nat.le_of_ble_eq_true rfl⟩ ⟨Nat.le_of_ble_eq_true rfl, Nat.le_of_ble_eq_true rfl⟩ (Nat.le_of_ble_eq_true rfl) dX3_wish_20 (fun r => ?_)
    refine m_then (A' := mU (A) 19 0 0) (L' := L) (fun q => ?_)
    refine x_if_eq (tgt := 35) Γ dX3_wish_23 (by decide) (fun c23 => absurd c23 (q.one rfl)) (fun c23 => ?_)
    refine x_aload_n Γ dX3_wish_26 rfl rfl ?_
    refine m_geta Γ 16 (by decide) (fun _ => rfl) k_594 rfl dX3_wish_27 ?_
    refine x_iload_n Γ dX3_wish_30 rfl rfl ?_
    refine m_aldw Γ (t := j) (L := L) (i := i) hj (by omega) dX3_wish_31 ?_
    refine x_goto (tgt := 36) Γ dX3_wish_32 (by decide) ?_
    refine x_iret Γ rfl rfl (fun w2 e2 => ?_) ⟨Nat.le_of_ble_eq_true rfl, Nat.le_of_ble_eq_true rfl⟩ dX3_wish_36
    unfold gWish
    rw [fin_ok hk, ixn2 (by omega), List.getD_eq_getElem?_getD, hj]
    exact ⟨rfl, e2⟩
end XM5
end
section
section XPU
theorem fFor_nd {t : Nat} {L : List Nat} (h : L.Nodup) : (fFor t L).Nodup := List.Pairwise.filter _ h
theorem fFor_id {t : Nat} {L : List Nat} (h : t ∉ L) : fFor t L = L := by
  unfold fFor
  refine List.filter_eq_self.mpr (fun q hq => ?_)
  have : q ≠ t := fun z => h (z ▸ hq)
  simp [this]
theorem fFor_cons_eq {t : Nat} {L : List Nat} : fFor t (t :: L) = fFor t L := by simp [fFor]
theorem fFor_cons_ne {t q : Nat} {L : List Nat} (h : q ≠ t) : fFor t (q :: L) = q :: fFor t L := by simp [fFor, h]
theorem fFor_app (t : Nat) (L L' : List Nat) : fFor t (L ++ L') = fFor t L ++ fFor t L' := by simp [fFor]
theorem fFor_len1 {t : Nat} : ∀ {L : List Nat}, L.Nodup → L.length ≤ (fFor t L).length + 1
  | [], _ => by simp
  | q :: r, h => by
    have h1 := List.nodup_cons.mp h
    by_cases e : q = t
    · subst e
      rw [fFor_cons_eq, fFor_id h1.1]
      simp
    · rw [fFor_cons_ne e]
      have := fFor_len1 (t := t) h1.2
      simp only [List.length_cons]
      omega
theorem nd_len : ∀ (n : Nat) (L : List Nat), L.Nodup → (∀ q ∈ L, q < n) → L.length ≤ n
  | 0, L, _, h => by
    cases L with
    | nil => simp
    | cons q r => exact absurd (h q List.mem_cons_self) (Nat.not_lt_zero q)
  | n + 1, L, hd, h => by
    have h1 := nd_len n (fFor n L) (fFor_nd hd) (fun q hq => by
      have h2 := fFor_mem hq
      have := h q h2.1
      have := h2.2
      omega)
    have := fFor_len1 (t := n) hd
    omega
theorem fFor_lt {n t : Nat} {L : List Nat} (hd : L.Nodup) (h : ∀ q ∈ L, q < n) (ht : t < n) : (fFor t L).length + 1 ≤ n := by
  have h1 := nd_len n (t :: fFor t L) (List.nodup_cons.mpr ⟨fun z => (fFor_mem z).2 rfl, fFor_nd hd⟩) (fun q hq => by
    rcases List.mem_cons.mp hq with h2 | h2
    · omega
    · exact h q (fFor_mem h2).1)
  simpa using h1
theorem fFor_mid {t : Nat} {P R : List Nat} (h : (P ++ t :: R).Nodup) : fFor t (P ++ t :: R) = P ++ R := by
  have h1 := List.nodup_append.mp h
  have h2 := List.nodup_cons.mp h1.2.1
  rw [fFor_app, fFor_cons_eq, fFor_id (fun z => h1.2.2 t z t List.mem_cons_self rfl), fFor_id h2.1]
/-! rows that no day's end changes -/
def stb (j : Nat) : Bool := !(j == 2 || j == 3 || j == 9 || j == 11 || j == 12 || j == 14 || j == 15)
theorem stb_ne {j : Nat} (h : stb j = true) : j ≠ 2 ∧ j ≠ 3 ∧ j ≠ 9 ∧ j ≠ 11 ∧ j ≠ 12 ∧ j ≠ 14 ∧ j ≠ 15 := by
  simp only [stb, Bool.not_eq_true', Bool.or_eq_false_iff, beq_eq_false_iff_ne] at h
  omega
def sameR (A B : xS) : Prop := ∀ j, stb j = true → B j = A j
theorem sameR.rf {A : xS} : sameR A A := fun _ _ => rfl
theorem sameR.tr {A B C : xS} (h : sameR A B) (h2 : sameR B C) : sameR A C := fun j hj => (h2 j hj).trans (h j hj)
theorem sameR_aI {A B : xS} {n : Nat} (h : sameR A B) (hI : aI A n) : aI B n := by
  unfold aI at hI ⊢
  rw [h 5 rfl, h 4 rfl, h 6 rfl, h 13 rfl]
  exact hI
theorem sameR_mU {A : xS} {j i : Nat} {v : Int32} (hj : stb j = false) : sameR A (mU A j i v) := fun k hk => mU_j (fun z => by rw [z, hj] at hk; cases hk)
theorem sameR_sA1 (A : xS) (t : Nat) : sameR A (sA1 A t) := by
  unfold sA1
  split
  · exact sameR_mU rfl
  · exact sameR.rf
theorem sA1_j {A : xS} {t j : Nat} (h : j ≠ 2) : sA1 A t j = A j := by
  unfold sA1
  split
  · exact mU_j h
  · rfl
theorem sameR_sell (A : xS) (t : Nat) : sameR A (fSell t A) := by
  unfold fSell sA3 sA2
  exact (((((((sameR_sA1 A t).tr (sameR_mU rfl)).tr (sameR_mU rfl)).tr (sameR_mU rfl)).tr (sameR_mU rfl)).tr (sameR_mU rfl)).tr (sameR_mU rfl)).tr (sameR_mU rfl)
theorem sell_15 {A : xS} {t q : Nat} (h : q ≠ t) : fSell t A 15 q = A 15 q := by
  unfold fSell
  rw [mU_i h]
  unfold sA3 sA2
  rw [mU_j (by decide), mU_j (by decide), mU_j (by decide), mU_j (by decide), mU_j (by decide), mU_j (by decide), sA1_j (by decide)]
theorem lI_for {A B : xS} {n t : Nat} {L : List Nat} (h : lI A n L) (hB : ∀ q, q ≠ t → B 15 q = A 15 q) : lI B n (fFor t L) :=
  ⟨Nat.le_trans (fFor_len t L) h.1, fFor_nd h.2.1, fun q hq => by
    have h1 := fFor_mem hq
    rw [hB q h1.2]
    exact h.2.2 q h1.1⟩
theorem lI_same {A B : xS} {n : Nat} {L : List Nat} (h : lI A n L) (hB : B 15 = A 15) : lI B n L := by
  unfold lI
  rw [hB]
  exact h
theorem lI_sell {A : xS} {n t : Nat} {L : List Nat} (h : lI A n L) : lI (fSell t A) n (fFor t L) := lI_for h (fun _ hq => sell_15 hq)
theorem move_15 {A : xS} {t q : Nat} (h : q ≠ t) : fMove A t 15 q = A 15 q := by
  unfold fMove
  rw [mU_i h, mU_j (by decide)]
theorem sameR_move (A : xS) (t : Nat) : sameR A (fMove A t) := (sameR_mU rfl).tr (sameR_mU rfl)
theorem lI_move {A : xS} {n t : Nat} {L : List Nat} (h : lI A n L) : lI (fMove A t) n (fFor t L) := lI_for h (fun _ hq => move_15 hq)
theorem fOwe_j {A : xS} {t j : Nat} (h : j ≠ 11) : fOwe t A j = A j := by
  induction t with
  | zero => rfl
  | succ t ih => rw [fOwe, mU_j h, ih]
theorem sameR_owe (A : xS) (t : Nat) : sameR A (fOwe t A) := fun j hj => fOwe_j (stb_ne hj).2.2.2.1
theorem fCal_I {n : Nat} (V : xV) (t : Nat) (h : lI V.2.1 n V.2.2) : sameR V.2.1 (fCal t V).2.1 ∧ lI (fCal t V).2.1 n (fCal t V).2.2 := by
  induction t with
  | zero => exact ⟨sameR.rf, h⟩
  | succ t ih =>
    rw [fCal]
    split
    · exact ⟨ih.1.tr (sameR_sell _ t), lI_sell ih.2⟩
    · exact ih
theorem fUnf_I {n : Nat} (V : xV) (t : Nat) (h : lI V.2.1 n V.2.2) : sameR V.2.1 (fUnf t V).2.1 ∧ lI (fUnf t V).2.1 n (fUnf t V).2.2 := by
  induction t with
  | zero => exact ⟨sameR.rf, h⟩
  | succ t ih =>
    rw [fUnf]
    split
    · exact ⟨ih.1.tr (sameR_sell _ t), lI_sell ih.2⟩
    · exact ih
theorem fDrv_I {n : Nat} (R : List Nat) (V : xV) (h : lI V.2.1 n V.2.2) : sameR V.2.1 (fDrv n R V).2.1 ∧ lI (fDrv n R V).2.1 n (fDrv n R V).2.2 := by
  induction R generalizing V with
  | nil => exact ⟨sameR.rf, h⟩
  | cons t r ih =>
    rw [fDrv]
    split
    · have := ih (V.1 - V.2.1 7 t, fMove V.2.1 t, fFor t V.2.2) (lI_move h)
      exact ⟨(sameR_move _ t).tr this.1, this.2⟩
    · exact ih V h
theorem fBeg_j {A : xS} {t j : Nat} (h : j ≠ 18) : fBeg t A j = A j := by
  induction t with
  | zero => rfl
  | succ t ih => rw [fBeg, mU_j h, ih]
def aId (A : xS) (n d : Nat) : Prop := aI A n ∧ A 4 0 = nI d
theorem fDay_I {n d : Nat} (V : xV) (ha : aI V.2.1 n) (hd : V.2.1 4 0 = nI d) (hd1 : d + 1 ≤ 1000) (h : lI V.2.1 n V.2.2) : aI (fDay n V).2.1 n ∧ (fDay n V).2.1 4 0 = nI (d + 1) ∧ lI (fDay n V).2.1 n (fDay n V).2.2 := by
  have h1 : lI (fOwe n V.2.1) n V.2.2 := lI_same h (fOwe_j (by decide))
  have h2 := fCal_I (n := n) (V.1, fOwe n V.2.1, V.2.2) n h1
  have h3 := fUnf_I (n := n) (fCal n (V.1, fOwe n V.2.1, V.2.2)) n h2.2
  have h4 := fDrv_I (n := n) (fUnf n (fCal n (V.1, fOwe n V.2.1, V.2.2))).2.2 ((fUnf n (fCal n (V.1, fOwe n V.2.1, V.2.2))).2.1 1 0, (fUnf n (fCal n (V.1, fOwe n V.2.1, V.2.2))).2.1, (fUnf n (fCal n (V.1, fOwe n V.2.1, V.2.2))).2.2) h3.2
  have hs := (((sameR_owe V.2.1 n).tr h2.1).tr h3.1).tr h4.1
  have e4 : (fDay n V).2.1 4 0 = nI (d + 1) := by
    show fBeg n (mU _ 4 0 _) 4 0 = _
    rw [fBeg_j (by decide), mU_eq, hs 4 rfl, hd, nI_1]
  refine ⟨?_, e4, ?_⟩
  · obtain ⟨g1, g2, g3, g4, g5⟩ := sameR_aI hs ha
    refine ⟨?_, g2, ⟨d + 1, hd1, e4⟩, ?_, ?_⟩
    · show fBeg n (mU _ 4 0 _) 5 0 = _
      rw [fBeg_j (by decide), mU_j (by decide)]; exact g1
    · show ∀ t, t < 24 → ∃ o, o < 8 ∧ fBeg n (mU _ 4 0 _) 6 t = nI o
      rw [fBeg_j (by decide), mU_j (by decide)]; exact g4
    · show ∀ t, t < 24 → ∃ o, o < 8 ∧ fBeg n (mU _ 4 0 _) 13 t = nI o
      rw [fBeg_j (by decide), mU_j (by decide)]; exact g5
  · refine lI_same h4.2 ?_
    show fBeg n (mU _ 4 0 _) 15 = _
    rw [fBeg_j (by decide), mU_j (by decide)]
theorem fDays_I {n d : Nat} (V : xV) (ha : aI V.2.1 n) (hd : V.2.1 4 0 = nI d) (h : lI V.2.1 n V.2.2) (k : Nat) (hk : d + k ≤ 1000) : aI (fDays n k V).2.1 n ∧ (fDays n k V).2.1 4 0 = nI (d + k) ∧ lI (fDays n k V).2.1 n (fDays n k V).2.2 := by
  induction k with
  | zero => exact ⟨ha, hd, h⟩
  | succ k ih =>
    obtain ⟨i1, i2, i3⟩ := ih (by omega)
    exact fDay_I (0, (fDays n k V).2) i1 i2 (by omega) i3
end XPU
end
section
section XM6
section XM6a
variable {p : Program} {l : Launch} {e : Env} {R : Room} {s : State} {m : MethodId} {args : Array Value} {below : List Frame} {meth : Method} {c : Code} {G : xG} {cc : ByteArray} {nL : Nat} {own : String} {rt : Option FieldType} {Q : State → Prop} {P P' : xW → Prop} {k n pc : Nat} {lv : List (Nat × Value)} {st : List Value}
variable {o : Nat} {ad : Nat → Nat} {A A' : xS} {L L' : List Nat} {w0 : xW}
theorem m_getiv (Γ : xC p s m meth c G cc nL own rt) (j : Nat) {idx : Nat} {v : Int32} (hv : A j 0 = v) (hj : j < 20) (h16 : j ≠ 16 ∧ j ≠ 17) (hf : ∀ f : Nat → Int32, (mFs ad f)[j]? = some (.int (f j))) (hlink : Cond.fieldLink own idx RX3 (TX3 j).2.1 (TX3 j).2.2.1 ∈ xAll) (ho : RX3 = (TX3 j).1) (hd : decode cc pc = .ok (.getfield idx, 3))
    (kk : xJ p l e R s m args below meth c G nL Q (mP G o ad A L w0) k n (pc + 3) lv (.int v :: st)) : xJ p l e R s m args below meth c G nL Q (mP G o ad A L w0) k n pc lv (.ref o :: st) :=
  m_geti Γ j hj h16 hf hlink ho hd (by rw [hv]; exact kk)
theorem m_aldv (Γ : xC p s m meth c G cc nL own rt) {j t : Nat} {i v : Int32} (hv : A j t = v) (hi : i = nI t) (hj : mArr j = true) (h16 : j ≠ 16) (ht : t < mlen j) (hd : decode cc pc = .ok (.iaload, 1))
    (kk : xJ p l e R s m args below meth c G nL Q (mP G o ad A L w0) k n (pc + 1) lv (.int v :: st)) : xJ p l e R s m args below meth c G nL Q (mP G o ad A L w0) k n pc lv (.int i :: .ref (ad j) :: st) :=
  m_ald Γ hi hj h16 ht hd (by rw [hv]; exact kk)
/-- between a wish's place and the count of wishes -/
def mW (G : xG) (o : Nat) (ad : Nat → Nat) (A : xS) (L : List Nat) (t : Nat) (w0 : xW) : xW → Prop := fun w => (∃ M : xS, MdlAt G w o ad M ∧ (∀ j, j ≠ 16 → j ≠ 17 → M j = A j) ∧ M 17 0 = nI L.length ∧ ∀ (i q : Nat), (L ++ [t])[i]? = some q → M 16 i = nI q) ∧ KpM w0 w
theorem m_astw (Γ : xC p s m meth c G cc nL own rt) {t : Nat} (hl : L.length < 24) (hd : decode cc pc = .ok (.iastore, 1))
    (kk : xJ p l e R s m args below meth c G nL Q (mW G o ad A L t w0) k n (pc + 1) lv st) : xJ p l e R s m args below meth c G nL Q (mP G o ad A L w0) k n pc lv (.int (nI t) :: .int (nI L.length) :: .ref (ad 16) :: st) := by
  refine x_pin (fun w1 hw1 => ?_)
  obtain ⟨⟨M, h1, h2, h3, h4⟩, hk⟩ := hw1
  have hM := MdlAt.ast h1 (j := 16) (i := L.length) (x := nI t) rfl
  have hnew : ∀ (i q : Nat), (L ++ [t])[i]? = some q → mU M 16 L.length (nI t) 16 i = nI q := by
    intro i q hi
    by_cases hil : i < L.length
    · rw [List.getElem?_append_left hil] at hi
      rw [mU_i (by omega)]
      exact h4 i q hi
    · rw [List.getElem?_append_right (by omega)] at hi
      have hie : i - L.length = 0 := by
        have := (List.getElem?_eq_some_iff.mp hi).1
        simp only [List.length_cons, List.length_nil] at this
        omega
      rw [hie] at hi
      have hqq : t = q := by simpa using hi
      rw [show i = L.length by omega, mU_eq, hqq]
  exact x_iast (N := mlen 16) (f := M 16) Γ (fun w9 e9 => by rw [e9]; refine ⟨_, h1.2 16 rfl, ?_⟩; rw [nI_clamp (by omega)]; exact ⟨⟨_, hM, fun j g1 g2 => by rw [mU_j g1]; exact h2 j g1 g2, by rw [mU_j (by decide)]; exact h3, hnew⟩, hk.set (h1.2 16 rfl) (by omega)⟩) (vp_in_nI (by show _ < 24; omega) (by decide)) hd kk
theorem m_getw2 (Γ : xC p s m meth c G cc nL own rt) {t idx : Nat} (hlink : Cond.fieldLink own idx RX3 (TX3 17).2.1 (TX3 17).2.2.1 ∈ xAll) (hd : decode cc pc = .ok (.getfield idx, 3))
    (kk : xJ p l e R s m args below meth c G nL Q (mW G o ad A L t w0) k n (pc + 3) lv (.int (nI L.length) :: st)) : xJ p l e R s m args below meth c G nL Q (mW G o ad A L t w0) k n pc lv (.ref o :: st) :=
  x_getf Γ kl4 17 (fun w h => by
    obtain ⟨⟨M, h1, h2, h3, -⟩, -⟩ := h
    exact ⟨_, _, h1.1, by rw [← h3]; rfl⟩) (by decide) hlink (Or.inl rfl) hd kk
theorem m_putw (Γ : xC p s m meth c G cc nL own rt) {t idx : Nat} (hlink : Cond.fieldLink own idx RX3 (TX3 17).2.1 (TX3 17).2.2.1 ∈ xAll) (hd : decode cc pc = .ok (.putfield idx, 3))
    (kk : xJ p l e R s m args below meth c G nL Q (mP G o ad A (L ++ [t]) w0) k n (pc + 3) lv st) : xJ p l e R s m args below meth c G nL Q (mW G o ad A L t w0) k n pc lv (.int (nI (L.length + 1)) :: .ref o :: st) := by
  refine x_pin (fun w1 hw1 => ?_)
  obtain ⟨⟨M, h1, h2, h3, h4⟩, hk⟩ := hw1
  have hM := MdlAt.put h1 (j := 17) (x := nI (L.length + 1)) rfl rfl
  refine x_putf Γ kl4 17 (fun w9 e9 => by rw [e9]; exact ⟨_, _, h1.1, Nat.le_of_ble_eq_true rfl, ⟨_, hM, fun j g1 g2 => by rw [mU_j g2]; exact h2 j g1 g2, by rw [mU_eq, List.length_append]; rfl, fun i q hi => by rw [mU_j (by decide)]; exact h4 i q hi⟩, hk.set h1.1 (by omega)⟩) (by decide) hlink (Or.inl rfl) rfl rfl rfl hd kk
end XM6a
variable {l : Launch} {G : xG}
set_option maxRecDepth 100000 in
theorem tm_leave {o : Nat} {ad : Nat → Nat} {A : xS} {L : List Nat} {w : xW} (h : MRep G w o ad A L) {n : Nat} {ow z c0 : Int32} (hI : aI A n)  : xMet l G yX3_leave cX3_leave 5 (some .int) ({ frames := 3, cells := 0, slots := 0, locals := 140 } : Room) [.ref o, .int ow, .int z, .int c0] w embI (fun r w' => r = (gLeave A L ow z c0).1 ∧ mP G o ad (gLeave A L ow z c0).2.1 (gLeave A L ow z c0).2.2 w w') := by
  refine xMet_of (by decide) (Nat.le_of_ble_eq_true rfl) ?_
  intro p e s m below meth c Γ hnm
  have hn := hI.1
  have hn2 := hI.2.1
  refine m_in h ?_
  have hE : ∀ k : Int32, ¬ k = 0 → kLeave A ow z c0 = k → xJ p l e ({ frames := 3, cells := 0, slots := 0, locals := 140 } : Room) s m ([.ref o, .int ow, .int z, .int c0] : List Value).toArray below meth c G 5 (MQ below (xQ G embI (fun r w' => r = (gLeave A L ow z c0).1 ∧ mP G o ad (gLeave A L ow z c0).2.1 (gLeave A L ow z c0).2.2 w w')) ([.ref o, .int ow, .int z, .int c0] : List Value).toArray s ({ frames := 3, cells := 0, slots := 0, locals := 140 } : Room).cells ({ frames := 3, cells := 0, slots := 0, locals := 140 } : Room).slots (xA G)) (mP G o ad A L w) 0 0 70 [(0, .ref o), (1, .int ow), (2, .int z), (3, .int c0)] [.int k, .ref o] := by
    intro k h0 hk
    refine x_invV (emb := embI) (ci := 4) (rm := ({ frames := 0, cells := 0, slots := 0, locals := 0 } : Room)) Γ [.int k] (fun w1 r w2 => bq (k = 0) r ∧ mP G o ad (mU (A) 19 0 k) (L) w1 w2) rfl (fun w1 h1 => t_isFine h1.1) m_obj rfl k_656 k_6 k_653 k_655 s_24 hd_X3_isFine ⟨Nat.le_of_ble_eq_true rfl, Nat.le_of_ble_eq_true rfl⟩ ⟨Nat.le_of_ble_eq_true rfl, Nat.le_of_ble_eq_true rfl⟩ (Nat.le_of_ble_eq_true rfl) dX3_leave_70 (fun r => ?_)
    refine m_then (A' := mU (A) 19 0 k) (L' := L) (fun q => ?_)
    refine x_if_ne (tgt := 78) Γ dX3_leave_73 (by decide) (fun c73 => absurd (q.zero h0) c73) (fun c73 => ?_)
    refine x_iconst (v := 0) Γ dX3_leave_76 (by decide) ?_
    refine x_iret Γ rfl rfl (fun w2 e2 => ?_) ⟨Nat.le_of_ble_eq_true rfl, Nat.le_of_ble_eq_true rfl⟩ dX3_leave_77
    unfold gLeave
    rw [fin_no hk h0]
    exact ⟨rfl, e2⟩
  refine x_iload_n Γ dX3_leave_0 rfl rfl ?_
  refine x_iconst (v := 0) Γ dX3_leave_1 (by decide) ?_
  refine x_bipush (v := 7) Γ dX3_leave_2 (by decide) ?_
  refine x_invS (emb := embI) (rm := ({ frames := 0, cells := 0, slots := 0, locals := 0 } : Room)) Γ [.int (ow), .int (0), .int (7)] (fun w1 r w2 => bq (rIn (0) (7) (ow)) r ∧ w2 = w1) rfl (fun w1 h1 => t_in) k_652 k_6 k_650 k_651 hd_X3_in ⟨Nat.le_of_ble_eq_true rfl, Nat.le_of_ble_eq_true rfl⟩ ⟨Nat.le_of_ble_eq_true rfl, Nat.le_of_ble_eq_true rfl⟩ (Nat.le_of_ble_eq_true rfl) dX3_leave_4 (fun r => ?_)
  refine m_same (fun q4 => ?_)
  refine x_if_eq (tgt := 26) Γ dX3_leave_7 (by decide) (fun c7 => ?_) (fun c7 => ?_)
  · have hk : kLeave A ow z c0 = 1 := by
      unfold kLeave
      exact if_pos (fun y => by first | exact q4.eq c7 y.1 | exact q13.eq c16 y.2.1 | exact q20.eq c23 y.2.2)
    refine x_iconst (v := 1) Γ dX3_leave_26 (by decide) ?_
    refine x_goto (tgt := 31) Γ dX3_leave_27 (by decide) ?_
    refine x_istore Γ dX3_leave_31 rfl (by decide) ?_
    refine x_aload_n Γ dX3_leave_33 rfl rfl ?_
    refine x_iload Γ dX3_leave_34 rfl ?_
    refine x_if_ne (tgt := 68) Γ dX3_leave_36 (by decide) (fun c36 => ?_) (fun c36 => absurd c36 (by decide))
    refine x_iload Γ dX3_leave_68 rfl ?_
    refine x_lv [0, 1, 2, 3] rfl ?_
    exact hE 1 (by decide) hk
  · refine x_iload_n Γ dX3_leave_10 rfl rfl ?_
    refine x_iconst (v := 1) Γ dX3_leave_11 (by decide) ?_
    refine x_iconst (v := 3) Γ dX3_leave_12 (by decide) ?_
    refine x_invS (emb := embI) (rm := ({ frames := 0, cells := 0, slots := 0, locals := 0 } : Room)) Γ [.int (z), .int (1), .int (3)] (fun w1 r w2 => bq (rIn (1) (3) (z)) r ∧ w2 = w1) rfl (fun w1 h1 => t_in) k_652 k_6 k_650 k_651 hd_X3_in ⟨Nat.le_of_ble_eq_true rfl, Nat.le_of_ble_eq_true rfl⟩ ⟨Nat.le_of_ble_eq_true rfl, Nat.le_of_ble_eq_true rfl⟩ (Nat.le_of_ble_eq_true rfl) dX3_leave_13 (fun r => ?_)
    refine m_same (fun q13 => ?_)
    refine x_if_eq (tgt := 26) Γ dX3_leave_16 (by decide) (fun c16 => ?_) (fun c16 => ?_)
    · have hk : kLeave A ow z c0 = 1 := by
        unfold kLeave
        exact if_pos (fun y => by first | exact q4.eq c7 y.1 | exact q13.eq c16 y.2.1 | exact q20.eq c23 y.2.2)
      refine x_iconst (v := 1) Γ dX3_leave_26 (by decide) ?_
      refine x_goto (tgt := 31) Γ dX3_leave_27 (by decide) ?_
      refine x_istore Γ dX3_leave_31 rfl (by decide) ?_
      refine x_aload_n Γ dX3_leave_33 rfl rfl ?_
      refine x_iload Γ dX3_leave_34 rfl ?_
      refine x_if_ne (tgt := 68) Γ dX3_leave_36 (by decide) (fun c36 => ?_) (fun c36 => absurd c36 (by decide))
      refine x_iload Γ dX3_leave_68 rfl ?_
      refine x_lv [0, 1, 2, 3] rfl ?_
      exact hE 1 (by decide) hk
    · refine x_iload_n Γ dX3_leave_19 rfl rfl ?_
      refine x_invS (emb := embI) (rm := ({ frames := 1, cells := 0, slots := 0, locals := 40 } : Room)) Γ [.int (c0)] (fun w1 r w2 => bq (rIn 0 4 (c0)) r ∧ w2 = w1) rfl (fun w1 h1 => t_isCounter) k_649 k_6 k_647 k_648 hd_X3_isCounter ⟨Nat.le_of_ble_eq_true rfl, Nat.le_of_ble_eq_true rfl⟩ ⟨Nat.le_of_ble_eq_true rfl, Nat.le_of_ble_eq_true rfl⟩ (Nat.le_of_ble_eq_true rfl) dX3_leave_20 (fun r => ?_)
      refine m_same (fun q20 => ?_)
      refine x_if_ne (tgt := 30) Γ dX3_leave_23 (by decide) (fun c23 => ?_) (fun c23 => ?_)
      · obtain ⟨ci, hci, rfl⟩ := rIn_nat (M := 4) (n := 4) (by decide) (q20.ne c23)
        have hR : rIn 0 7 ow ∧ rIn 1 3 z ∧ rIn 0 4 (nI ci) := ⟨q4.ne c7, q13.ne c16, q20.ne c23⟩
        refine x_iconst (v := 0) Γ dX3_leave_30 (by decide) ?_
        refine x_istore Γ dX3_leave_31 rfl (by decide) ?_
        refine x_aload_n Γ dX3_leave_33 rfl rfl ?_
        refine x_iload Γ dX3_leave_34 rfl ?_
        refine x_if_ne (tgt := 68) Γ dX3_leave_36 (by decide) (fun c36 => absurd (rfl) c36) (fun c36 => ?_)
        refine x_aload_n Γ dX3_leave_39 rfl rfl ?_
        refine m_geti Γ 5 (by decide) (by decide) (fun _ => rfl) k_583 rfl dX3_leave_40 ?_
        refine x_bipush (v := 24) Γ dX3_leave_43 (by decide) ?_
        refine x_icmp_eq (tgt := 64) Γ dX3_leave_45 (by decide) (fun c45 => ?_) (fun c45 => ?_)
        · have hk : kLeave A ow z (nI ci) = 2 := by
            unfold kLeave
            rw [if_neg (not_not_intro hR), hn, ixn2 (t := n) (by omega), ixn (t := ci) (by omega), if_pos (by first | exact Or.inl (hn ▸ c45) | exact Or.inr (Int32.not_le.mp c61))]
          refine x_iconst (v := 2) Γ dX3_leave_64 (by decide) ?_
          refine x_goto (tgt := 70) Γ dX3_leave_65 (by decide) ?_
          refine x_lv [0, 1, 2, 3] rfl ?_
          exact hE 2 (by decide) hk
        · refine x_aload_n Γ dX3_leave_48 rfl rfl ?_
          refine x_iload_n Γ dX3_leave_49 rfl rfl ?_
          refine x_invV (emb := embI) (ci := 4) (rm := ({ frames := 0, cells := 0, slots := 0, locals := 0 } : Room)) Γ [.int (nI ci)] (fun w1 r w2 => r = ldF A (nI ci) n ∧ mP G o ad (A) (L) w1 w2) rfl (fun w1 h1 => t_loadOf h1.1 hI) m_obj rfl k_668 k_6 k_665 k_667 s_25 hd_X3_loadOf ⟨Nat.le_of_ble_eq_true rfl, Nat.le_of_ble_eq_true rfl⟩ ⟨Nat.le_of_ble_eq_true rfl, Nat.le_of_ble_eq_true rfl⟩ (Nat.le_of_ble_eq_true rfl) dX3_leave_50 (fun r => ?_)
          refine m_then (A' := A) (L' := L) (fun e50 => ?_)
          rw [e50]
          refine x_iload_n Γ dX3_leave_53 rfl rfl ?_
          refine x_iadd Γ dX3_leave_54 ?_
          refine x_aload_n Γ dX3_leave_55 rfl rfl ?_
          refine m_geta Γ 0 (by decide) (fun _ => rfl) k_578 rfl dX3_leave_56 ?_
          refine x_iload_n Γ dX3_leave_59 rfl rfl ?_
          refine m_ald Γ rfl rfl (by decide) (by show _ < 5; omega) dX3_leave_60 ?_
          refine x_icmp_le (tgt := 68) Γ dX3_leave_61 (by decide) (fun c61 => ?_) (fun c61 => ?_)
          · have hk : kLeave A ow z (nI ci) = 0 := by
              unfold kLeave
              rw [if_neg (not_not_intro hR), hn, ixn2 (t := n) (by omega), ixn (t := ci) (by omega), if_neg (fun y => y.elim (fun y => c45 (hn.trans y)) (fun y => Int32.not_lt.mpr c61 y))]
            have hlt : n < 24 := by
              rcases Nat.lt_or_ge n 24 with h9 | h9
              · exact h9
              · exact absurd (hn.trans (by rw [show n = 24 by omega]; rfl)) c45
            refine x_iload Γ dX3_leave_68 rfl ?_
            refine x_invV (emb := embI) (ci := 4) (rm := ({ frames := 0, cells := 0, slots := 0, locals := 0 } : Room)) Γ [.int 0] (fun w1 r w2 => bq (0 = 0) r ∧ mP G o ad (mU (A) 19 0 0) (L) w1 w2) rfl (fun w1 h1 => t_isFine h1.1) m_obj rfl k_656 k_6 k_653 k_655 s_24 hd_X3_isFine ⟨Nat.le_of_ble_eq_true rfl, Nat.le_of_ble_eq_true rfl⟩ ⟨Nat.le_of_ble_eq_true rfl, Nat.le_of_ble_eq_true rfl⟩ (Nat.le_of_ble_eq_true rfl) dX3_leave_70 (fun r => ?_)
            refine m_then (A' := mU (A) 19 0 0) (L' := L) (fun q => ?_)
            refine x_if_ne (tgt := 78) Γ dX3_leave_73 (by decide) (fun c73 => ?_) (fun c73 => absurd c73 (q.one rfl))
            refine x_aload_n Γ dX3_leave_78 rfl rfl ?_
            refine m_geta Γ 6 (by decide) (fun _ => rfl) k_584 rfl dX3_leave_79 ?_
            refine x_aload_n Γ dX3_leave_82 rfl rfl ?_
            refine m_geti Γ 5 (by decide) (by decide) (fun _ => rfl) k_583 rfl dX3_leave_83 ?_
            refine x_iload_n Γ dX3_leave_86 rfl rfl ?_
            refine m_ast Γ hn rfl (by decide) (by show _ < 24; omega) dX3_leave_87 ?_
            refine x_aload_n Γ dX3_leave_88 rfl rfl ?_
            refine m_geta Γ 7 (by decide) (fun _ => rfl) k_585 rfl dX3_leave_89 ?_
            refine x_aload_n Γ dX3_leave_92 rfl rfl ?_
            refine m_geti Γ 5 (by decide) (by decide) (fun _ => rfl) k_583 rfl dX3_leave_93 ?_
            refine x_iload_n Γ dX3_leave_96 rfl rfl ?_
            refine m_ast Γ hn rfl (by decide) (by show _ < 24; omega) dX3_leave_97 ?_
            refine x_aload_n Γ dX3_leave_98 rfl rfl ?_
            refine m_geta Γ 8 (by decide) (fun _ => rfl) k_586 rfl dX3_leave_99 ?_
            refine x_aload_n Γ dX3_leave_102 rfl rfl ?_
            refine m_geti Γ 5 (by decide) (by decide) (fun _ => rfl) k_583 rfl dX3_leave_103 ?_
            refine x_bipush (v := 20) Γ dX3_leave_106 (by decide) ?_
            refine x_iload_n Γ dX3_leave_108 rfl rfl ?_
            refine x_imul Γ dX3_leave_109 ?_
            refine m_ast Γ hn rfl (by decide) (by show _ < 24; omega) dX3_leave_110 ?_
            refine x_aload_n Γ dX3_leave_111 rfl rfl ?_
            refine m_geta Γ 9 (by decide) (fun _ => rfl) k_587 rfl dX3_leave_112 ?_
            refine x_aload_n Γ dX3_leave_115 rfl rfl ?_
            refine m_geti Γ 5 (by decide) (by decide) (fun _ => rfl) k_583 rfl dX3_leave_116 ?_
            refine x_iload_n Γ dX3_leave_119 rfl rfl ?_
            refine m_ast Γ hn rfl (by decide) (by show _ < 24; omega) dX3_leave_120 ?_
            refine x_aload_n Γ dX3_leave_121 rfl rfl ?_
            refine m_geta Γ 10 (by decide) (fun _ => rfl) k_588 rfl dX3_leave_122 ?_
            refine x_aload_n Γ dX3_leave_125 rfl rfl ?_
            refine m_geti Γ 5 (by decide) (by decide) (fun _ => rfl) k_583 rfl dX3_leave_126 ?_
            refine x_aload_n Γ dX3_leave_129 rfl rfl ?_
            refine m_geti Γ 4 (by decide) (by decide) (fun _ => rfl) k_582 rfl dX3_leave_130 ?_
            refine m_ast Γ hn rfl (by decide) (by show _ < 24; omega) dX3_leave_133 ?_
            refine x_aload_n Γ dX3_leave_134 rfl rfl ?_
            refine m_geta Γ 14 (by decide) (fun _ => rfl) k_592 rfl dX3_leave_135 ?_
            refine x_aload_n Γ dX3_leave_138 rfl rfl ?_
            refine m_geti Γ 5 (by decide) (by decide) (fun _ => rfl) k_583 rfl dX3_leave_139 ?_
            refine x_iconst (v := (-1)) Γ dX3_leave_142 (by decide) ?_
            refine m_ast Γ hn rfl (by decide) (by show _ < 24; omega) dX3_leave_143 ?_
            refine x_aload_n Γ dX3_leave_144 rfl rfl ?_
            refine m_geta Γ 15 (by decide) (fun _ => rfl) k_593 rfl dX3_leave_145 ?_
            refine x_aload_n Γ dX3_leave_148 rfl rfl ?_
            refine m_geti Γ 5 (by decide) (by decide) (fun _ => rfl) k_583 rfl dX3_leave_149 ?_
            refine x_iconst (v := (-1)) Γ dX3_leave_152 (by decide) ?_
            refine m_ast Γ hn rfl (by decide) (by show _ < 24; omega) dX3_leave_153 ?_
            refine x_aload_n Γ dX3_leave_154 rfl rfl ?_
            refine x_dup Γ dX3_leave_155 rfl ?_
            refine m_geti Γ 5 (by decide) (by decide) (fun _ => rfl) k_583 rfl dX3_leave_156 ?_
            refine x_iconst (v := 1) Γ dX3_leave_159 (by decide) ?_
            refine x_iadd Γ dX3_leave_160 ?_
            refine m_puti Γ 5 (by decide) (by decide) (fun _ => rfl) k_583 rfl rfl rfl dX3_leave_161 ?_
            refine x_aload_n Γ dX3_leave_164 rfl rfl ?_
            refine m_geti Γ 5 (by decide) (by decide) (fun _ => rfl) k_583 rfl dX3_leave_165 ?_
            refine x_iconst (v := 1) Γ dX3_leave_168 (by decide) ?_
            refine x_isub Γ dX3_leave_169 ?_
            rw [mU_eq]
            refine x_iret Γ rfl rfl (fun w2 e2 => ?_) ⟨Nat.le_of_ble_eq_true rfl, Nat.le_of_ble_eq_true rfl⟩ dX3_leave_170
            unfold gLeave
            rw [fin_ok hk, hn, ixn2 (by omega)]
            refine ⟨?_, e2⟩
            show A 5 0 + 1 - 1 = _
            rw [hn, nI_1, nI_m1 (by omega)]
            rfl
          · have hk : kLeave A ow z (nI ci) = 2 := by
              unfold kLeave
              rw [if_neg (not_not_intro hR), hn, ixn2 (t := n) (by omega), ixn (t := ci) (by omega), if_pos (by first | exact Or.inl (hn ▸ c45) | exact Or.inr (Int32.not_le.mp c61))]
            refine x_iconst (v := 2) Γ dX3_leave_64 (by decide) ?_
            refine x_goto (tgt := 70) Γ dX3_leave_65 (by decide) ?_
            refine x_lv [0, 1, 2, 3] rfl ?_
            exact hE 2 (by decide) hk
      · have hk : kLeave A ow z c0 = 1 := by
          unfold kLeave
          exact if_pos (fun y => by first | exact q4.eq c7 y.1 | exact q13.eq c16 y.2.1 | exact q20.eq c23 y.2.2)
        refine x_iconst (v := 1) Γ dX3_leave_26 (by decide) ?_
        refine x_goto (tgt := 31) Γ dX3_leave_27 (by decide) ?_
        refine x_istore Γ dX3_leave_31 rfl (by decide) ?_
        refine x_aload_n Γ dX3_leave_33 rfl rfl ?_
        refine x_iload Γ dX3_leave_34 rfl ?_
        refine x_if_ne (tgt := 68) Γ dX3_leave_36 (by decide) (fun c36 => ?_) (fun c36 => absurd c36 (by decide))
        refine x_iload Γ dX3_leave_68 rfl ?_
        refine x_lv [0, 1, 2, 3] rfl ?_
        exact hE 1 (by decide) hk
set_option maxRecDepth 100000 in
theorem tm_want {o : Nat} {ad : Nat → Nat} {A : xS} {L : List Nat} {w : xW} (h : MRep G w o ad A L) {n : Nat} {x c0 : Int32} (hI : aI A n) (hLI : lI A n L) : xMet l G yX3_want cX3_want 4 (some .int) ({ frames := 3, cells := 0, slots := 0, locals := 140 } : Room) [.ref o, .int x, .int c0] w embI (fun r w' => r = (gWant A L x c0).1 ∧ mP G o ad (gWant A L x c0).2.1 (gWant A L x c0).2.2 w w') := by
  refine xMet_of (by decide) (Nat.le_of_ble_eq_true rfl) ?_
  intro p e s m below meth c Γ hnm
  have hn := hI.1
  have hn2 := hI.2.1
  refine m_in h ?_
  have hE : ∀ k : Int32, ¬ k = 0 → kWant A x c0 = k → xJ p l e ({ frames := 3, cells := 0, slots := 0, locals := 140 } : Room) s m ([.ref o, .int x, .int c0] : List Value).toArray below meth c G 4 (MQ below (xQ G embI (fun r w' => r = (gWant A L x c0).1 ∧ mP G o ad (gWant A L x c0).2.1 (gWant A L x c0).2.2 w w')) ([.ref o, .int x, .int c0] : List Value).toArray s ({ frames := 3, cells := 0, slots := 0, locals := 140 } : Room).cells ({ frames := 3, cells := 0, slots := 0, locals := 140 } : Room).slots (xA G)) (mP G o ad A L w) 0 0 49 [(0, .ref o), (1, .int x), (2, .int c0)] [.int k, .ref o] := by
    intro k h0 hk
    refine x_invV (emb := embI) (ci := 4) (rm := ({ frames := 0, cells := 0, slots := 0, locals := 0 } : Room)) Γ [.int k] (fun w1 r w2 => bq (k = 0) r ∧ mP G o ad (mU (A) 19 0 k) (L) w1 w2) rfl (fun w1 h1 => t_isFine h1.1) m_obj rfl k_656 k_6 k_653 k_655 s_24 hd_X3_isFine ⟨Nat.le_of_ble_eq_true rfl, Nat.le_of_ble_eq_true rfl⟩ ⟨Nat.le_of_ble_eq_true rfl, Nat.le_of_ble_eq_true rfl⟩ (Nat.le_of_ble_eq_true rfl) dX3_want_49 (fun r => ?_)
    refine m_then (A' := mU (A) 19 0 k) (L' := L) (fun q => ?_)
    refine x_if_ne (tgt := 57) Γ dX3_want_52 (by decide) (fun c52 => absurd (q.zero h0) c52) (fun c52 => ?_)
    refine x_iconst (v := 0) Γ dX3_want_55 (by decide) ?_
    refine x_iret Γ rfl rfl (fun w2 e2 => ?_) ⟨Nat.le_of_ble_eq_true rfl, Nat.le_of_ble_eq_true rfl⟩ dX3_want_56
    unfold gWant
    rw [fin_no hk h0]
    exact ⟨rfl, e2⟩
  refine x_aload_n Γ dX3_want_0 rfl rfl ?_
  refine x_iload_n Γ dX3_want_1 rfl rfl ?_
  refine x_invV (emb := embI) (ci := 4) (rm := ({ frames := 1, cells := 0, slots := 0, locals := 40 } : Room)) Γ [.int x] (fun w1 r w2 => bq (kT (A) (x)) r ∧ mP G o ad (A) (L) w1 w2) rfl (fun w1 h1 => t_isThing h1.1) m_obj rfl k_676 k_6 k_673 k_675 s_26 hd_X3_isThing ⟨Nat.le_of_ble_eq_true rfl, Nat.le_of_ble_eq_true rfl⟩ ⟨Nat.le_of_ble_eq_true rfl, Nat.le_of_ble_eq_true rfl⟩ (Nat.le_of_ble_eq_true rfl) dX3_want_2 (fun r => ?_)
  refine m_then (A' := A) (L' := L) (fun q2 => ?_)
  refine x_if_ne (tgt := 12) Γ dX3_want_5 (by decide) (fun c5 => ?_) (fun c5 => ?_)
  · obtain ⟨t, htn, ht, rfl⟩ := aI_kT hI (q2.ne c5)
    have hT := aI_toT hI htn
    refine x_iload_n Γ dX3_want_12 rfl rfl ?_
    refine x_invS (emb := embI) (rm := ({ frames := 1, cells := 0, slots := 0, locals := 40 } : Room)) Γ [.int (c0)] (fun w1 r w2 => bq (rIn 0 4 (c0)) r ∧ w2 = w1) rfl (fun w1 h1 => t_isCounter) k_649 k_6 k_647 k_648 hd_X3_isCounter ⟨Nat.le_of_ble_eq_true rfl, Nat.le_of_ble_eq_true rfl⟩ ⟨Nat.le_of_ble_eq_true rfl, Nat.le_of_ble_eq_true rfl⟩ (Nat.le_of_ble_eq_true rfl) dX3_want_13 (fun r => ?_)
    refine m_same (fun q13 => ?_)
    refine x_if_ne (tgt := 23) Γ dX3_want_16 (by decide) (fun c16 => ?_) (fun c16 => ?_)
    · refine x_aload_n Γ dX3_want_23 rfl rfl ?_
      refine x_iload_n Γ dX3_want_24 rfl rfl ?_
      refine x_invV (emb := embI) (ci := 4) (rm := ({ frames := 0, cells := 0, slots := 0, locals := 0 } : Room)) Γ [.int (nI t)] (fun w1 r w2 => bq ((A) 9 t < 5) r ∧ mP G o ad (A) (L) w1 w2) rfl (fun w1 h1 => t_isAt h1.1 (by omega)) m_obj rfl k_680 k_6 k_677 k_679 s_27 hd_X3_isAt ⟨Nat.le_of_ble_eq_true rfl, Nat.le_of_ble_eq_true rfl⟩ ⟨Nat.le_of_ble_eq_true rfl, Nat.le_of_ble_eq_true rfl⟩ (Nat.le_of_ble_eq_true rfl) dX3_want_25 (fun r => ?_)
      refine m_then (A' := A) (L' := L) (fun q25 => ?_)
      refine x_if_eq (tgt := 41) Γ dX3_want_28 (by decide) (fun c28 => ?_) (fun c28 => ?_)
      · have hk : kWant A (nI t) c0 = 3 := by
          unfold kWant
          rw [if_neg (not_not_intro hT), if_neg (not_not_intro (q13.ne c16)), ixn ht, if_pos (by first | exact Or.inl (q25.eq c28) | exact Or.inr c38)]
        refine x_iconst (v := 3) Γ dX3_want_41 (by decide) ?_
        refine x_goto (tgt := 46) Γ dX3_want_42 (by decide) ?_
        refine x_istore_n Γ dX3_want_46 rfl rfl (by decide) ?_
        refine x_aload_n Γ dX3_want_47 rfl rfl ?_
        refine x_iload_n Γ dX3_want_48 rfl rfl ?_
        refine x_lv [0, 1, 2] rfl ?_
        exact hE 3 (by decide) hk
      · refine x_aload_n Γ dX3_want_31 rfl rfl ?_
        refine m_geta Γ 9 (by decide) (fun _ => rfl) k_587 rfl dX3_want_32 ?_
        refine x_iload_n Γ dX3_want_35 rfl rfl ?_
        refine m_ald Γ rfl rfl (by decide) (by show _ < 24; omega) dX3_want_36 ?_
        refine x_iload_n Γ dX3_want_37 rfl rfl ?_
        refine x_icmp_ne (tgt := 45) Γ dX3_want_38 (by decide) (fun c38 => ?_) (fun c38 => ?_)
        · have hk : kWant A (nI t) c0 = 0 := by
            unfold kWant
            rw [if_neg (not_not_intro hT), if_neg (not_not_intro (q13.ne c16)), ixn ht, if_neg (fun y => y.elim (fun y => y (q25.ne c28)) (fun y => c38 y))]
          have hlt := fFor_lt hLI.2.1 (fun q hq => (hLI.2.2 q hq).1) htn
          have hl := hLI.1
          have hL : ∀ q ∈ L, q < n := fun q hq => (hLI.2.2 q hq).1
          refine x_iconst (v := 0) Γ dX3_want_45 (by decide) ?_
          refine x_istore_n Γ dX3_want_46 rfl rfl (by decide) ?_
          refine x_aload_n Γ dX3_want_47 rfl rfl ?_
          refine x_iload_n Γ dX3_want_48 rfl rfl ?_
          refine x_invV (emb := embI) (ci := 4) (rm := ({ frames := 0, cells := 0, slots := 0, locals := 0 } : Room)) Γ [.int 0] (fun w1 r w2 => bq (0 = 0) r ∧ mP G o ad (mU (A) 19 0 0) (L) w1 w2) rfl (fun w1 h1 => t_isFine h1.1) m_obj rfl k_656 k_6 k_653 k_655 s_24 hd_X3_isFine ⟨Nat.le_of_ble_eq_true rfl, Nat.le_of_ble_eq_true rfl⟩ ⟨Nat.le_of_ble_eq_true rfl, Nat.le_of_ble_eq_true rfl⟩ (Nat.le_of_ble_eq_true rfl) dX3_want_49 (fun r => ?_)
          refine m_then (A' := mU (A) 19 0 0) (L' := L) (fun q => ?_)
          refine x_if_ne (tgt := 57) Γ dX3_want_52 (by decide) (fun c52 => ?_) (fun c52 => absurd c52 (q.one rfl))
          refine x_aload_n Γ dX3_want_57 rfl rfl ?_
          refine x_iload_n Γ dX3_want_58 rfl rfl ?_
          refine x_invV (emb := embV) (ci := 4) (rm := ({ frames := 0, cells := 0, slots := 0, locals := 0 } : Room)) Γ [.int (nI t)] (fun w1 _ w2 => mP G o ad (mU (mU A 19 0 0) 15 t (-1)) (fFor t L) w1 w2) rfl (fun w1 h1 => t_forgets h1.1 (by omega) (by omega) (fun q hq => by have := hL q hq; omega)) m_obj rfl k_684 k_6 k_681 k_683 s_28 hd_X3_forgets ⟨Nat.le_of_ble_eq_true rfl, Nat.le_of_ble_eq_true rfl⟩ ⟨Nat.le_of_ble_eq_true rfl, Nat.le_of_ble_eq_true rfl⟩ (Nat.le_of_ble_eq_true rfl) dX3_want_59 (fun _ => ?_)
          refine m_then0 (A' := mU (mU A 19 0 0) 15 t (-1)) (L' := fFor t L) ?_
          refine x_aload_n Γ dX3_want_62 rfl rfl ?_
          refine m_geta Γ 15 (by decide) (fun _ => rfl) k_593 rfl dX3_want_63 ?_
          refine x_iload_n Γ dX3_want_66 rfl rfl ?_
          refine x_iload_n Γ dX3_want_67 rfl rfl ?_
          refine m_ast Γ rfl rfl (by decide) (by show _ < 24; omega) dX3_want_68 ?_
          refine x_aload_n Γ dX3_want_69 rfl rfl ?_
          refine m_geta Γ 16 (by decide) (fun _ => rfl) k_594 rfl dX3_want_70 ?_
          refine x_aload_n Γ dX3_want_73 rfl rfl ?_
          refine m_getw Γ k_595 dX3_want_74 ?_
          refine x_iload_n Γ dX3_want_77 rfl rfl ?_
          refine m_astw Γ (t := t) (L := fFor t L) (by omega) dX3_want_78 ?_
          refine x_aload_n Γ dX3_want_79 rfl rfl ?_
          refine x_dup Γ dX3_want_80 rfl ?_
          refine m_getw2 Γ k_595 dX3_want_81 ?_
          refine x_iconst (v := 1) Γ dX3_want_84 (by decide) ?_
          refine x_iadd Γ dX3_want_85 ?_
          rw [nI_1]
          refine m_putw Γ k_595 dX3_want_86 ?_
          refine x_aload_n Γ dX3_want_89 rfl rfl ?_
          refine m_getw Γ k_595 dX3_want_90 ?_
          refine x_iret Γ rfl rfl (fun w2 e2 => ?_) ⟨Nat.le_of_ble_eq_true rfl, Nat.le_of_ble_eq_true rfl⟩ dX3_want_93
          unfold gWant
          rw [fin_ok hk, ixn ht]
          exact ⟨by rw [List.length_append]; rfl, e2⟩
        · have hk : kWant A (nI t) c0 = 3 := by
            unfold kWant
            rw [if_neg (not_not_intro hT), if_neg (not_not_intro (q13.ne c16)), ixn ht, if_pos (by first | exact Or.inl (q25.eq c28) | exact Or.inr c38)]
          refine x_iconst (v := 3) Γ dX3_want_41 (by decide) ?_
          refine x_goto (tgt := 46) Γ dX3_want_42 (by decide) ?_
          refine x_istore_n Γ dX3_want_46 rfl rfl (by decide) ?_
          refine x_aload_n Γ dX3_want_47 rfl rfl ?_
          refine x_iload_n Γ dX3_want_48 rfl rfl ?_
          refine x_lv [0, 1, 2] rfl ?_
          exact hE 3 (by decide) hk
    · have hk : kWant A (nI t) c0 = 2 := by
        unfold kWant
        rw [if_neg (not_not_intro hT), if_pos (q13.eq c16)]
      refine x_iconst (v := 2) Γ dX3_want_19 (by decide) ?_
      refine x_goto (tgt := 46) Γ dX3_want_20 (by decide) ?_
      refine x_istore_n Γ dX3_want_46 rfl rfl (by decide) ?_
      refine x_aload_n Γ dX3_want_47 rfl rfl ?_
      refine x_iload_n Γ dX3_want_48 rfl rfl ?_
      refine x_lv [0, 1, 2] rfl ?_
      exact hE 2 (by decide) hk
  · have hT := q2.eq c5
    have hk : kWant A x c0 = 1 := by
      unfold kWant
      exact if_pos (q2.eq c5)
    refine x_iconst (v := 1) Γ dX3_want_8 (by decide) ?_
    refine x_goto (tgt := 46) Γ dX3_want_9 (by decide) ?_
    refine x_istore_n Γ dX3_want_46 rfl rfl (by decide) ?_
    refine x_aload_n Γ dX3_want_47 rfl rfl ?_
    refine x_iload_n Γ dX3_want_48 rfl rfl ?_
    refine x_lv [0, 1, 2] rfl ?_
    exact hE 1 (by decide) hk
set_option maxRecDepth 100000 in
theorem t_sells {o : Nat} {ad : Nat → Nat} {A : xS} {L : List Nat} {w : xW} (h : MRep G w o ad A L) {n t : Nat} (hI : aI A n) (ht : t < 24) (hL : ∀ q ∈ L, q < n) (hl : L.length ≤ n) : xMet l G yX3_sells cX3_sells 4 none ({ frames := 1, cells := 0, slots := 0, locals := 40 } : Room) [.ref o, .int (nI t)] w embV (fun _ w' => mP G o ad (fSell t A) (fFor t L) w w') := by
  refine xMet_of (by decide) (Nat.le_of_ble_eq_true rfl) ?_
  intro p e s m below meth c Γ hnm
  have hn2 := hI.2.1
  obtain ⟨ow, how8, how⟩ := hI.2.2.2.1 t ht
  obtain ⟨lr, hlr8, hlr⟩ := hI.2.2.2.2 t ht
  refine m_in h ?_
  have tail : ∀ A1, A1 = sA1 A t → xJ p l e ({ frames := 1, cells := 0, slots := 0, locals := 40 } : Room) s m ([.ref o, .int (nI t)] : List Value).toArray below meth c G 4 (MQ below (xQ G embV (fun _ w' => mP G o ad (fSell t A) (fFor t L) w w')) ([.ref o, .int (nI t)] : List Value).toArray s ({ frames := 1, cells := 0, slots := 0, locals := 40 } : Room).cells ({ frames := 1, cells := 0, slots := 0, locals := 40 } : Room).slots (xA G)) (mP G o ad A1 L w) 0 0 47 [(0, .ref o), (1, .int (nI t)), (2, .int (A 8 t)), (3, .int (sBack A t))] [] := by
    intro A1 hA1
    have h2 : ∀ j, j ≠ 2 → A1 j = A j := fun j hj => by rw [hA1]; exact sA1_j hj
    have t76 : ∀ v, v = sPaid A t → xJ p l e ({ frames := 1, cells := 0, slots := 0, locals := 40 } : Room) s m ([.ref o, .int (nI t)] : List Value).toArray below meth c G 4 (MQ below (xQ G embV (fun _ w' => mP G o ad (fSell t A) (fFor t L) w w')) ([.ref o, .int (nI t)] : List Value).toArray s ({ frames := 1, cells := 0, slots := 0, locals := 40 } : Room).cells ({ frames := 1, cells := 0, slots := 0, locals := 40 } : Room).slots (xA G)) (mP G o ad A1 L w) 0 0 76 [(0, .ref o), (1, .int (nI t)), (2, .int (A 8 t - sBack A t))] [.int v, .int (nI t), .ref (ad 11)] := by
      intro v hv
      subst hv
      refine m_ast Γ rfl rfl (by decide) (by show _ < 24; omega) dX3_sells_76 ?_
      refine x_aload_n Γ dX3_sells_77 rfl rfl ?_
      refine x_dup Γ dX3_sells_78 rfl ?_
      refine m_getiv Γ 3 (congrFun (h2 3 (by decide)) 0 : mU A1 11 t (sPaid A t) 3 0 = A 3 0) (by decide) (by decide) (fun _ => rfl) k_581 rfl dX3_sells_79 ?_
      refine x_aload_n Γ dX3_sells_82 rfl rfl ?_
      refine m_geta Γ 11 (by decide) (fun _ => rfl) k_589 rfl dX3_sells_83 ?_
      refine x_iload_n Γ dX3_sells_86 rfl rfl ?_
      refine m_aldv Γ (mU_eq A1 11 t (sPaid A t)) rfl rfl (by decide) (by show _ < 24; omega) dX3_sells_87 ?_
      refine x_iadd Γ dX3_sells_88 ?_
      refine m_puti Γ 3 (by decide) (by decide) (fun _ => rfl) k_581 rfl rfl rfl dX3_sells_89 ?_
      refine x_aload_n Γ dX3_sells_92 rfl rfl ?_
      refine m_geta Γ 2 (by decide) (fun _ => rfl) k_580 rfl dX3_sells_93 ?_
      refine x_aload_n Γ dX3_sells_96 rfl rfl ?_
      refine m_geta Γ 6 (by decide) (fun _ => rfl) k_584 rfl dX3_sells_97 ?_
      refine x_iload_n Γ dX3_sells_100 rfl rfl ?_
      refine m_aldv Γ ((congrFun (h2 6 (by decide)) t).trans how) rfl rfl (by decide) (by show _ < 24; omega) dX3_sells_101 ?_
      refine x_dup2 Γ dX3_sells_102 rfl rfl ?_
      refine m_ald Γ rfl rfl (by decide) (by show ow < 8; omega) dX3_sells_103 ?_
      refine x_iload_n Γ dX3_sells_104 rfl rfl ?_
      refine x_aload_n Γ dX3_sells_105 rfl rfl ?_
      refine m_geta Γ 11 (by decide) (fun _ => rfl) k_589 rfl dX3_sells_106 ?_
      refine x_iload_n Γ dX3_sells_109 rfl rfl ?_
      refine m_aldv Γ (mU_eq A1 11 t (sPaid A t)) rfl rfl (by decide) (by show _ < 24; omega) dX3_sells_110 ?_
      refine x_isub Γ dX3_sells_111 ?_
      refine x_iadd Γ dX3_sells_112 ?_
      refine m_ast Γ rfl rfl (by decide) (by show ow < 8; omega) dX3_sells_113 ?_
      refine x_aload_n Γ dX3_sells_114 rfl rfl ?_
      refine m_geta Γ 12 (by decide) (fun _ => rfl) k_590 rfl dX3_sells_115 ?_
      refine x_iload_n Γ dX3_sells_118 rfl rfl ?_
      refine x_iconst (v := 0) Γ dX3_sells_119 (by decide) ?_
      refine m_ast Γ rfl rfl (by decide) (by show _ < 24; omega) dX3_sells_120 ?_
      refine x_aload_n Γ dX3_sells_121 rfl rfl ?_
      refine m_geta Γ 14 (by decide) (fun _ => rfl) k_592 rfl dX3_sells_122 ?_
      refine x_iload_n Γ dX3_sells_125 rfl rfl ?_
      refine x_iconst (v := (-1)) Γ dX3_sells_126 (by decide) ?_
      refine m_ast Γ rfl rfl (by decide) (by show _ < 24; omega) dX3_sells_127 ?_
      refine x_aload_n Γ dX3_sells_128 rfl rfl ?_
      refine m_geta Γ 9 (by decide) (fun _ => rfl) k_587 rfl dX3_sells_129 ?_
      refine x_iload_n Γ dX3_sells_132 rfl rfl ?_
      refine x_bipush (v := 11) Γ dX3_sells_133 (by decide) ?_
      refine m_ast Γ rfl rfl (by decide) (by show _ < 24; omega) dX3_sells_135 ?_
      refine x_aload_n Γ dX3_sells_136 rfl rfl ?_
      refine x_iload_n Γ dX3_sells_137 rfl rfl ?_
      refine x_invV (emb := embV) (ci := 4) (rm := ({ frames := 0, cells := 0, slots := 0, locals := 0 } : Room)) Γ [.int (nI t)] (fun w1 _ w2 => mP G o ad (fSell t A) (fFor t L) w1 w2) rfl (fun w1 h1 => by have := t_forgets (l := l) h1.1 (t := t) ht (by omega) (fun q hq => by have := hL q hq; omega); unfold fSell sA3 sA2; rw [how, ixn (by omega), ← hA1]; exact this) m_obj rfl k_684 k_6 k_681 k_683 s_28 hd_X3_forgets ⟨Nat.le_of_ble_eq_true rfl, Nat.le_of_ble_eq_true rfl⟩ ⟨Nat.le_of_ble_eq_true rfl, Nat.le_of_ble_eq_true rfl⟩ (Nat.le_of_ble_eq_true rfl) dX3_sells_138 (fun _ => ?_)
      refine m_then0 (A' := fSell t A) (L' := fFor t L) ?_
      exact x_vret Γ rfl (fun w2 e2 => e2) ⟨Nat.le_of_ble_eq_true rfl, Nat.le_of_ble_eq_true rfl⟩ dX3_sells_141
    refine x_iload_n Γ dX3_sells_47 rfl rfl ?_
    refine x_iload_n Γ dX3_sells_48 rfl rfl ?_
    refine x_isub Γ dX3_sells_49 ?_
    refine x_istore_n Γ dX3_sells_50 rfl rfl (by decide) ?_
    refine x_aload_n Γ dX3_sells_51 rfl rfl ?_
    refine m_geta Γ 11 (by decide) (fun _ => rfl) k_589 rfl dX3_sells_52 ?_
    refine x_iload_n Γ dX3_sells_55 rfl rfl ?_
    refine x_aload_n Γ dX3_sells_56 rfl rfl ?_
    refine m_geta Γ 11 (by decide) (fun _ => rfl) k_589 rfl dX3_sells_57 ?_
    refine x_iload_n Γ dX3_sells_60 rfl rfl ?_
    refine m_aldv Γ (congrFun (h2 11 (by decide)) t) rfl rfl (by decide) (by show _ < 24; omega) dX3_sells_61 ?_
    refine x_iload_n Γ dX3_sells_62 rfl rfl ?_
    refine x_icmp_ge (tgt := 75) Γ dX3_sells_63 (by decide) (fun c63 => ?_) (fun c63 => ?_)
    · refine x_iload_n Γ dX3_sells_75 rfl rfl ?_
      refine x_lv [0, 1, 2] rfl ?_
      exact t76 _ (by unfold sPaid imn; first | rw [if_pos (Int32.not_le.mp c63)] | rw [if_neg (Int32.not_lt.mpr c63)])
    · refine x_aload_n Γ dX3_sells_66 rfl rfl ?_
      refine m_geta Γ 11 (by decide) (fun _ => rfl) k_589 rfl dX3_sells_67 ?_
      refine x_iload_n Γ dX3_sells_70 rfl rfl ?_
      refine m_aldv Γ (congrFun (h2 11 (by decide)) t) rfl rfl (by decide) (by show _ < 24; omega) dX3_sells_71 ?_
      refine x_goto (tgt := 76) Γ dX3_sells_72 (by decide) ?_
      refine x_lv [0, 1, 2] rfl ?_
      exact t76 _ (by unfold sPaid imn; first | rw [if_pos (Int32.not_le.mp c63)] | rw [if_neg (Int32.not_lt.mpr c63)])
  have t27 : ∀ v, v = sBack A t → xJ p l e ({ frames := 1, cells := 0, slots := 0, locals := 40 } : Room) s m ([.ref o, .int (nI t)] : List Value).toArray below meth c G 4 (MQ below (xQ G embV (fun _ w' => mP G o ad (fSell t A) (fFor t L) w w')) ([.ref o, .int (nI t)] : List Value).toArray s ({ frames := 1, cells := 0, slots := 0, locals := 40 } : Room).cells ({ frames := 1, cells := 0, slots := 0, locals := 40 } : Room).slots (xA G)) (mP G o ad A L w) 0 0 27 [(0, .ref o), (1, .int (nI t)), (2, .int (A 8 t))] [.int v] := by
    intro v hv
    subst hv
    refine x_istore_n Γ dX3_sells_27 rfl rfl (by decide) ?_
    refine x_iload_n Γ dX3_sells_28 rfl rfl ?_
    refine x_if_le (tgt := 47) Γ dX3_sells_29 (by decide) (fun c29 => ?_) (fun c29 => ?_)
    · refine x_lv [0, 1, 2, 3] rfl ?_
      exact tail A (by unfold sA1; rw [if_neg (Int32.not_lt.mpr c29)])
    · refine x_aload_n Γ dX3_sells_32 rfl rfl ?_
      refine m_geta Γ 2 (by decide) (fun _ => rfl) k_580 rfl dX3_sells_33 ?_
      refine x_aload_n Γ dX3_sells_36 rfl rfl ?_
      refine m_geta Γ 13 (by decide) (fun _ => rfl) k_591 rfl dX3_sells_37 ?_
      refine x_iload_n Γ dX3_sells_40 rfl rfl ?_
      refine m_aldv Γ hlr rfl rfl (by decide) (by show _ < 24; omega) dX3_sells_41 ?_
      refine x_dup2 Γ dX3_sells_42 rfl rfl ?_
      refine m_ald Γ rfl rfl (by decide) (by show lr < 8; omega) dX3_sells_43 ?_
      refine x_iload_n Γ dX3_sells_44 rfl rfl ?_
      refine x_iadd Γ dX3_sells_45 ?_
      refine m_ast Γ rfl rfl (by decide) (by show lr < 8; omega) dX3_sells_46 ?_
      refine x_lv [0, 1, 2, 3] rfl ?_
      exact tail _ (by unfold sA1; rw [if_pos (Int32.not_le.mp c29), hlr, ixn (by omega)])
  refine x_aload_n Γ dX3_sells_0 rfl rfl ?_
  refine m_geta Γ 8 (by decide) (fun _ => rfl) k_586 rfl dX3_sells_1 ?_
  refine x_iload_n Γ dX3_sells_4 rfl rfl ?_
  refine m_ald Γ rfl rfl (by decide) (by show _ < 24; omega) dX3_sells_5 ?_
  refine x_istore_n Γ dX3_sells_6 rfl rfl (by decide) ?_
  refine x_aload_n Γ dX3_sells_7 rfl rfl ?_
  refine m_geta Γ 12 (by decide) (fun _ => rfl) k_590 rfl dX3_sells_8 ?_
  refine x_iload_n Γ dX3_sells_11 rfl rfl ?_
  refine m_ald Γ rfl rfl (by decide) (by show _ < 24; omega) dX3_sells_12 ?_
  refine x_iload_n Γ dX3_sells_13 rfl rfl ?_
  refine x_icmp_ge (tgt := 26) Γ dX3_sells_14 (by decide) (fun c14 => ?_) (fun c14 => ?_)
  · refine x_iload_n Γ dX3_sells_26 rfl rfl ?_
    refine x_lv [0, 1, 2] rfl ?_
    exact t27 _ (by unfold sBack imn; first | rw [if_pos (Int32.not_le.mp c14)] | rw [if_neg (Int32.not_lt.mpr c14)])
  · refine x_aload_n Γ dX3_sells_17 rfl rfl ?_
    refine m_geta Γ 12 (by decide) (fun _ => rfl) k_590 rfl dX3_sells_18 ?_
    refine x_iload_n Γ dX3_sells_21 rfl rfl ?_
    refine m_ald Γ rfl rfl (by decide) (by show _ < 24; omega) dX3_sells_22 ?_
    refine x_goto (tgt := 27) Γ dX3_sells_23 (by decide) ?_
    refine x_lv [0, 1, 2] rfl ?_
    exact t27 _ (by unfold sBack imn; first | rw [if_pos (Int32.not_le.mp c14)] | rw [if_neg (Int32.not_lt.mpr c14)])
set_option maxRecDepth 100000 in
theorem t_drives {o : Nat} {ad : Nat → Nat} {A : xS} {L : List Nat} {w : xW} (h : MRep G w o ad A L) {n : Nat} (hI : aI A n) (hLI : lI A n L) : xMet l G yX3_drives cX3_drives 5 none ({ frames := 1, cells := 0, slots := 0, locals := 40 } : Room) [.ref o] w embV (fun _ w' => mP G o ad (fDrv n L (A 1 0, A, L)).2.1 (fDrv n L (A 1 0, A, L)).2.2 w w') := by
  refine xMet_of (by decide) (Nat.le_of_ble_eq_true rfl) ?_
  intro p e s m below meth c Γ hnm
  have hn2 := hI.2.1
  refine m_in h ?_
  have loop : ∀ R P left B, aI B n → lI B n (P ++ R) → fDrv n R (left, B, P ++ R) = fDrv n L (A 1 0, A, L) → xJ p l e ({ frames := 1, cells := 0, slots := 0, locals := 40 } : Room) s m ([.ref o] : List Value).toArray below meth c G 5 (MQ below (xQ G embV (fun _ w' => mP G o ad (fDrv n L (A 1 0, A, L)).2.1 (fDrv n L (A 1 0, A, L)).2.2 w w')) ([.ref o] : List Value).toArray s ({ frames := 1, cells := 0, slots := 0, locals := 40 } : Room).cells ({ frames := 1, cells := 0, slots := 0, locals := 40 } : Room).slots (xA G)) (mP G o ad B (P ++ R) w) 0 0 7 [(0, .ref o), (1, .int left), (2, .int (nI P.length))] [] := by
    intro R
    induction R with
    | nil =>
      intro P left B hB hl hF
      rw [List.append_nil] at hF hl ⊢
      refine x_iload_n Γ dX3_drives_7 rfl rfl ?_
      refine x_aload_n Γ dX3_drives_8 rfl rfl ?_
      refine m_getw Γ k_595 dX3_drives_9 ?_
      refine x_icmp_ge (tgt := 103) Γ dX3_drives_12 (by decide) (fun c12 => ?_) (fun c12 => absurd (Int32.le_refl _) c12)
      exact x_vret Γ rfl (fun w2 e2 => by rw [← hF]; exact e2) ⟨Nat.le_of_ble_eq_true rfl, Nat.le_of_ble_eq_true rfl⟩ dX3_drives_103
    | cons t rr ih =>
      intro P left B hB hl hF
      have hlen := hl.1
      rw [List.length_append, List.length_cons] at hlen
      obtain ⟨htn, ci, hci, hg⟩ := hl.2.2 t (List.mem_append_right _ List.mem_cons_self)
      have ht : t < 24 := by omega
      have hat : (P ++ t :: rr)[P.length]? = some t := by rw [List.getElem?_append_right (Nat.le_refl _), Nat.sub_self]; rfl
      have hmid := fFor_mid hl.2.1
      have hno : ¬ fDrvT n B left t → xJ p l e ({ frames := 1, cells := 0, slots := 0, locals := 40 } : Room) s m ([.ref o] : List Value).toArray below meth c G 5 (MQ below (xQ G embV (fun _ w' => mP G o ad (fDrv n L (A 1 0, A, L)).2.1 (fDrv n L (A 1 0, A, L)).2.2 w w')) ([.ref o] : List Value).toArray s ({ frames := 1, cells := 0, slots := 0, locals := 40 } : Room).cells ({ frames := 1, cells := 0, slots := 0, locals := 40 } : Room).slots (xA G)) (mP G o ad B (P ++ t :: rr) w) 0 0 97 [(0, .ref o), (1, .int left), (2, .int (nI P.length))] [] := by
        intro hD
        rw [fDrv, if_neg hD] at hF
        refine x_iinc (v := _ + 1) Γ dX3_drives_97 rfl rfl rfl (by decide) ?_
        rw [nI_1]
        refine x_goto (tgt := 7) Γ dX3_drives_100 (by decide) ?_
        refine x_lv [0, 1, 2] rfl ?_
        have := ih (P ++ [t]) left B hB
        rw [List.append_assoc, List.length_append] at this
        exact this hl hF
      refine x_iload_n Γ dX3_drives_7 rfl rfl ?_
      refine x_aload_n Γ dX3_drives_8 rfl rfl ?_
      refine m_getw Γ k_595 dX3_drives_9 ?_
      refine x_icmp_ge (tgt := 103) Γ dX3_drives_12 (by decide) (fun c12 => absurd c12 (nI_ge (by rw [List.length_append, List.length_cons]; omega) (by rw [List.length_append, List.length_cons]; omega))) (fun c12 => ?_)
      refine x_aload_n Γ dX3_drives_15 rfl rfl ?_
      refine m_geta Γ 16 (by decide) (fun _ => rfl) k_594 rfl dX3_drives_16 ?_
      refine x_iload_n Γ dX3_drives_19 rfl rfl ?_
      refine m_aldw Γ (t := t) (L := P ++ t :: rr) (i := P.length) hat (by rw [List.length_append, List.length_cons]; omega) dX3_drives_20 ?_
      refine x_istore_n Γ dX3_drives_21 rfl rfl (by decide) ?_
      refine x_aload_n Γ dX3_drives_22 rfl rfl ?_
      refine m_geta Γ 15 (by decide) (fun _ => rfl) k_593 rfl dX3_drives_23 ?_
      refine x_iload_n Γ dX3_drives_26 rfl rfl ?_
      refine m_aldv Γ hg rfl rfl (by decide) (by show _ < 24; omega) dX3_drives_27 ?_
      refine x_istore Γ dX3_drives_28 rfl (by decide) ?_
      refine x_aload_n Γ dX3_drives_30 rfl rfl ?_
      refine m_geta Γ 12 (by decide) (fun _ => rfl) k_590 rfl dX3_drives_31 ?_
      refine x_iload_n Γ dX3_drives_34 rfl rfl ?_
      refine m_ald Γ rfl rfl (by decide) (by show _ < 24; omega) dX3_drives_35 ?_
      refine x_if_ne (tgt := 97) Γ dX3_drives_36 (by decide) (fun c36 => ?_) (fun c36 => ?_)
      · refine x_lv [0, 1, 2] rfl ?_
        exact hno (fun z => c36 z.1)
      · refine x_aload_n Γ dX3_drives_39 rfl rfl ?_
        refine m_geta Γ 7 (by decide) (fun _ => rfl) k_585 rfl dX3_drives_40 ?_
        refine x_iload_n Γ dX3_drives_43 rfl rfl ?_
        refine m_ald Γ rfl rfl (by decide) (by show _ < 24; omega) dX3_drives_44 ?_
        refine x_iload_n Γ dX3_drives_45 rfl rfl ?_
        refine x_icmp_gt (tgt := 97) Γ dX3_drives_46 (by decide) (fun c46 => ?_) (fun c46 => ?_)
        · refine x_lv [0, 1, 2] rfl ?_
          exact hno (fun z => absurd c46 (Int32.not_lt.mpr z.2.1))
        · refine x_aload_n Γ dX3_drives_49 rfl rfl ?_
          refine x_iload Γ dX3_drives_50 rfl ?_
          refine x_invV (emb := embI) (ci := 4) (rm := ({ frames := 0, cells := 0, slots := 0, locals := 0 } : Room)) Γ [.int (nI ci)] (fun w1 r w2 => r = ldF B (nI ci) n ∧ mP G o ad (B) (P ++ t :: rr) w1 w2) rfl (fun w1 h1 => t_loadOf h1.1 hB) m_obj rfl k_668 k_6 k_665 k_667 s_25 hd_X3_loadOf ⟨Nat.le_of_ble_eq_true rfl, Nat.le_of_ble_eq_true rfl⟩ ⟨Nat.le_of_ble_eq_true rfl, Nat.le_of_ble_eq_true rfl⟩ (Nat.le_of_ble_eq_true rfl) dX3_drives_52 (fun r => ?_)
          refine m_then (A' := B) (L' := P ++ t :: rr) (fun e52 => ?_)
          rw [e52]
          refine x_aload_n Γ dX3_drives_55 rfl rfl ?_
          refine m_geta Γ 7 (by decide) (fun _ => rfl) k_585 rfl dX3_drives_56 ?_
          refine x_iload_n Γ dX3_drives_59 rfl rfl ?_
          refine m_ald Γ rfl rfl (by decide) (by show _ < 24; omega) dX3_drives_60 ?_
          refine x_iadd Γ dX3_drives_61 ?_
          refine x_aload_n Γ dX3_drives_62 rfl rfl ?_
          refine m_geta Γ 0 (by decide) (fun _ => rfl) k_578 rfl dX3_drives_63 ?_
          refine x_iload Γ dX3_drives_66 rfl ?_
          refine m_ald Γ rfl rfl (by decide) (by show ci < 5; omega) dX3_drives_68 ?_
          refine x_icmp_gt (tgt := 97) Γ dX3_drives_69 (by decide) (fun c69 => ?_) (fun c69 => ?_)
          · refine x_lv [0, 1, 2] rfl ?_
            exact hno (fun z => absurd c69 (Int32.not_lt.mpr (by have := z.2.2; rw [hg, ixn (by omega)] at this; exact this)))
          · have hD : fDrvT n B left t := ⟨by first | exact c36 | exact Decidable.not_not.mp c36, Int32.not_lt.mp c46, by rw [hg, ixn (by omega)]; exact Int32.not_lt.mp c69⟩
            rw [fDrv, if_pos hD, hmid] at hF
            refine x_iload_n Γ dX3_drives_72 rfl rfl ?_
            refine x_aload_n Γ dX3_drives_73 rfl rfl ?_
            refine m_geta Γ 7 (by decide) (fun _ => rfl) k_585 rfl dX3_drives_74 ?_
            refine x_iload_n Γ dX3_drives_77 rfl rfl ?_
            refine m_ald Γ rfl rfl (by decide) (by show _ < 24; omega) dX3_drives_78 ?_
            refine x_isub Γ dX3_drives_79 ?_
            refine x_istore_n Γ dX3_drives_80 rfl rfl (by decide) ?_
            refine x_aload_n Γ dX3_drives_81 rfl rfl ?_
            refine m_geta Γ 9 (by decide) (fun _ => rfl) k_587 rfl dX3_drives_82 ?_
            refine x_iload_n Γ dX3_drives_85 rfl rfl ?_
            refine x_iload Γ dX3_drives_86 rfl ?_
            refine m_ast Γ rfl rfl (by decide) (by show _ < 24; omega) dX3_drives_88 ?_
            refine x_aload_n Γ dX3_drives_89 rfl rfl ?_
            refine x_iload_n Γ dX3_drives_90 rfl rfl ?_
            refine x_invV (emb := embV) (ci := 4) (rm := ({ frames := 0, cells := 0, slots := 0, locals := 0 } : Room)) Γ [.int (nI t)] (fun w1 _ w2 => mP G o ad (fMove B t) (P ++ rr) w1 w2) rfl (fun w1 h1 => by have := t_forgets (l := l) h1.1 (t := t) ht (by rw [List.length_append, List.length_cons]; omega) (fun q hq => by have := (hl.2.2 q hq).1; omega); rw [hmid] at this; unfold fMove; rw [hg]; exact this) m_obj rfl k_684 k_6 k_681 k_683 s_28 hd_X3_forgets ⟨Nat.le_of_ble_eq_true rfl, Nat.le_of_ble_eq_true rfl⟩ ⟨Nat.le_of_ble_eq_true rfl, Nat.le_of_ble_eq_true rfl⟩ (Nat.le_of_ble_eq_true rfl) dX3_drives_91 (fun _ => ?_)
            refine m_then0 (A' := fMove B t) (L' := P ++ rr) ?_
            refine x_goto (tgt := 100) Γ dX3_drives_94 (by decide) ?_
            refine x_goto (tgt := 7) Γ dX3_drives_100 (by decide) ?_
            refine x_lv [0, 1, 2] rfl ?_
            exact ih P _ (fMove B t) (sameR_aI (sameR_move B t) hB) (by have := lI_move (t := t) hl; rw [hmid] at this; exact this) hF
  refine x_aload_n Γ dX3_drives_0 rfl rfl ?_
  refine m_geti Γ 1 (by decide) (by decide) (fun _ => rfl) k_579 rfl dX3_drives_1 ?_
  refine x_istore_n Γ dX3_drives_4 rfl rfl (by decide) ?_
  refine x_iconst (v := 0) Γ dX3_drives_5 (by decide) ?_
  refine x_istore_n Γ dX3_drives_6 rfl rfl (by decide) ?_
  refine x_lv [0, 1, 2] rfl ?_
  exact loop L [] (A 1 0) A hI hLI rfl
end XM6
end
section
section XM7
variable {l : Launch} {G : xG}
set_option maxRecDepth 100000 in
theorem t_endsDay {o : Nat} {ad : Nat → Nat} {A : xS} {L : List Nat} {w : xW} (h : MRep G w o ad A L) {n d : Nat} (hI : aI A n) (hLI : lI A n L) (hd : A 4 0 = nI d) (hd1 : d + 1 ≤ 1000) : xMet l G yX3_endsDay cX3_endsDay 3 (some .int) ({ frames := 2, cells := 0, slots := 0, locals := 80 } : Room) [.ref o] w embI (fun r w' => r = (fDay n (0, A, L)).1 ∧ mP G o ad (fDay n (0, A, L)).2.1 (fDay n (0, A, L)).2.2 w w') := by
  refine xMet_of (by decide) (Nat.le_of_ble_eq_true rfl) ?_
  intro p e s m below meth c Γ hnm
  have hn2 := hI.2.1
  refine m_in h ?_
  have L4 : ∀ (B : xS) (LL : List Nat) (cnt : Int32), B 5 0 = nI n → B 4 0 = nI (d + 1) → (cnt, fBeg n B, LL) = fDay n (0, A, L) → xJ p l e ({ frames := 2, cells := 0, slots := 0, locals := 80 } : Room) s m ([.ref o] : List Value).toArray below meth c G 3 (MQ below (xQ G embI (fun r w' => r = (fDay n (0, A, L)).1 ∧ mP G o ad (fDay n (0, A, L)).2.1 (fDay n (0, A, L)).2.2 w w')) ([.ref o] : List Value).toArray s ({ frames := 2, cells := 0, slots := 0, locals := 80 } : Room).cells ({ frames := 2, cells := 0, slots := 0, locals := 80 } : Room).slots (xA G)) (mP G o ad B LL w) 0 0 192 [(0, .ref o), (1, .int cnt)] [] := by
    intro B LL cnt hB5 hB4 hF
    have lp : ∀ d2 t, t + d2 = n → xJ p l e ({ frames := 2, cells := 0, slots := 0, locals := 80 } : Room) s m ([.ref o] : List Value).toArray below meth c G 3 (MQ below (xQ G embI (fun r w' => r = (fDay n (0, A, L)).1 ∧ mP G o ad (fDay n (0, A, L)).2.1 (fDay n (0, A, L)).2.2 w w')) ([.ref o] : List Value).toArray s ({ frames := 2, cells := 0, slots := 0, locals := 80 } : Room).cells ({ frames := 2, cells := 0, slots := 0, locals := 80 } : Room).slots (xA G)) (mP G o ad (fBeg t B) LL w) 0 0 194 [(0, .ref o), (1, .int (cnt)), (2, .int (nI t))] [] := by
      intro d2
      induction d2 with
      | zero =>
        intro t ht2
        refine x_iload_n Γ dX3_endsDay_194 rfl rfl ?_
        refine x_aload_n Γ dX3_endsDay_195 rfl rfl ?_
        refine m_getiv Γ 5 ((congrFun (fBeg_j (by decide)) 0).trans hB5) (by decide) (by decide) (fun _ => rfl) k_583 rfl dX3_endsDay_196 ?_
        refine x_icmp_ge (tgt := 228) Γ dX3_endsDay_199 (by decide) (fun c199 => ?_) (fun c199 => absurd (nI_le (by omega) (by omega)) c199)
        refine x_iload_n Γ dX3_endsDay_228 rfl rfl ?_
        refine x_iret Γ rfl rfl (fun w2 e2 => ?_) ⟨Nat.le_of_ble_eq_true rfl, Nat.le_of_ble_eq_true rfl⟩ dX3_endsDay_229
        rw [← hF, show n = t by omega]
        exact ⟨rfl, e2⟩
      | succ d2 ih =>
        intro t ht2
        have ht : t < 24 := by omega
        have h24 : 24 * nI (d + 1) + nI t = nI (24 * (d + 1) + t) := by
          rw [show (24 : Int32) = nI 24 from rfl, nI_mul, nI_add]
        have es : fBeg (t + 1) B = mU (fBeg t B) 18 (24 * (d + 1) + t) (B 9 t) := by
          rw [fBeg, hB4, h24, ixn2 (by omega)]
        refine x_iload_n Γ dX3_endsDay_194 rfl rfl ?_
        refine x_aload_n Γ dX3_endsDay_195 rfl rfl ?_
        refine m_getiv Γ 5 ((congrFun (fBeg_j (by decide)) 0).trans hB5) (by decide) (by decide) (fun _ => rfl) k_583 rfl dX3_endsDay_196 ?_
        refine x_icmp_ge (tgt := 228) Γ dX3_endsDay_199 (by decide) (fun c199 => absurd c199 (nI_ge (by omega) (by omega))) (fun c199 => ?_)
        refine x_aload_n Γ dX3_endsDay_202 rfl rfl ?_
        refine m_geta Γ 18 (by decide) (fun _ => rfl) k_596 rfl dX3_endsDay_203 ?_
        refine x_bipush (v := 24) Γ dX3_endsDay_206 (by decide) ?_
        refine x_aload_n Γ dX3_endsDay_208 rfl rfl ?_
        refine m_getiv Γ 4 ((congrFun (fBeg_j (by decide)) 0).trans hB4) (by decide) (by decide) (fun _ => rfl) k_582 rfl dX3_endsDay_209 ?_
        refine x_imul Γ dX3_endsDay_212 ?_
        refine x_iload_n Γ dX3_endsDay_213 rfl rfl ?_
        refine x_iadd Γ dX3_endsDay_214 ?_
        rw [h24]
        refine x_aload_n Γ dX3_endsDay_215 rfl rfl ?_
        refine m_geta Γ 9 (by decide) (fun _ => rfl) k_587 rfl dX3_endsDay_216 ?_
        refine x_iload_n Γ dX3_endsDay_219 rfl rfl ?_
        refine m_aldv Γ (congrFun (fBeg_j (by decide)) t) rfl rfl (by decide) (by show _ < 24; omega) dX3_endsDay_220 ?_
        refine m_ast Γ rfl rfl (by decide) (by show 24 * (d + 1) + t < 24048; omega) dX3_endsDay_221 ?_
        rw [← es]
        refine x_iinc (v := _ + 1) Γ dX3_endsDay_222 rfl rfl rfl (by decide) ?_
        rw [nI_1]
        refine x_goto (tgt := 194) Γ dX3_endsDay_225 (by decide) ?_
        refine x_lv [0, 1, 2] rfl ?_
        exact ih (t + 1) (by omega)
    refine x_iconst (v := 0) Γ dX3_endsDay_192 (by decide) ?_
    refine x_istore_n Γ dX3_endsDay_193 rfl rfl (by decide) ?_
    refine x_lv [0, 1, 2] rfl ?_
    exact lp n 0 (by omega)
  have L3 : ∀ V : xV, lI V.2.1 n V.2.2 → aI V.2.1 n → V.2.1 4 0 = nI d → fUnf n V = fUnf n (fCal n (0, fOwe n A, L)) → xJ p l e ({ frames := 2, cells := 0, slots := 0, locals := 80 } : Room) s m ([.ref o] : List Value).toArray below meth c G 3 (MQ below (xQ G embI (fun r w' => r = (fDay n (0, A, L)).1 ∧ mP G o ad (fDay n (0, A, L)).2.1 (fDay n (0, A, L)).2.2 w w')) ([.ref o] : List Value).toArray s ({ frames := 2, cells := 0, slots := 0, locals := 80 } : Room).cells ({ frames := 2, cells := 0, slots := 0, locals := 80 } : Room).slots (xA G)) (mP G o ad V.2.1 V.2.2 w) 0 0 119 [(0, .ref o), (1, .int V.1)] [] := by
    intro V hV hVI hVd hF
    have hV5 := hVI.1
    have lp : ∀ d2 t, t + d2 = n → xJ p l e ({ frames := 2, cells := 0, slots := 0, locals := 80 } : Room) s m ([.ref o] : List Value).toArray below meth c G 3 (MQ below (xQ G embI (fun r w' => r = (fDay n (0, A, L)).1 ∧ mP G o ad (fDay n (0, A, L)).2.1 (fDay n (0, A, L)).2.2 w w')) ([.ref o] : List Value).toArray s ({ frames := 2, cells := 0, slots := 0, locals := 80 } : Room).cells ({ frames := 2, cells := 0, slots := 0, locals := 80 } : Room).slots (xA G)) (mP G o ad (fUnf t V).2.1 (fUnf t V).2.2 w) 0 0 121 [(0, .ref o), (1, .int ((fUnf t V).1)), (2, .int (nI t))] [] := by
      intro d2
      induction d2 with
      | zero =>
        intro t ht2
        obtain ⟨hs, hl⟩ := fUnf_I (n := n) V t hV
        have h5 : (fUnf t V).2.1 5 0 = nI n := by rw [hs 5 rfl]; exact hV5
        refine x_iload_n Γ dX3_endsDay_121 rfl rfl ?_
        refine x_aload_n Γ dX3_endsDay_122 rfl rfl ?_
        refine m_getiv Γ 5 h5 (by decide) (by decide) (fun _ => rfl) k_583 rfl dX3_endsDay_123 ?_
        refine x_icmp_ge (tgt := 178) Γ dX3_endsDay_126 (by decide) (fun c126 => ?_) (fun c126 => absurd (nI_le (by omega) (by omega)) c126)
        refine x_lv [0, 1] rfl ?_
        have hnt : t = n := by omega
        subst hnt
        refine x_aload_n Γ dX3_endsDay_178 rfl rfl ?_
        refine x_invV (emb := embV) (ci := 4) (rm := ({ frames := 1, cells := 0, slots := 0, locals := 40 } : Room)) Γ [] (fun w1 _ w2 => mP G o ad (fDrv t (fUnf t V).2.2 ((fUnf t V).2.1 1 0, (fUnf t V).2.1, (fUnf t V).2.2)).2.1 (fDrv t (fUnf t V).2.2 ((fUnf t V).2.1 1 0, (fUnf t V).2.1, (fUnf t V).2.2)).2.2 w1 w2) rfl (fun w1 h1 => t_drives h1.1 (sameR_aI hs hVI) hl) m_obj rfl k_720 k_6 k_717 k_719 s_31 hd_X3_drives ⟨Nat.le_of_ble_eq_true rfl, Nat.le_of_ble_eq_true rfl⟩ ⟨Nat.le_of_ble_eq_true rfl, Nat.le_of_ble_eq_true rfl⟩ (Nat.le_of_ble_eq_true rfl) dX3_endsDay_179 (fun _ => ?_)
        refine m_then0 (A' := (fDrv t (fUnf t V).2.2 ((fUnf t V).2.1 1 0, (fUnf t V).2.1, (fUnf t V).2.2)).2.1) (L' := (fDrv t (fUnf t V).2.2 ((fUnf t V).2.1 1 0, (fUnf t V).2.1, (fUnf t V).2.2)).2.2) ?_
        refine x_aload_n Γ dX3_endsDay_182 rfl rfl ?_
        refine x_dup Γ dX3_endsDay_183 rfl ?_
        obtain ⟨hs2, hl2⟩ := fDrv_I (n := t) (fUnf t V).2.2 ((fUnf t V).2.1 1 0, (fUnf t V).2.1, (fUnf t V).2.2) hl
        refine m_getiv Γ 4 ((congrFun (hs2 4 rfl) 0).trans ((congrFun (hs 4 rfl) 0).trans hVd)) (by decide) (by decide) (fun _ => rfl) k_582 rfl dX3_endsDay_184 ?_
        refine x_iconst (v := 1) Γ dX3_endsDay_187 (by decide) ?_
        refine x_iadd Γ dX3_endsDay_188 ?_
        rw [nI_1]
        refine m_puti Γ 4 (by decide) (by decide) (fun _ => rfl) k_582 rfl rfl rfl dX3_endsDay_189 ?_
        refine L4 _ _ _ ((congrFun (hs2 5 rfl) 0).trans h5) (mU_eq _ _ _ _) ?_
        unfold fDay
        rw [← hF]
        show _ = ((fUnf t V).1, fBeg t (mU (fDrv t (fUnf t V).2.2 ((fUnf t V).2.1 1 0, (fUnf t V).2.1, (fUnf t V).2.2)).2.1 4 0 ((fDrv t (fUnf t V).2.2 ((fUnf t V).2.1 1 0, (fUnf t V).2.1, (fUnf t V).2.2)).2.1 4 0 + 1)), (fDrv t (fUnf t V).2.2 ((fUnf t V).2.1 1 0, (fUnf t V).2.1, (fUnf t V).2.2)).2.2)
        rw [hs2 4 rfl, show (fUnf t V).2.1 4 0 = nI d from (congrFun (hs 4 rfl) 0).trans hVd, nI_1]
      | succ d2 ih =>
        intro t ht2
        have ht : t < 24 := by omega
        obtain ⟨hs, hl⟩ := fUnf_I (n := n) V t hV
        have h5 : (fUnf t V).2.1 5 0 = nI n := by rw [hs 5 rfl]; exact hV5
        have hIt := sameR_aI hs hVI
        have hnx : ∀ V2 : xV, fUnf (t + 1) V = V2 → xJ p l e ({ frames := 2, cells := 0, slots := 0, locals := 80 } : Room) s m ([.ref o] : List Value).toArray below meth c G 3 (MQ below (xQ G embI (fun r w' => r = (fDay n (0, A, L)).1 ∧ mP G o ad (fDay n (0, A, L)).2.1 (fDay n (0, A, L)).2.2 w w')) ([.ref o] : List Value).toArray s ({ frames := 2, cells := 0, slots := 0, locals := 80 } : Room).cells ({ frames := 2, cells := 0, slots := 0, locals := 80 } : Room).slots (xA G)) (mP G o ad V2.2.1 V2.2.2 w) 0 0 172 [(0, .ref o), (1, .int (V2.1)), (2, .int (nI t))] [] := by
          intro V2 hV2
          subst hV2
          refine x_iinc (v := _ + 1) Γ dX3_endsDay_172 rfl rfl rfl (by decide) ?_
          rw [nI_1]
          refine x_goto (tgt := 121) Γ dX3_endsDay_175 (by decide) ?_
          refine x_lv [0, 1, 2] rfl ?_
          exact ih (t + 1) (by omega)
        refine x_iload_n Γ dX3_endsDay_121 rfl rfl ?_
        refine x_aload_n Γ dX3_endsDay_122 rfl rfl ?_
        refine m_getiv Γ 5 h5 (by decide) (by decide) (fun _ => rfl) k_583 rfl dX3_endsDay_123 ?_
        refine x_icmp_ge (tgt := 178) Γ dX3_endsDay_126 (by decide) (fun c126 => absurd c126 (nI_ge (by omega) (by omega))) (fun c126 => ?_)
        refine x_aload_n Γ dX3_endsDay_129 rfl rfl ?_
        refine x_iload_n Γ dX3_endsDay_130 rfl rfl ?_
        refine x_invV (emb := embI) (ci := 4) (rm := ({ frames := 0, cells := 0, slots := 0, locals := 0 } : Room)) Γ [.int (nI t)] (fun w1 r w2 => bq (((fUnf t V).2.1) 9 t < 5) r ∧ mP G o ad ((fUnf t V).2.1) ((fUnf t V).2.2) w1 w2) rfl (fun w1 h1 => t_isAt h1.1 (by omega)) m_obj rfl k_680 k_6 k_677 k_679 s_27 hd_X3_isAt ⟨Nat.le_of_ble_eq_true rfl, Nat.le_of_ble_eq_true rfl⟩ ⟨Nat.le_of_ble_eq_true rfl, Nat.le_of_ble_eq_true rfl⟩ (Nat.le_of_ble_eq_true rfl) dX3_endsDay_131 (fun r => ?_)
        refine m_then (A' := (fUnf t V).2.1) (L' := (fUnf t V).2.2) (fun qA => ?_)
        refine x_if_eq (tgt := 172) Γ dX3_endsDay_134 (by decide) (fun c134 => ?_) (fun c134 => ?_)
        · refine x_lv [0, 1, 2] rfl ?_
          exact hnx _ (by rw [fUnf, if_neg (fun z => qA.eq c134 z.1)])
        · refine x_aload_n Γ dX3_endsDay_137 rfl rfl ?_
          refine m_geta Γ 12 (by decide) (fun _ => rfl) k_590 rfl dX3_endsDay_138 ?_
          refine x_iload_n Γ dX3_endsDay_141 rfl rfl ?_
          refine m_ald Γ rfl rfl (by decide) (by show _ < 24; omega) dX3_endsDay_142 ?_
          refine x_if_ne (tgt := 172) Γ dX3_endsDay_143 (by decide) (fun c143 => ?_) (fun c143 => ?_)
          · refine x_lv [0, 1, 2] rfl ?_
            exact hnx _ (by rw [fUnf, if_neg (fun z => c143 z.2.1)])
          · refine x_aload_n Γ dX3_endsDay_146 rfl rfl ?_
            refine m_geti Γ 4 (by decide) (by decide) (fun _ => rfl) k_582 rfl dX3_endsDay_147 ?_
            refine x_aload_n Γ dX3_endsDay_150 rfl rfl ?_
            refine m_geta Γ 10 (by decide) (fun _ => rfl) k_588 rfl dX3_endsDay_151 ?_
            refine x_iload_n Γ dX3_endsDay_154 rfl rfl ?_
            refine m_ald Γ rfl rfl (by decide) (by show _ < 24; omega) dX3_endsDay_155 ?_
            refine x_isub Γ dX3_endsDay_156 ?_
            refine x_iconst (v := 1) Γ dX3_endsDay_157 (by decide) ?_
            refine x_iadd Γ dX3_endsDay_158 ?_
            refine x_bipush (v := 30) Γ dX3_endsDay_159 (by decide) ?_
            refine x_icmp_lt (tgt := 172) Γ dX3_endsDay_161 (by decide) (fun c161 => ?_) (fun c161 => ?_)
            · refine x_lv [0, 1, 2] rfl ?_
              exact hnx _ (by rw [fUnf, if_neg (fun z => absurd c161 (Int32.not_lt.mpr z.2.2))])
            · refine x_aload_n Γ dX3_endsDay_164 rfl rfl ?_
              refine x_iload_n Γ dX3_endsDay_165 rfl rfl ?_
              refine x_invV (emb := embV) (ci := 4) (rm := ({ frames := 1, cells := 0, slots := 0, locals := 40 } : Room)) Γ [.int (nI t)] (fun w1 _ w2 => mP G o ad (fSell t (fUnf t V).2.1) (fFor t (fUnf t V).2.2) w1 w2) rfl (fun w1 h1 => t_sells h1.1 hIt ht (fun q hq => (hl.2.2 q hq).1) hl.1) m_obj rfl k_716 k_6 k_713 k_715 s_30 hd_X3_sells ⟨Nat.le_of_ble_eq_true rfl, Nat.le_of_ble_eq_true rfl⟩ ⟨Nat.le_of_ble_eq_true rfl, Nat.le_of_ble_eq_true rfl⟩ (Nat.le_of_ble_eq_true rfl) dX3_endsDay_166 (fun _ => ?_)
              refine m_then0 (A' := fSell t (fUnf t V).2.1) (L' := fFor t (fUnf t V).2.2) ?_
              refine x_iinc (v := _ + 1) Γ dX3_endsDay_169 rfl rfl rfl (by decide) ?_
              refine x_lv [0, 1, 2] rfl ?_
              exact hnx (vSell t (fUnf t V)) (by rw [fUnf, if_pos ⟨qA.ne c134, by first | exact c143 | exact Decidable.not_not.mp c143, Int32.not_lt.mp c161⟩])
    refine x_iconst (v := 0) Γ dX3_endsDay_119 (by decide) ?_
    refine x_istore_n Γ dX3_endsDay_120 rfl rfl (by decide) ?_
    refine x_lv [0, 1, 2] rfl ?_
    exact lp n 0 (by omega)
  have L2 : ∀ V : xV, lI V.2.1 n V.2.2 → aI V.2.1 n → V.2.1 4 0 = nI d → V = (0, fOwe n A, L) → xJ p l e ({ frames := 2, cells := 0, slots := 0, locals := 80 } : Room) s m ([.ref o] : List Value).toArray below meth c G 3 (MQ below (xQ G embI (fun r w' => r = (fDay n (0, A, L)).1 ∧ mP G o ad (fDay n (0, A, L)).2.1 (fDay n (0, A, L)).2.2 w w')) ([.ref o] : List Value).toArray s ({ frames := 2, cells := 0, slots := 0, locals := 80 } : Room).cells ({ frames := 2, cells := 0, slots := 0, locals := 80 } : Room).slots (xA G)) (mP G o ad V.2.1 V.2.2 w) 0 0 65 [(0, .ref o), (1, .int V.1)] [] := by
    intro V hV hVI hVd hF
    have hV5 := hVI.1
    have lp : ∀ d2 t, t + d2 = n → xJ p l e ({ frames := 2, cells := 0, slots := 0, locals := 80 } : Room) s m ([.ref o] : List Value).toArray below meth c G 3 (MQ below (xQ G embI (fun r w' => r = (fDay n (0, A, L)).1 ∧ mP G o ad (fDay n (0, A, L)).2.1 (fDay n (0, A, L)).2.2 w w')) ([.ref o] : List Value).toArray s ({ frames := 2, cells := 0, slots := 0, locals := 80 } : Room).cells ({ frames := 2, cells := 0, slots := 0, locals := 80 } : Room).slots (xA G)) (mP G o ad (fCal t V).2.1 (fCal t V).2.2 w) 0 0 67 [(0, .ref o), (1, .int ((fCal t V).1)), (2, .int (nI t))] [] := by
      intro d2
      induction d2 with
      | zero =>
        intro t ht2
        obtain ⟨hs, hl⟩ := fCal_I (n := n) V t hV
        have h5 : (fCal t V).2.1 5 0 = nI n := by rw [hs 5 rfl]; exact hV5
        refine x_iload_n Γ dX3_endsDay_67 rfl rfl ?_
        refine x_aload_n Γ dX3_endsDay_68 rfl rfl ?_
        refine m_getiv Γ 5 h5 (by decide) (by decide) (fun _ => rfl) k_583 rfl dX3_endsDay_69 ?_
        refine x_icmp_ge (tgt := 119) Γ dX3_endsDay_72 (by decide) (fun c72 => ?_) (fun c72 => absurd (nI_le (by omega) (by omega)) c72)
        refine x_lv [0, 1] rfl ?_
        have hnt : t = n := by omega
        subst hnt
        exact L3 (fCal t V) hl (sameR_aI hs hVI) ((congrFun (hs 4 rfl) 0).trans hVd) (by rw [hF])
      | succ d2 ih =>
        intro t ht2
        have ht : t < 24 := by omega
        obtain ⟨hs, hl⟩ := fCal_I (n := n) V t hV
        have h5 : (fCal t V).2.1 5 0 = nI n := by rw [hs 5 rfl]; exact hV5
        have hIt := sameR_aI hs hVI
        have hnx : ∀ V2 : xV, fCal (t + 1) V = V2 → xJ p l e ({ frames := 2, cells := 0, slots := 0, locals := 80 } : Room) s m ([.ref o] : List Value).toArray below meth c G 3 (MQ below (xQ G embI (fun r w' => r = (fDay n (0, A, L)).1 ∧ mP G o ad (fDay n (0, A, L)).2.1 (fDay n (0, A, L)).2.2 w w')) ([.ref o] : List Value).toArray s ({ frames := 2, cells := 0, slots := 0, locals := 80 } : Room).cells ({ frames := 2, cells := 0, slots := 0, locals := 80 } : Room).slots (xA G)) (mP G o ad V2.2.1 V2.2.2 w) 0 0 113 [(0, .ref o), (1, .int (V2.1)), (2, .int (nI t))] [] := by
          intro V2 hV2
          subst hV2
          refine x_iinc (v := _ + 1) Γ dX3_endsDay_113 rfl rfl rfl (by decide) ?_
          rw [nI_1]
          refine x_goto (tgt := 67) Γ dX3_endsDay_116 (by decide) ?_
          refine x_lv [0, 1, 2] rfl ?_
          exact ih (t + 1) (by omega)
        refine x_iload_n Γ dX3_endsDay_67 rfl rfl ?_
        refine x_aload_n Γ dX3_endsDay_68 rfl rfl ?_
        refine m_getiv Γ 5 h5 (by decide) (by decide) (fun _ => rfl) k_583 rfl dX3_endsDay_69 ?_
        refine x_icmp_ge (tgt := 119) Γ dX3_endsDay_72 (by decide) (fun c72 => absurd c72 (nI_ge (by omega) (by omega))) (fun c72 => ?_)
        refine x_aload_n Γ dX3_endsDay_75 rfl rfl ?_
        refine x_iload_n Γ dX3_endsDay_76 rfl rfl ?_
        refine x_invV (emb := embI) (ci := 4) (rm := ({ frames := 0, cells := 0, slots := 0, locals := 0 } : Room)) Γ [.int (nI t)] (fun w1 r w2 => bq (((fCal t V).2.1) 9 t < 5) r ∧ mP G o ad ((fCal t V).2.1) ((fCal t V).2.2) w1 w2) rfl (fun w1 h1 => t_isAt h1.1 (by omega)) m_obj rfl k_680 k_6 k_677 k_679 s_27 hd_X3_isAt ⟨Nat.le_of_ble_eq_true rfl, Nat.le_of_ble_eq_true rfl⟩ ⟨Nat.le_of_ble_eq_true rfl, Nat.le_of_ble_eq_true rfl⟩ (Nat.le_of_ble_eq_true rfl) dX3_endsDay_77 (fun r => ?_)
        refine m_then (A' := (fCal t V).2.1) (L' := (fCal t V).2.2) (fun qA => ?_)
        refine x_if_eq (tgt := 113) Γ dX3_endsDay_80 (by decide) (fun c80 => ?_) (fun c80 => ?_)
        · refine x_lv [0, 1, 2] rfl ?_
          exact hnx _ (by rw [fCal, if_neg (fun z => qA.eq c80 z.1)])
        · refine x_aload_n Γ dX3_endsDay_83 rfl rfl ?_
          refine m_geta Γ 12 (by decide) (fun _ => rfl) k_590 rfl dX3_endsDay_84 ?_
          refine x_iload_n Γ dX3_endsDay_87 rfl rfl ?_
          refine m_ald Γ rfl rfl (by decide) (by show _ < 24; omega) dX3_endsDay_88 ?_
          refine x_if_le (tgt := 113) Γ dX3_endsDay_89 (by decide) (fun c89 => ?_) (fun c89 => ?_)
          · refine x_lv [0, 1, 2] rfl ?_
            exact hnx _ (by rw [fCal, if_neg (fun z => absurd c89 (Int32.not_le.mpr z.2.1))])
          · refine x_aload_n Γ dX3_endsDay_92 rfl rfl ?_
            refine m_geta Γ 14 (by decide) (fun _ => rfl) k_592 rfl dX3_endsDay_93 ?_
            refine x_iload_n Γ dX3_endsDay_96 rfl rfl ?_
            refine m_ald Γ rfl rfl (by decide) (by show _ < 24; omega) dX3_endsDay_97 ?_
            refine x_aload_n Γ dX3_endsDay_98 rfl rfl ?_
            refine m_geti Γ 4 (by decide) (by decide) (fun _ => rfl) k_582 rfl dX3_endsDay_99 ?_
            refine x_icmp_ne (tgt := 113) Γ dX3_endsDay_102 (by decide) (fun c102 => ?_) (fun c102 => ?_)
            · refine x_lv [0, 1, 2] rfl ?_
              exact hnx _ (by rw [fCal, if_neg (fun z => c102 z.2.2)])
            · refine x_aload_n Γ dX3_endsDay_105 rfl rfl ?_
              refine x_iload_n Γ dX3_endsDay_106 rfl rfl ?_
              refine x_invV (emb := embV) (ci := 4) (rm := ({ frames := 1, cells := 0, slots := 0, locals := 40 } : Room)) Γ [.int (nI t)] (fun w1 _ w2 => mP G o ad (fSell t (fCal t V).2.1) (fFor t (fCal t V).2.2) w1 w2) rfl (fun w1 h1 => t_sells h1.1 hIt ht (fun q hq => (hl.2.2 q hq).1) hl.1) m_obj rfl k_716 k_6 k_713 k_715 s_30 hd_X3_sells ⟨Nat.le_of_ble_eq_true rfl, Nat.le_of_ble_eq_true rfl⟩ ⟨Nat.le_of_ble_eq_true rfl, Nat.le_of_ble_eq_true rfl⟩ (Nat.le_of_ble_eq_true rfl) dX3_endsDay_107 (fun _ => ?_)
              refine m_then0 (A' := fSell t (fCal t V).2.1) (L' := fFor t (fCal t V).2.2) ?_
              refine x_iinc (v := _ + 1) Γ dX3_endsDay_110 rfl rfl rfl (by decide) ?_
              refine x_lv [0, 1, 2] rfl ?_
              exact hnx (vSell t (fCal t V)) (by rw [fCal, if_pos ⟨qA.ne c80, Int32.not_le.mp c89, by first | exact c102 | exact Decidable.not_not.mp c102⟩])
    refine x_iconst (v := 0) Γ dX3_endsDay_65 (by decide) ?_
    refine x_istore_n Γ dX3_endsDay_66 rfl rfl (by decide) ?_
    refine x_lv [0, 1, 2] rfl ?_
    exact lp n 0 (by omega)
  have L1 : ∀ d2 t, t + d2 = n → xJ p l e ({ frames := 2, cells := 0, slots := 0, locals := 80 } : Room) s m ([.ref o] : List Value).toArray below meth c G 3 (MQ below (xQ G embI (fun r w' => r = (fDay n (0, A, L)).1 ∧ mP G o ad (fDay n (0, A, L)).2.1 (fDay n (0, A, L)).2.2 w w')) ([.ref o] : List Value).toArray s ({ frames := 2, cells := 0, slots := 0, locals := 80 } : Room).cells ({ frames := 2, cells := 0, slots := 0, locals := 80 } : Room).slots (xA G)) (mP G o ad (fOwe t A) L w) 0 0 4 [(0, .ref o), (1, .int (0)), (2, .int (nI t))] [] := by
    intro d2
    induction d2 with
    | zero =>
      intro t ht2
      refine x_iload_n Γ dX3_endsDay_4 rfl rfl ?_
      refine x_aload_n Γ dX3_endsDay_5 rfl rfl ?_
      refine m_getiv Γ 5 ((congrFun (fOwe_j (by decide)) 0).trans hI.1) (by decide) (by decide) (fun _ => rfl) k_583 rfl dX3_endsDay_6 ?_
      refine x_icmp_ge (tgt := 65) Γ dX3_endsDay_9 (by decide) (fun c9 => ?_) (fun c9 => absurd (nI_le (by omega) (by omega)) c9)
      refine x_lv [0, 1] rfl ?_
      have hnt : t = n := by omega
      subst hnt
      exact L2 (0, fOwe t A, L) (lI_same hLI (fOwe_j (by decide))) (sameR_aI (sameR_owe A t) hI) ((congrFun (fOwe_j (by decide)) 0).trans hd) rfl
    | succ d2 ih =>
      intro t ht2
      have ht : t < 24 := by omega
      have hnx : ∀ v, v = owes (fOwe t A) t → xJ p l e ({ frames := 2, cells := 0, slots := 0, locals := 80 } : Room) s m ([.ref o] : List Value).toArray below meth c G 3 (MQ below (xQ G embI (fun r w' => r = (fDay n (0, A, L)).1 ∧ mP G o ad (fDay n (0, A, L)).2.1 (fDay n (0, A, L)).2.2 w w')) ([.ref o] : List Value).toArray s ({ frames := 2, cells := 0, slots := 0, locals := 80 } : Room).cells ({ frames := 2, cells := 0, slots := 0, locals := 80 } : Room).slots (xA G)) (mP G o ad (fOwe t A) L w) 0 0 57 [(0, .ref o), (1, .int (0)), (2, .int (nI t))] [.int v, .int (fOwe t A 11 t), .int (nI t), .ref (ad 11)] := by
        intro v hv
        subst hv
        refine x_iadd Γ dX3_endsDay_57 ?_
        refine m_ast Γ rfl rfl (by decide) (by show _ < 24; omega) dX3_endsDay_58 ?_
        rw [show mU (fOwe t A) 11 t (fOwe t A 11 t + owes (fOwe t A) t) = fOwe (t + 1) A from rfl]
        refine x_iinc (v := _ + 1) Γ dX3_endsDay_59 rfl rfl rfl (by decide) ?_
        rw [nI_1]
        refine x_goto (tgt := 4) Γ dX3_endsDay_62 (by decide) ?_
        refine x_lv [0, 1, 2] rfl ?_
        exact ih (t + 1) (by omega)
      refine x_iload_n Γ dX3_endsDay_4 rfl rfl ?_
      refine x_aload_n Γ dX3_endsDay_5 rfl rfl ?_
      refine m_getiv Γ 5 ((congrFun (fOwe_j (by decide)) 0).trans hI.1) (by decide) (by decide) (fun _ => rfl) k_583 rfl dX3_endsDay_6 ?_
      refine x_icmp_ge (tgt := 65) Γ dX3_endsDay_9 (by decide) (fun c9 => absurd c9 (nI_ge (by omega) (by omega))) (fun c9 => ?_)
      refine x_aload_n Γ dX3_endsDay_12 rfl rfl ?_
      refine m_geta Γ 11 (by decide) (fun _ => rfl) k_589 rfl dX3_endsDay_13 ?_
      refine x_iload_n Γ dX3_endsDay_16 rfl rfl ?_
      refine x_dup2 Γ dX3_endsDay_17 rfl rfl ?_
      refine m_ald Γ rfl rfl (by decide) (by show _ < 24; omega) dX3_endsDay_18 ?_
      refine x_aload_n Γ dX3_endsDay_19 rfl rfl ?_
      refine x_iload_n Γ dX3_endsDay_20 rfl rfl ?_
      refine x_invV (emb := embI) (ci := 4) (rm := ({ frames := 0, cells := 0, slots := 0, locals := 0 } : Room)) Γ [.int (nI t)] (fun w1 r w2 => bq ((fOwe t A) 9 t < 5) r ∧ mP G o ad (fOwe t A) (L) w1 w2) rfl (fun w1 h1 => t_isAt h1.1 (by omega)) m_obj rfl k_680 k_6 k_677 k_679 s_27 hd_X3_isAt ⟨Nat.le_of_ble_eq_true rfl, Nat.le_of_ble_eq_true rfl⟩ ⟨Nat.le_of_ble_eq_true rfl, Nat.le_of_ble_eq_true rfl⟩ (Nat.le_of_ble_eq_true rfl) dX3_endsDay_21 (fun r => ?_)
      refine m_then (A' := fOwe t A) (L' := L) (fun qA => ?_)
      refine x_if_ne (tgt := 31) Γ dX3_endsDay_24 (by decide) (fun c24 => ?_) (fun c24 => ?_)
      · refine x_aload_n Γ dX3_endsDay_31 rfl rfl ?_
        refine m_geta Γ 12 (by decide) (fun _ => rfl) k_590 rfl dX3_endsDay_32 ?_
        refine x_iload_n Γ dX3_endsDay_35 rfl rfl ?_
        refine m_ald Γ rfl rfl (by decide) (by show _ < 24; omega) dX3_endsDay_36 ?_
        refine x_if_le (tgt := 49) Γ dX3_endsDay_37 (by decide) (fun c37 => ?_) (fun c37 => ?_)
        · refine x_iconst (v := 2) Γ dX3_endsDay_49 (by decide) ?_
          refine x_aload_n Γ dX3_endsDay_50 rfl rfl ?_
          refine m_geta Γ 7 (by decide) (fun _ => rfl) k_585 rfl dX3_endsDay_51 ?_
          refine x_iload_n Γ dX3_endsDay_54 rfl rfl ?_
          refine m_ald Γ rfl rfl (by decide) (by show _ < 24; omega) dX3_endsDay_55 ?_
          refine x_imul Γ dX3_endsDay_56 ?_
          refine x_lv [0, 1, 2] rfl ?_
          exact hnx _ (by unfold owes; rw [if_neg (not_not_intro (qA.ne c24)), if_neg (Int32.not_lt.mpr c37)])
        · refine x_aload_n Γ dX3_endsDay_40 rfl rfl ?_
          refine m_geta Γ 7 (by decide) (fun _ => rfl) k_585 rfl dX3_endsDay_41 ?_
          refine x_iload_n Γ dX3_endsDay_44 rfl rfl ?_
          refine m_ald Γ rfl rfl (by decide) (by show _ < 24; omega) dX3_endsDay_45 ?_
          refine x_goto (tgt := 57) Γ dX3_endsDay_46 (by decide) ?_
          refine x_lv [0, 1, 2] rfl ?_
          exact hnx _ (by unfold owes; rw [if_neg (not_not_intro (qA.ne c24)), if_pos (Int32.not_le.mp c37)])
      · refine x_iconst (v := 0) Γ dX3_endsDay_27 (by decide) ?_
        refine x_goto (tgt := 57) Γ dX3_endsDay_28 (by decide) ?_
        refine x_lv [0, 1, 2] rfl ?_
        exact hnx _ (by unfold owes; rw [if_pos (qA.eq c24)])
  refine x_iconst (v := 0) Γ dX3_endsDay_0 (by decide) ?_
  refine x_istore_n Γ dX3_endsDay_1 rfl rfl (by decide) ?_
  refine x_iconst (v := 0) Γ dX3_endsDay_2 (by decide) ?_
  refine x_istore_n Γ dX3_endsDay_3 rfl rfl (by decide) ?_
  refine x_lv [0, 1, 2] rfl ?_
  exact L1 n 0 (by omega)
set_option maxRecDepth 100000 in
theorem tm_pass {o : Nat} {ad : Nat → Nat} {A : xS} {L : List Nat} {w : xW} (h : MRep G w o ad A L) {n : Nat} {v : Int32} (hI : aI A n) (hLI : lI A n L) : xMet l G yX3_pass cX3_pass 4 (some .int) ({ frames := 3, cells := 0, slots := 0, locals := 140 } : Room) [.ref o, .int v] w embI (fun r w' => r = (gPass A L v).1 ∧ mP G o ad (gPass A L v).2.1 (gPass A L v).2.2 w w') := by
  refine xMet_of (by decide) (Nat.le_of_ble_eq_true rfl) ?_
  intro p e s m below meth c Γ hnm
  have hn := hI.1
  have hn2 := hI.2.1
  refine m_in h ?_
  have hE : ∀ k : Int32, ¬ k = 0 → kPass A v = k → xJ p l e ({ frames := 3, cells := 0, slots := 0, locals := 140 } : Room) s m ([.ref o, .int v] : List Value).toArray below meth c G 4 (MQ below (xQ G embI (fun r w' => r = (gPass A L v).1 ∧ mP G o ad (gPass A L v).2.1 (gPass A L v).2.2 w w')) ([.ref o, .int v] : List Value).toArray s ({ frames := 3, cells := 0, slots := 0, locals := 140 } : Room).cells ({ frames := 3, cells := 0, slots := 0, locals := 140 } : Room).slots (xA G)) (mP G o ad A L w) 0 0 32 [(0, .ref o), (1, .int v)] [.int k, .ref o] := by
    intro k h0 hk
    refine x_invV (emb := embI) (ci := 4) (rm := ({ frames := 0, cells := 0, slots := 0, locals := 0 } : Room)) Γ [.int k] (fun w1 r w2 => bq (k = 0) r ∧ mP G o ad (mU (A) 19 0 k) (L) w1 w2) rfl (fun w1 h1 => t_isFine h1.1) m_obj rfl k_656 k_6 k_653 k_655 s_24 hd_X3_isFine ⟨Nat.le_of_ble_eq_true rfl, Nat.le_of_ble_eq_true rfl⟩ ⟨Nat.le_of_ble_eq_true rfl, Nat.le_of_ble_eq_true rfl⟩ (Nat.le_of_ble_eq_true rfl) dX3_pass_32 (fun r => ?_)
    refine m_then (A' := mU (A) 19 0 k) (L' := L) (fun q => ?_)
    refine x_if_ne (tgt := 40) Γ dX3_pass_35 (by decide) (fun c35 => absurd (q.zero h0) c35) (fun c35 => ?_)
    refine x_iconst (v := 0) Γ dX3_pass_38 (by decide) ?_
    refine x_iret Γ rfl rfl (fun w2 e2 => ?_) ⟨Nat.le_of_ble_eq_true rfl, Nat.le_of_ble_eq_true rfl⟩ dX3_pass_39
    unfold gPass
    rw [fin_no hk h0]
    exact ⟨rfl, e2⟩
  refine x_aload_n Γ dX3_pass_0 rfl rfl ?_
  refine x_iload_n Γ dX3_pass_1 rfl rfl ?_
  refine x_iconst (v := 1) Γ dX3_pass_2 (by decide) ?_
  refine x_bipush (v := 40) Γ dX3_pass_3 (by decide) ?_
  refine x_invS (emb := embI) (rm := ({ frames := 0, cells := 0, slots := 0, locals := 0 } : Room)) Γ [.int (v), .int (1), .int (40)] (fun w1 r w2 => bq (rIn (1) (40) (v)) r ∧ w2 = w1) rfl (fun w1 h1 => t_in) k_652 k_6 k_650 k_651 hd_X3_in ⟨Nat.le_of_ble_eq_true rfl, Nat.le_of_ble_eq_true rfl⟩ ⟨Nat.le_of_ble_eq_true rfl, Nat.le_of_ble_eq_true rfl⟩ (Nat.le_of_ble_eq_true rfl) dX3_pass_5 (fun r => ?_)
  refine m_same (fun q5 => ?_)
  refine x_if_ne (tgt := 15) Γ dX3_pass_8 (by decide) (fun c8 => ?_) (fun c8 => ?_)
  · refine x_aload_n Γ dX3_pass_15 rfl rfl ?_
    refine m_geti Γ 4 (by decide) (by decide) (fun _ => rfl) k_582 rfl dX3_pass_16 ?_
    refine x_iload_n Γ dX3_pass_19 rfl rfl ?_
    refine x_iadd Γ dX3_pass_20 ?_
    refine x_sipush (v := 1000) Γ dX3_pass_21 (by decide) ?_
    refine x_icmp_le (tgt := 31) Γ dX3_pass_24 (by decide) (fun c24 => ?_) (fun c24 => ?_)
    · have hk : kPass A v = 0 := by
        unfold kPass
        rw [if_neg (not_not_intro (q5.ne c8)), if_neg (Int32.not_lt.mpr c24)]
      obtain ⟨d0, hd0, hd4⟩ := hI.2.2.1
      obtain ⟨dd, hdd, rfl⟩ : ∃ dd, dd ≤ 40 ∧ v = nI dd := rIn_nat (M := 40) (n := 40) (by decide) ⟨Int32.le_trans (by decide) (q5.ne c8).1, (q5.ne c8).2⟩
      have hsum : d0 + dd ≤ 1000 := by
        have := c24
        rw [hd4, nI_add] at this
        exact (nI_leI (b := 1000) (by omega) (by omega)).mp this
      refine x_iconst (v := 0) Γ dX3_pass_31 (by decide) ?_
      have hV0 : lI (mU A 19 0 0) n L := hLI
      have lp : ∀ d2 k, k + d2 = dd → xJ p l e ({ frames := 3, cells := 0, slots := 0, locals := 140 } : Room) s m ([.ref o, .int (nI dd)] : List Value).toArray below meth c G 4 (MQ below (xQ G embI (fun r w' => r = (gPass A L (nI dd)).1 ∧ mP G o ad (gPass A L (nI dd)).2.1 (gPass A L (nI dd)).2.2 w w')) ([.ref o, .int (nI dd)] : List Value).toArray s ({ frames := 3, cells := 0, slots := 0, locals := 140 } : Room).cells ({ frames := 3, cells := 0, slots := 0, locals := 140 } : Room).slots (xA G)) (mP G o ad (fDays n k (0, mU A 19 0 0, L)).2.1 (fDays n k (0, mU A 19 0 0, L)).2.2 w) 0 0 44 [(0, .ref o), (1, .int (nI dd)), (2, .int (fDays n k (0, mU A 19 0 0, L)).1), (3, .int (nI k))] [] := by
        intro d2
        induction d2 with
        | zero =>
          intro k hk2
          refine x_iload_n Γ dX3_pass_44 rfl rfl ?_
          refine x_iload_n Γ dX3_pass_45 rfl rfl ?_
          refine x_icmp_ge (tgt := 62) Γ dX3_pass_46 (by decide) (fun c46 => ?_) (fun c46 => absurd (nI_le (by omega) (by omega)) c46)
          refine x_iload_n Γ dX3_pass_62 rfl rfl ?_
          refine x_iret Γ rfl rfl (fun w2 e2 => ?_) ⟨Nat.le_of_ble_eq_true rfl, Nat.le_of_ble_eq_true rfl⟩ dX3_pass_63
          unfold gPass
          rw [fin_ok hk, hn, ixn2 (t := n) (by omega), ixn2 (t := dd) (by omega), show dd = k by omega]
          exact ⟨rfl, e2⟩
        | succ d2 ih =>
          intro k hk2
          obtain ⟨i1, i2, i3⟩ := fDays_I (n := n) (0, mU A 19 0 0, L) (aI_thr hI 0) hd4 hV0 k (by omega)
          refine x_iload_n Γ dX3_pass_44 rfl rfl ?_
          refine x_iload_n Γ dX3_pass_45 rfl rfl ?_
          refine x_icmp_ge (tgt := 62) Γ dX3_pass_46 (by decide) (fun c46 => absurd c46 (nI_ge (by omega) (by omega))) (fun c46 => ?_)
          refine x_iload_n Γ dX3_pass_49 rfl rfl ?_
          refine x_aload_n Γ dX3_pass_50 rfl rfl ?_
          refine x_invV (emb := embI) (ci := 4) (rm := ({ frames := 2, cells := 0, slots := 0, locals := 80 } : Room)) Γ [] (fun w1 r w2 => r = (fDay n (0, (fDays n k (0, mU A 19 0 0, L)).2)).1 ∧ mP G o ad ((fDay n (0, (fDays n k (0, mU A 19 0 0, L)).2)).2.1) ((fDay n (0, (fDays n k (0, mU A 19 0 0, L)).2)).2.2) w1 w2) rfl (fun w1 h1 => t_endsDay h1.1 i1 i3 i2 (by omega)) m_obj rfl k_712 k_6 k_709 k_711 s_29 hd_X3_endsDay ⟨Nat.le_of_ble_eq_true rfl, Nat.le_of_ble_eq_true rfl⟩ ⟨Nat.le_of_ble_eq_true rfl, Nat.le_of_ble_eq_true rfl⟩ (Nat.le_of_ble_eq_true rfl) dX3_pass_51 (fun r => ?_)
          refine m_then (A' := (fDay n (0, (fDays n k (0, mU A 19 0 0, L)).2)).2.1) (L' := (fDay n (0, (fDays n k (0, mU A 19 0 0, L)).2)).2.2) (fun e51 => ?_)
          rw [e51]
          refine x_iadd Γ dX3_pass_54 ?_
          refine x_istore_n Γ dX3_pass_55 rfl rfl (by decide) ?_
          refine x_iinc (v := _ + 1) Γ dX3_pass_56 rfl rfl rfl (by decide) ?_
          rw [nI_1]
          refine x_goto (tgt := 44) Γ dX3_pass_59 (by decide) ?_
          refine x_lv [0, 1, 2, 3] rfl ?_
          exact ih (k + 1) (by omega)
      refine x_invV (emb := embI) (ci := 4) (rm := ({ frames := 0, cells := 0, slots := 0, locals := 0 } : Room)) Γ [.int 0] (fun w1 r w2 => bq (0 = 0) r ∧ mP G o ad (mU (A) 19 0 0) (L) w1 w2) rfl (fun w1 h1 => t_isFine h1.1) m_obj rfl k_656 k_6 k_653 k_655 s_24 hd_X3_isFine ⟨Nat.le_of_ble_eq_true rfl, Nat.le_of_ble_eq_true rfl⟩ ⟨Nat.le_of_ble_eq_true rfl, Nat.le_of_ble_eq_true rfl⟩ (Nat.le_of_ble_eq_true rfl) dX3_pass_32 (fun r => ?_)
      refine m_then (A' := mU (A) 19 0 0) (L' := L) (fun q => ?_)
      refine x_if_ne (tgt := 40) Γ dX3_pass_35 (by decide) (fun c35 => ?_) (fun c35 => absurd c35 (q.one rfl))
      refine x_iconst (v := 0) Γ dX3_pass_40 (by decide) ?_
      refine x_istore_n Γ dX3_pass_41 rfl rfl (by decide) ?_
      refine x_iconst (v := 0) Γ dX3_pass_42 (by decide) ?_
      refine x_istore_n Γ dX3_pass_43 rfl rfl (by decide) ?_
      refine x_lv [0, 1, 2, 3] rfl ?_
      exact lp dd 0 (by omega)
    · have hk : kPass A v = 2 := by
        unfold kPass
        rw [if_neg (not_not_intro (q5.ne c8)), if_pos (Int32.not_le.mp c24)]
      refine x_iconst (v := 2) Γ dX3_pass_27 (by decide) ?_
      refine x_goto (tgt := 32) Γ dX3_pass_28 (by decide) ?_
      exact hE 2 (by decide) hk
  · have hk : kPass A v = 1 := by
      unfold kPass
      exact if_pos (q5.eq c8)
    refine x_iconst (v := 1) Γ dX3_pass_11 (by decide) ?_
    refine x_goto (tgt := 32) Γ dX3_pass_12 (by decide) ?_
    exact hE 1 (by decide) hk
end XM7
end
section
theorem zz_end : True := trivial
end

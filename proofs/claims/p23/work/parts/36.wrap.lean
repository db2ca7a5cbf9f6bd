section XWR
/-! methods with an exception table that catch what their callee throws -/
def xMetW {α : Type} (l : Launch) (G : xG) (y : MethodName) (cc : ByteArray) (maxL : Nat) (rt : Option FieldType) (hh : List (Nat × Nat × Nat × Nat)) (rm : Room) (av : List Value) (w : xW) (emb : α → Option Value) (post : α → xW → Prop) : Prop :=
  Met l y [.codeWith y cc maxL rt hh] rm (xPc G av w) (xQ G emb post) rm.cells rm.slots (xA G)
theorem xMetW_of {α : Type} {l : Launch} {G : xG} {y : MethodName} {cc : ByteArray} {maxL : Nat} {rt : Option FieldType} {hh : List (Nat × Nat × Nat × Nat)} {rm : Room} {av : List Value} {w : xW} {emb : α → Option Value} {post : α → xW → Prop} (hy : plainName y.cls = true) (hn : (lg_sl av).length ≤ maxL)
    (body : ∀ p e s m below meth c, xC p s m meth c G cc maxL y.cls rt → c.exceptionTable.toList = tableOf hh → xJ p l e rm s m av.toArray below meth c G maxL (MQ below (xQ G emb post) av.toArray s rm.cells rm.slots (xA G)) (fun w' => w' = w) 0 0 0 (lv_args 0 av) []) : xMetW l G y cc maxL rt hh rm av w emb post := by
  unfold xMetW Met
  refine MetFree.of_bodyS (code := cc) (maxLocals := maxL) (ret := rt) hy ?_ ?_
  · intro args s m h hn
    obtain ⟨m9, meth, c, hn9, h1, h2, h3, h4, -, h5, h6, -⟩ := Cond.codeWith_spec (atoms_spec (ws := [.codeWith y cc maxL rt hh]) h _ List.mem_cons_self)
    cases hn.symm.trans hn9
    exact ⟨meth, c, h1, h2, h3, h4, h5, h6⟩
  · intro p e s m args below meth c s₁ B hml hP _
    have hh0 : s₁.heap = s.heap := by rw [B.state]; rfl
    obtain ⟨rfl, hE, hH⟩ := hP
    have htab := vx_table (x := y) B (atoms_spec (ws := [.codeWith y cc maxL rt hh]) B.pre _ List.mem_cons_self)
    have K := body p e s m below meth c ⟨B.exec, B.bytes, hml, findClass_of_methodNamed B.named, B.returns, B.notSynchronized, hE, hH.1⟩ htab w s.heap [] _ rfl hH va_S.rf (lv_entry av hn)
    rw [← lg_entry_eq] at K
    obtain ⟨t, a1, o, b1, b2, b3⟩ := K s₁ hh0 (Stand.of_body B)
    exact ⟨t, o, a1, b1, b2, b3⟩
variable {p : Program} {l : Launch} {e : Env} {R : Room} {s : State} {m : MethodId} {args : Array Value} {below : List Frame} {meth : Method} {c : Code} {G : xG} {cc : ByteArray} {nL : Nat} {own : String} {rt : Option FieldType} {Q : State → Prop} {P P' : xW → Prop} {k n pc : Nat} {lv : List (Nat × Value)} {st : List Value}
/-- something of class E is on its way out of the call -/
def xJX (p : Program) (l : Launch) (e : Env) (R : Room) (s : State) (m : MethodId) (args : Array Value) (below : List Frame) (meth : Method) (c : Code) (G : xG) (nL : Nat) (Q : State → Prop) (P : xW → Prop) (E : String) (k n pc : Nat) (lv : List (Nat × Value)) : Prop :=
  ∀ (w : xW) (H : Heap) (locs : List Loc) (ls : Array Slot) (st : List Value) (q : Nat) (ce : Cell), P w → xH G w H → va_S (xA G) s.heap H locs → lv_has ls nL lv → H[q]? = some ce → ce.vm = .none → s.vm.findClass E = some ce.cls → vx_W p l e R s m args below meth c H locs k n Q (F0 m pc ls st) q
theorem x_catchE (Γ : xC p s m meth c G cc nL own rt) {E name : String} (pre : List ExceptionTableEntry) (x : ExceptionTableEntry) (suf : List ExceptionTableEntry) (htab : c.exceptionTable.toList = pre ++ x :: suf) (hpass : ∀ z ∈ pre, z.catchType ≠ 0 ∧ ∃ nm : String, Cond.classLink own z.catchType nm ∈ xAll ∧ (E, nm) ∈ xNcs) (hcov : covers x pc = true) (h0 : x.catchType ≠ 0) (hlink : Cond.classLink own x.catchType name ∈ xAll) (hcast : Cond.castable E name ∈ xAll)
    (kk : ∀ q, xJ p l e R s m args below meth c G nL Q P k n x.handlerPc lv [.ref q]) : xJX p l e R s m args below meth c G nL Q P E k n pc lv := fun w H locs ls st q ce hp hh hs hl hc hv hcl => by
  obtain ⟨hx, hb, hml, hown, hr, hlk, hE, hB⟩ := Γ
  exact vx_catch hown pre x suf htab (fun z hz => by
    obtain ⟨h1, nm, h2, h3⟩ := hpass z hz
    exact Or.inr ⟨h1, nm, hE.w h2, hE.2.2.2.2.2.2.2.2.2.2.2 _ h3⟩) hcov h0 (hE.w hlink) (hE.w hcast) hc hv hcl (kk q w H locs ls hp hh hs hl)
theorem x_callH {α : Type} {emb : α → Option Value} {post : xW → α → xW → Prop} {px : xW → String → xW → Prop} {mc ms : Nat} {st0 : List Value} {a : Array Value}
    (hr : ∀ w H locs ls, P w → xH G w H → va_S (xA G) s.heap H locs → lv_has ls nL lv → vx_Run p l e R s m args below meth c H locs k n mc ms (F0 m pc ls st0) st (xQ G emb (post w) a) (xX G (px w)) (xA G))
    (kk : ∀ v, xJ p l e R s m args below meth c G nL Q (fun w' => ∃ w, P w ∧ post w v w') (k + mc) (n + ms) (pc + 3) lv ((emb v).toList ++ st))
    (kx : ∀ E, xJX p l e R s m args below meth c G nL Q (fun w' => ∃ w, P w ∧ px w E w') E (k + mc) (n + ms) pc lv) : xJ p l e R s m args below meth c G nL Q P k n pc lv st0 := fun w H locs ls hp hh hs hl => by
  intro T hT X
  rcases hr w H locs ls hp hh hs hl T hT X with ⟨v, st₀, t, T', L, h0, X', hL, e1, e2, ⟨⟨u, w', hv, hpo, hh'⟩, hF⟩, st9⟩ | ⟨q, st₀, t, T', L, E, ce, h0, X', hL, e1, e2, ⟨⟨w', hpx, hh'⟩, hF⟩, hce, hcv, hcl, st9⟩
  · cases hv
    obtain ⟨k1, k2, k3⟩ := vx_keep h0 e1 hs (fun _ _ h => h) (fun _ h => h) hL hF
    obtain ⟨t2, a1, b1⟩ := kk u w' T'.heap (locs ++ L) ls ⟨w, hp, hpo⟩ (by rw [e1]; exact hh') k3 hl T' rfl X'
    exact ⟨t2, st9 t2 a1, b1⟩
  · obtain ⟨k1, k2, k3⟩ := vx_keep h0 e1 hs (fun _ _ h => h) (fun _ h => h) hL hF
    obtain ⟨t2, a1, b1⟩ := kx E w' T'.heap (locs ++ L) ls st q ce ⟨w, hp, hpx⟩ (by rw [e1]; exact hh') k3 hl (by rw [e1]; exact hce) hcv hcl T' rfl X'
    exact ⟨t2, st9.trans a1, b1⟩
theorem x_invVH {α : Type} {emb : α → Option Value} (Γ : xC p s m meth c G cc nL own rt) {y : MethodName} {bytes : ByteArray} {maxL idx b ci : Nat} {ret : Option FieldType} {rm : Room} {T : u_T} {N : Nat} {st0 : List Value} (As : List Value) (post : xW → α → xW → Prop) (px : xW → String → xW → Prop) (hst : st0 = As.reverse ++ .ref b :: st)
    (hM : ∀ w, P w → xMetX l G y bytes maxL ret rm (.ref b :: As) w emb (post w) (px w)) (hb : ∀ w, P w → ∃ k0 fs, w b = some (k0, .inr (ci, fs))) (hc : vwCl[ci]? = some (y.cls, T, N))
    (hcode : Cond.code y bytes maxL ret ∈ xAll) (hini : Cond.initialized y.cls ∈ xAll) (hlink : Cond.methodLink own idx y ∈ xAll) (hin : Cond.instanceMethod y ∈ xAll) (hsel : Cond.selects y.cls y y ∈ xAll)
    (hdd : y.cls ≠ "java/lang/invoke/MethodHandle" ∧ y.cls ≠ "java/lang/invoke/VarHandle" ∧ (parseMethodDescriptor y.desc).map (fun d => d.parameters.length) = some As.length) (hR : rm.frames + 1 ≤ R.frames ∧ 8 + (maxL + 11) + rm.locals ≤ R.locals) (hf : k + rm.cells ≤ R.cells ∧ n + rm.slots ≤ R.slots) (hW : (st.map fun v => v.category).sum ≤ 8) (hd : decode cc pc = .ok (.invokevirtual idx, 3))
    (kk : ∀ v, xJ p l e R s m args below meth c G nL Q (fun w' => ∃ w, P w ∧ post w v w') (k + rm.cells) (n + rm.slots) (pc + 3) lv ((emb v).toList ++ st))
    (kx : ∀ E, xJX p l e R s m args below meth c G nL Q (fun w' => ∃ w, P w ∧ px w E w') E (k + rm.cells) (n + rm.slots) pc lv) : xJ p l e R s m args below meth c G nL Q P k n pc lv st0 := by
  subst hst
  refine x_callH (emb := emb) (post := post) (px := px) (mc := rm.cells) (ms := rm.slots) (a := (.ref b :: As).toArray) (fun w H locs ls hp hh hs hl => ?_) kk kx
  obtain ⟨k0, fs, hbw⟩ := hb w hp
  exact vx_runV (As := As) (rest := st) (xFix Γ) (hM w hp) ⟨xCallB Γ hcode hini hlink hdd hR, Γ.2.2.2.2.2.2.1.w hin, Γ.2.2.2.2.2.2.1.w hsel⟩ (xPreV Γ hh hs hbw hc As) rfl rfl hl.1 rfl (lv_room hW) hd hf
theorem x_invSW {α : Type} {emb : α → Option Value} (Γ : xC p s m meth c G cc nL own rt) {y : MethodName} {bytes : ByteArray} {maxL idx : Nat} {ret : Option FieldType} {hh : List (Nat × Nat × Nat × Nat)} {rm : Room} {st0 : List Value} (As : List Value) (post : xW → α → xW → Prop) (hst : st0 = As.reverse ++ st)
    (hM : ∀ w, P w → xMetW l G y bytes maxL ret hh rm As w emb (post w))
    (hcode : Cond.codeWith y bytes maxL ret hh ∈ xAll) (hini : Cond.initialized y.cls ∈ xAll) (hlink : Cond.methodLink own idx y ∈ xAll) (hin : Cond.static y ∈ xAll)
    (hdd : y.cls ≠ "java/lang/invoke/MethodHandle" ∧ y.cls ≠ "java/lang/invoke/VarHandle" ∧ (parseMethodDescriptor y.desc).map (fun d => d.parameters.length) = some As.length) (hR : rm.frames + 1 ≤ R.frames ∧ 8 + (maxL + 11) + rm.locals ≤ R.locals) (hf : k + rm.cells ≤ R.cells ∧ n + rm.slots ≤ R.slots) (hW : (st.map fun v => v.category).sum ≤ 8) (hd : decode cc pc = .ok (.invokestatic idx, 3))
    (kk : ∀ v, xJ p l e R s m args below meth c G nL Q (fun w' => ∃ w, P w ∧ post w v w') (k + rm.cells) (n + rm.slots) (pc + 3) lv ((emb v).toList ++ st)) : xJ p l e R s m args below meth c G nL Q P k n pc lv st0 := by
  subst hst
  refine x_call (emb := emb) (post := post) (mc := rm.cells) (ms := rm.slots) (a := As.toArray) (fun w H locs ls hp hh hs hl => ?_) kk
  refine vx_runSW (As := As) (rest := st) (xFix Γ) (hM w hp) ⟨⟨rfl, rfl, hR.1, hR.2, fun w1 hw1 a' U hW1 => ?_, List.mem_cons_self⟩, Γ.2.2.2.2.2.2.1.w hcode, Γ.2.2.2.2.2.2.1.w hini, ⟨hdd.1, hdd.2.1⟩, fun sig h9 => ?_, Γ.2.2.2.2.2.2.1.w hlink, Γ.2.2.2.2.2.2.1.w hin⟩ (xPre Γ hh hs As) rfl rfl hl.1 rfl (lv_room hW) hd hf
  · rcases List.mem_singleton.mp hw1 with rfl
    exact va_Nw.use (xAll_tb hcode) (xNw_warm (xAll_ok hcode) hW1 (Γ.2.2.2.2.2.2.1.2.1 _ hcode))
  · have h2 := hdd.2.2
    rw [h9] at h2
    exact (Option.some.inj h2).symm
/-! what the wrappers keep -/
theorem CRaw.kp {w w' : xW} {ca th : Nat → Nat} {B : xS} {N : Nat} {L : List Nat} {T : Nat → xTg} (h : CRaw G w ca th B N L T) (hk : xKp (fun k => 100 ≤ k) w w') : CRaw G w' ca th B N L T := by
  obtain ⟨h1, h2, h3, h4, h5, h6⟩ := h
  refine ⟨hk _ _ _ h1 (by omega), hk _ _ _ h2 (by omega), hk _ _ _ h3 (by omega), h4.kp hk (by omega) (by omega), h5.kp hk (by omega) (by omega), fun t ht => ?_⟩
  obtain ⟨b, g1, g2⟩ := h6 t ht
  exact ⟨b, hk _ _ _ g1 (by omega), tgAt.kp hk (by omega) g2⟩
end XWR

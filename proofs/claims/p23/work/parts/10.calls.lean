theorem at_IAE : ∀ w ∈ vx_atS RX2 53 "java/lang/IllegalArgumentException" ["java/lang/RuntimeException", "java/lang/Exception"], w ∈ xAll := xAll_list [30, 129, 138, 142, 145, 147, 130, 131, 49, 50, 132, 137, 143, 163, 119, 164, 121, 165, 123, 133, 135, 125, 159, 160, 162, 125, 150, 151, 152, 153, 111, 153, 154, 155, 156, 113, 156, 157, 158, 159, 115, 149, 108, 109, 116, 117, 118, 120, 122, 124, 128, 127, 126] (by decide +kernel) (by decide +kernel)
theorem at_ISE : ∀ w ∈ vx_atS RX2 75 "java/lang/IllegalStateException" ["java/lang/RuntimeException", "java/lang/Exception"], w ∈ xAll := xAll_list [30, 129, 138, 142, 145, 147, 130, 131, 49, 50, 132, 137, 143, 163, 119, 164, 121, 165, 123, 133, 135, 125, 159, 160, 162, 125, 186, 187, 188, 153, 111, 153, 154, 155, 156, 113, 156, 157, 158, 159, 115, 185, 176, 177, 178, 140, 179, 180, 181, 182, 128, 127, 183] (by decide +kernel) (by decide +kernel)
theorem at_IOE : ∀ w ∈ vx_atS RX2 180 "java/lang/IndexOutOfBoundsException" ["java/lang/RuntimeException", "java/lang/Exception"], w ∈ xAll := xAll_list [30, 129, 138, 142, 145, 147, 130, 131, 49, 50, 132, 137, 143, 163, 119, 164, 121, 165, 123, 133, 135, 125, 159, 160, 162, 125, 342, 343, 344, 153, 111, 153, 154, 155, 156, 113, 156, 157, 158, 159, 115, 341, 332, 333, 334, 141, 335, 336, 337, 338, 128, 127, 339] (by decide +kernel) (by decide +kernel)
section XCL
theorem xMet_of {α : Type} {l : Launch} {G : xG} {y : MethodName} {cc : ByteArray} {maxL : Nat} {rt : Option FieldType} {rm : Room} {av : List Value} {w : xW} {emb : α → Option Value} {post : α → xW → Prop} (hy : plainName y.cls = true) (hn : (lg_sl av).length ≤ maxL)
    (body : ∀ p e s m below meth c, xC p s m meth c G cc maxL y.cls rt → meth.name = y.name → xJ p l e rm s m av.toArray below meth c G maxL (MQ below (xQ G emb post) av.toArray s rm.cells rm.slots (xA G)) (fun w' => w' = w) 0 0 0 (lv_args 0 av) []) : xMet l G y cc maxL rt rm av w emb post := by
  refine Met.ofW (cc := cc) (maxL := maxL) (ret := rt) hy rfl ?_
  intro p e s m args below meth c s₁ B hml hv
  obtain ⟨rfl, hE, hH⟩ := hv
  rw [lg_entry_eq]
  exact body p e s m below meth c ⟨B.exec, B.bytes, hml, findClass_of_methodNamed B.named, B.returns, B.notSynchronized, hE, hH.1⟩ (name_of_methodNamed B.named B.method).1 w s.heap [] _ rfl hH va_S.rf (lv_entry av hn)
theorem xMet_ofF {α : Type} {l : Launch} {G : xG} {y : MethodName} {cc : ByteArray} {maxL : Nat} {rt : Option FieldType} {rm : Room} {av : List Value} {w : xW} {emb : α → Option Value} {post : α → xW → Prop} (hy : plainFor y = true) (hn : (lg_sl av).length ≤ maxL)
    (body : ∀ p e s m below meth c, xC p s m meth c G cc maxL y.cls rt → meth.name = y.name → xJ p l e rm s m av.toArray below meth c G maxL (MQ below (xQ G emb post) av.toArray s rm.cells rm.slots (xA G)) (fun w' => w' = w) 0 0 0 (lv_args 0 av) []) : xMet l G y cc maxL rt rm av w emb post := by
  refine va_MetF (cc := cc) (maxL := maxL) (ret := rt) hy rfl ?_
  intro p e s m args below meth c s₁ B hml hv
  obtain ⟨rfl, hE, hH⟩ := hv
  rw [lg_entry_eq]
  exact body p e s m below meth c ⟨B.exec, B.bytes, hml, findClass_of_methodNamed B.named, B.returns, B.notSynchronized, hE, hH.1⟩ (name_of_methodNamed B.named B.method).1 w s.heap [] _ rfl hH va_S.rf (lv_entry av hn)
theorem xMetX_of {α : Type} {l : Launch} {G : xG} {y : MethodName} {cc : ByteArray} {maxL : Nat} {rt : Option FieldType} {rm : Room} {av : List Value} {w : xW} {emb : α → Option Value} {post : α → xW → Prop} {px : String → xW → Prop} (hy : plainName y.cls = true) (hn : (lg_sl av).length ≤ maxL)
    (body : ∀ p e s m below meth c, xC p s m meth c G cc maxL y.cls rt → (∀ x ∈ c.exceptionTable.toList, False) → xJ p l e rm s m av.toArray below meth c G maxL (vx_MQ below (xQ G emb post) (xX G px) av.toArray s rm.cells rm.slots (xA G)) (fun w' => w' = w) 0 0 0 (lv_args 0 av) []) : xMetX l G y cc maxL rt rm av w emb post px := by
  refine vx_ofW (cc := cc) (maxL := maxL) (ret := rt) hy rfl ?_
  intro p e s m args below meth c s₁ B hml ht hv
  obtain ⟨rfl, hE, hH⟩ := hv
  rw [lg_entry_eq]
  exact body p e s m below meth c ⟨B.exec, B.bytes, hml, findClass_of_methodNamed B.named, B.returns, B.notSynchronized, hE, hH.1⟩ ht w s.heap [] _ rfl hH va_S.rf (lv_entry av hn)
variable {p : Program} {l : Launch} {e : Env} {R : Room} {s : State} {m : MethodId} {args : Array Value} {below : List Frame} {meth : Method} {c : Code} {G : xG} {cc : ByteArray} {nL : Nat} {own : String} {rt : Option FieldType} {Q : State → Prop} {P P' : xW → Prop} {k n pc : Nat} {lv : List (Nat × Value)} {st : List Value}
/-! returns -/
theorem x_iret (Γ : xC p s m meth c G cc nL own rt) {post : Int32 → xW → Prop} {kc nc : Nat} {ty : FieldType} {v : Int32} (hrt : rt = some ty) (hn : narrow ty (.int v) = .int v) (hp : ∀ w, P w → post v w) (hk : k ≤ kc ∧ n ≤ nc) (hd : decode cc pc = .ok (.ireturn, 1)) :
    xJ p l e R s m args below meth c G nL (MQ below (xQ G embI post) args s kc nc (xA G)) P k n pc lv [.int v] := fun w H locs ls hpw hh hs hl => by
  obtain ⟨hx, hb, hml, hown, hr, hlk, hE, hB⟩ := Γ
  exact W.widen hk.1 hk.2 (W.zret hx hb (hr.trans hrt) hn (fun t ht hW => ⟨⟨v, w, rfl, hp w hpw, by rw [ht]; exact hh⟩, hs.F ht⟩) hs.2.2 hd hlk)
theorem x_vret (Γ : xC p s m meth c G cc nL own rt) {post : Unit → xW → Prop} {kc nc : Nat} (hrt : rt = none) (hp : ∀ w, P w → post () w) (hk : k ≤ kc ∧ n ≤ nc) (hd : decode cc pc = .ok (.return_, 1)) :
    xJ p l e R s m args below meth c G nL (MQ below (xQ G embV post) args s kc nc (xA G)) P k n pc lv [] := fun w H locs ls hpw hh hs hl => by
  obtain ⟨hx, hb, hml, hown, hr, hlk, hE, hB⟩ := Γ
  exact W.widen hk.1 hk.2 (W.vret hx hb (hr.trans hrt) (fun t ht hW => ⟨⟨(), w, rfl, hp w hpw, by rw [ht]; exact hh⟩, hs.F ht⟩) hs.2.2 hd hlk)
theorem x_aret (Γ : xC p s m meth c G cc nL own rt) {post : Nat → xW → Prop} {kc nc : Nat} {ty : FieldType} {v : Nat} (hrt : rt = some ty) (hty : (∃ n, ty = .object n) ∨ ∃ t, ty = .array t) (hp : ∀ w, P w → post v w) (hk : k ≤ kc ∧ n ≤ nc) (hd : decode cc pc = .ok (.areturn, 1)) :
    xJ p l e R s m args below meth c G nL (MQ below (xQ G embA post) args s kc nc (xA G)) P k n pc lv [.ref v] := fun w H locs ls hpw hh hs hl => by
  obtain ⟨hx, hb, hml, hown, hr, hlk, hE, hB⟩ := Γ
  exact W.widen hk.1 hk.2 (W.aret hx hb (hr.trans hrt) hty (Or.inr ⟨_, rfl⟩) (fun t ht hW => ⟨⟨v, w, rfl, hp w hpw, by rw [ht]; exact hh⟩, hs.F ht⟩) hs.2.2 hd hlk)
theorem x_ends {Qc : Array Value → State → Outcome → State → Prop} {XC : String → State → State → Prop} {kc nc : Nat} {free : Addr → Prop} (kk : xJ p l e R s m args below meth c G nL (MQ below Qc args s kc nc free) P k n pc lv st) : xJ p l e R s m args below meth c G nL (vx_MQ below Qc XC args s kc nc free) P k n pc lv st :=
  fun w H locs ls hp hh hs hl => vx_ret (kk w H locs ls hp hh hs hl)
/-! calls -/
theorem x_call {α : Type} {emb : α → Option Value} {post : xW → α → xW → Prop} {mc ms : Nat} {st0 : List Value} {a : Array Value} (hr : ∀ w H locs ls, P w → xH G w H → va_S (xA G) s.heap H locs → lv_has ls nL lv → va_Run p l e R s m args below meth c H locs k n mc ms (F0 m pc ls st0) st (xQ G emb (post w) a) (xA G))
    (kk : ∀ v, xJ p l e R s m args below meth c G nL Q (fun w' => ∃ w, P w ∧ post w v w') (k + mc) (n + ms) (pc + 3) lv ((emb v).toList ++ st)) : xJ p l e R s m args below meth c G nL Q P k n pc lv st0 := fun w H locs ls hp hh hs hl => by
  intro T hT X
  obtain ⟨v, st₀, t, T', L, h0, X', hL, e1, e2, ⟨⟨u, w', hv, hpo, hh'⟩, hF⟩, st9⟩ := hr w H locs ls hp hh hs hl T hT X
  cases hv
  obtain ⟨k1, k2, k3⟩ := vx_keep h0 e1 hs (fun _ _ h => h) (fun _ h => h) hL hF
  obtain ⟨t2, a1, b1⟩ := kk u w' T'.heap (locs ++ L) ls ⟨w, hp, hpo⟩ (by rw [e1]; exact hh') k3 hl T' rfl X'
  exact ⟨t2, st9 t2 a1, b1⟩
theorem x_callX {α : Type} {emb : α → Option Value} {post : xW → α → xW → Prop} {px : xW → String → xW → Prop} {PX : String → xW → Prop} {Qc : Array Value → State → Outcome → State → Prop} {kc nc : Nat} {mc ms : Nat} {st0 : List Value} {a : Array Value} (hlk : meth.locks = false) (hout : ∀ x ∈ c.exceptionTable.toList, False) (hx : ∀ w E w', P w → px w E w' → PX E w') (hk : k + mc ≤ kc ∧ n + ms ≤ nc)
    (hr : ∀ w H locs ls, P w → xH G w H → va_S (xA G) s.heap H locs → lv_has ls nL lv → vx_Run p l e R s m args below meth c H locs k n mc ms (F0 m pc ls st0) st (xQ G emb (post w) a) (xX G (px w)) (xA G))
    (kk : ∀ v, xJ p l e R s m args below meth c G nL (vx_MQ below Qc (xX G PX) args s kc nc (xA G)) (fun w' => ∃ w, P w ∧ post w v w') (k + mc) (n + ms) (pc + 3) lv ((emb v).toList ++ st)) : xJ p l e R s m args below meth c G nL (vx_MQ below Qc (xX G PX) args s kc nc (xA G)) P k n pc lv st0 := fun w H locs ls hp hh hs hl => by
  intro T hT X
  rcases hr w H locs ls hp hh hs hl T hT X with ⟨v, st₀, t, T', L, h0, X', hL, e1, e2, ⟨⟨u, w', hv, hpo, hh'⟩, hF⟩, st9⟩ | ⟨q, st₀, t, T', L, E, ce, h0, X', hL, e1, e2, ⟨⟨w', hpx, hh'⟩, hF⟩, hce, hcv, hcl, st9⟩
  · cases hv
    obtain ⟨k1, k2, k3⟩ := vx_keep h0 e1 hs (fun _ _ h => h) (fun _ h => h) hL hF
    obtain ⟨t2, a1, b1⟩ := kk u w' T'.heap (locs ++ L) ls ⟨w, hp, hpo⟩ (by rw [e1]; exact hh') k3 hl T' rfl X'
    exact ⟨t2, st9 t2 a1, b1⟩
  · obtain ⟨k1, k2, k3⟩ := vx_keep h0 e1 hs (fun _ _ h => h) (fun _ h => h) hL hF
    obtain ⟨t2, a1, b1⟩ := vx_out (p := p) (l := l) (e := e) (R := R) (s := s) (m := m) (args := args) (below := below) (meth := meth) (c := c) (H := T'.heap) (locs := locs ++ L) (cells := k + mc) (slots := n + ms) (Qc := Qc) (XC := xX G PX) (free := xA G) (ls := ls) (rest := st) (pc := pc) (fun x hx => (hout x hx).elim) hlk (by rw [e1]; exact hce) hcv hcl
      (fun t' ht' _ => ⟨⟨w', hx w E w' hp hpx, by rw [ht', e1]; exact hh'⟩, k3.F ht'⟩) k3.2.2 hk.1 hk.2 T' rfl X'
    exact ⟨t2, st9.trans a1, b1⟩
theorem xCallB (Γ : xC p s m meth c G cc nL own rt) {y : MethodName} {bytes : ByteArray} {maxL N idx : Nat} {ret : Option FieldType} {rm : Room} (hcode : Cond.code y bytes maxL ret ∈ xAll) (hini : Cond.initialized y.cls ∈ xAll) (hlink : Cond.methodLink own idx y ∈ xAll)
    (hd : y.cls ≠ "java/lang/invoke/MethodHandle" ∧ y.cls ≠ "java/lang/invoke/VarHandle" ∧ (parseMethodDescriptor y.desc).map (fun d => d.parameters.length) = some N) (hR : rm.frames + 1 ≤ R.frames ∧ 8 + (maxL + 11) + rm.locals ≤ R.locals) :
    CallB R s args own idx y bytes maxL ret [.code y bytes maxL ret] rm rm.cells rm.slots N := by
  obtain ⟨hx, hb, hml, hown, hr, hlk, hE, hB⟩ := Γ
  refine ⟨rfl, rfl, hR.1, hR.2, fun w hw a' U hW => ?_, List.mem_cons_self, hE.w hcode, hE.w hini, ⟨hd.1, hd.2.1⟩, fun sig h => ?_, hE.w hlink⟩
  · rcases List.mem_singleton.mp hw with rfl
    exact va_Nw.use (xAll_tb hcode) (xNw_warm (xAll_ok hcode) hW (hE.2.1 _ hcode))
  · have h2 := hd.2.2
    rw [h] at h2
    exact (Option.some.inj h2).symm
theorem xCN (Γ : xC p s m meth c G cc nL own rt) {y : MethodName} {host : String} {bytes : ByteArray} {maxL N idx : Nat} {ret : Option FieldType} {rm : Room} (hcode : Cond.code y bytes maxL ret ∈ xAll) (hini : Cond.initialized y.cls ∈ xAll) (hlink : Cond.methodLinkNest own idx y host ∈ xAll)
    (hd : y.cls ≠ "java/lang/invoke/MethodHandle" ∧ y.cls ≠ "java/lang/invoke/VarHandle" ∧ (parseMethodDescriptor y.desc).map (fun d => d.parameters.length) = some N) (hR : rm.frames + 1 ≤ R.frames ∧ 8 + (maxL + 11) + rm.locals ≤ R.locals) :
    va_CN R s args own idx y host bytes maxL ret [.code y bytes maxL ret] rm rm.cells rm.slots N := by
  obtain ⟨hx, hb, hml, hown, hr, hlk, hE, hB⟩ := Γ
  refine ⟨⟨rfl, rfl, hR.1, hR.2, fun w hw a' U hW => ?_, List.mem_cons_self⟩, hE.w hcode, hE.w hini, ⟨hd.1, hd.2.1⟩, fun sig h => ?_, hE.w hlink⟩
  · rcases List.mem_singleton.mp hw with rfl
    exact va_Nw.use (xAll_tb hcode) (xNw_warm (xAll_ok hcode) hW (hE.2.1 _ hcode))
  · have h2 := hd.2.2
    rw [h] at h2
    exact (Option.some.inj h2).symm
theorem xFix (Γ : xC p s m meth c G cc nL own rt) : CallFix p m c cc nL s args xAll own := ⟨Γ.1, Γ.2.1, Γ.2.2.1, Γ.2.2.2.1, fun w hw => Γ.2.2.2.2.2.2.1.w hw⟩
theorem xPre (Γ : xC p s m meth c G cc nL own rt) {w : xW} {H : Heap} {locs : List Loc} (hh : xH G w H) (hs : va_S (xA G) s.heap H locs) (As : List Value) : PreS s H (xPc G As w) As :=
  ⟨xPc.blind, fun U hU hW => ⟨rfl, Γ.2.2.2.2.2.2.1.next hW (fun a h1 h2 => by rw [hU]; exact hs.2.1 a h1 h2), by rw [hU]; exact hh⟩⟩
theorem xPreV (Γ : xC p s m meth c G cc nL own rt) {w : xW} {H : Heap} {locs : List Loc} (hh : xH G w H) (hs : va_S (xA G) s.heap H locs) {b k0 ci : Nat} {fs : List Value} {C : String} {T : u_T} {N : Nat} (hb : w b = some (k0, .inr (ci, fs))) (hc : vwCl[ci]? = some (C, T, N)) (As : List Value) : PreV s H C b (xPc G (.ref b :: As) w) As :=
  ⟨xPc.blind, va_recv Γ.2.2.2.2.2.2.1.1 (hh.P hb) (q0 := 0) hc rfl, (xPre Γ hh hs _).2⟩
theorem x_invV {α : Type} {emb : α → Option Value} (Γ : xC p s m meth c G cc nL own rt) {y : MethodName} {bytes : ByteArray} {maxL idx b ci : Nat} {ret : Option FieldType} {rm : Room} {T : u_T} {N : Nat} {st0 : List Value} (As : List Value) (post : xW → α → xW → Prop) (hst : st0 = As.reverse ++ .ref b :: st)
    (hM : ∀ w, P w → xMet l G y bytes maxL ret rm (.ref b :: As) w emb (post w)) (hb : ∀ w, P w → ∃ k0 fs, w b = some (k0, .inr (ci, fs))) (hc : vwCl[ci]? = some (y.cls, T, N))
    (hcode : Cond.code y bytes maxL ret ∈ xAll) (hini : Cond.initialized y.cls ∈ xAll) (hlink : Cond.methodLink own idx y ∈ xAll) (hin : Cond.instanceMethod y ∈ xAll) (hsel : Cond.selects y.cls y y ∈ xAll)
    (hdd : y.cls ≠ "java/lang/invoke/MethodHandle" ∧ y.cls ≠ "java/lang/invoke/VarHandle" ∧ (parseMethodDescriptor y.desc).map (fun d => d.parameters.length) = some As.length) (hR : rm.frames + 1 ≤ R.frames ∧ 8 + (maxL + 11) + rm.locals ≤ R.locals) (hf : k + rm.cells ≤ R.cells ∧ n + rm.slots ≤ R.slots) (hW : (st.map fun v => v.category).sum ≤ 8) (hd : decode cc pc = .ok (.invokevirtual idx, 3))
    (kk : ∀ v, xJ p l e R s m args below meth c G nL Q (fun w' => ∃ w, P w ∧ post w v w') (k + rm.cells) (n + rm.slots) (pc + 3) lv ((emb v).toList ++ st)) : xJ p l e R s m args below meth c G nL Q P k n pc lv st0 := by
  subst hst
  refine x_call (emb := emb) (post := post) (mc := rm.cells) (ms := rm.slots) (a := (.ref b :: As).toArray) (fun w H locs ls hp hh hs hl => ?_) kk
  obtain ⟨k0, fs, hbw⟩ := hb w hp
  exact va_runV (As := As) (rest := st) (xFix Γ) (hM w hp) ⟨xCallB Γ hcode hini hlink hdd hR, Γ.2.2.2.2.2.2.1.w hin, Γ.2.2.2.2.2.2.1.w hsel⟩ (xPreV Γ hh hs hbw hc As) rfl rfl hl.1 rfl (lv_room hW) hd hf
theorem x_invVN {α : Type} {emb : α → Option Value} (Γ : xC p s m meth c G cc nL own rt) {y : MethodName} {host : String} {bytes : ByteArray} {maxL idx b ci : Nat} {ret : Option FieldType} {rm : Room} {T : u_T} {N : Nat} {st0 : List Value} (As : List Value) (post : xW → α → xW → Prop) (hst : st0 = As.reverse ++ .ref b :: st)
    (hM : ∀ w, P w → xMet l G y bytes maxL ret rm (.ref b :: As) w emb (post w)) (hb : ∀ w, P w → ∃ k0 fs, w b = some (k0, .inr (ci, fs))) (hc : vwCl[ci]? = some (y.cls, T, N))
    (hcode : Cond.code y bytes maxL ret ∈ xAll) (hini : Cond.initialized y.cls ∈ xAll) (hlink : Cond.methodLinkNest own idx y host ∈ xAll) (hin : Cond.instanceMethod y ∈ xAll) (hsel : Cond.selects y.cls y y ∈ xAll)
    (hdd : y.cls ≠ "java/lang/invoke/MethodHandle" ∧ y.cls ≠ "java/lang/invoke/VarHandle" ∧ (parseMethodDescriptor y.desc).map (fun d => d.parameters.length) = some As.length) (hR : rm.frames + 1 ≤ R.frames ∧ 8 + (maxL + 11) + rm.locals ≤ R.locals) (hf : k + rm.cells ≤ R.cells ∧ n + rm.slots ≤ R.slots) (hW : (st.map fun v => v.category).sum ≤ 8) (hd : decode cc pc = .ok (.invokevirtual idx, 3))
    (kk : ∀ v, xJ p l e R s m args below meth c G nL Q (fun w' => ∃ w, P w ∧ post w v w') (k + rm.cells) (n + rm.slots) (pc + 3) lv ((emb v).toList ++ st)) : xJ p l e R s m args below meth c G nL Q P k n pc lv st0 := by
  subst hst
  refine x_call (emb := emb) (post := post) (mc := rm.cells) (ms := rm.slots) (a := (.ref b :: As).toArray) (fun w H locs ls hp hh hs hl => ?_) kk
  obtain ⟨k0, fs, hbw⟩ := hb w hp
  exact va_runVN (As := As) (rest := st) (xFix Γ) (hM w hp) ⟨xCN Γ hcode hini hlink hdd hR, Γ.2.2.2.2.2.2.1.w hin, Γ.2.2.2.2.2.2.1.w hsel⟩ (xPreV Γ hh hs hbw hc As) rfl rfl hl.1 rfl (lv_room hW) hd hf
theorem x_invS {α : Type} {emb : α → Option Value} (Γ : xC p s m meth c G cc nL own rt) {y : MethodName} {bytes : ByteArray} {maxL idx : Nat} {ret : Option FieldType} {rm : Room} {st0 : List Value} (As : List Value) (post : xW → α → xW → Prop) (hst : st0 = As.reverse ++ st)
    (hM : ∀ w, P w → xMet l G y bytes maxL ret rm As w emb (post w))
    (hcode : Cond.code y bytes maxL ret ∈ xAll) (hini : Cond.initialized y.cls ∈ xAll) (hlink : Cond.methodLink own idx y ∈ xAll) (hin : Cond.static y ∈ xAll)
    (hdd : y.cls ≠ "java/lang/invoke/MethodHandle" ∧ y.cls ≠ "java/lang/invoke/VarHandle" ∧ (parseMethodDescriptor y.desc).map (fun d => d.parameters.length) = some As.length) (hR : rm.frames + 1 ≤ R.frames ∧ 8 + (maxL + 11) + rm.locals ≤ R.locals) (hf : k + rm.cells ≤ R.cells ∧ n + rm.slots ≤ R.slots) (hW : (st.map fun v => v.category).sum ≤ 8) (hd : decode cc pc = .ok (.invokestatic idx, 3))
    (kk : ∀ v, xJ p l e R s m args below meth c G nL Q (fun w' => ∃ w, P w ∧ post w v w') (k + rm.cells) (n + rm.slots) (pc + 3) lv ((emb v).toList ++ st)) : xJ p l e R s m args below meth c G nL Q P k n pc lv st0 := by
  subst hst
  exact x_call (emb := emb) (post := post) (mc := rm.cells) (ms := rm.slots) (a := As.toArray) (fun w H locs ls hp hh hs hl => va_runS (As := As) (rest := st) (xFix Γ) (hM w hp) ⟨xCallB Γ hcode hini hlink hdd hR, Γ.2.2.2.2.2.2.1.w hin⟩ (xPre Γ hh hs As) rfl rfl hl.1 rfl (lv_room hW) hd hf) kk
theorem x_invSN {α : Type} {emb : α → Option Value} (Γ : xC p s m meth c G cc nL own rt) {y : MethodName} {host : String} {bytes : ByteArray} {maxL idx : Nat} {ret : Option FieldType} {rm : Room} {st0 : List Value} (As : List Value) (post : xW → α → xW → Prop) (hst : st0 = As.reverse ++ st)
    (hM : ∀ w, P w → xMet l G y bytes maxL ret rm As w emb (post w))
    (hcode : Cond.code y bytes maxL ret ∈ xAll) (hini : Cond.initialized y.cls ∈ xAll) (hlink : Cond.methodLinkNest own idx y host ∈ xAll) (hin : Cond.static y ∈ xAll)
    (hdd : y.cls ≠ "java/lang/invoke/MethodHandle" ∧ y.cls ≠ "java/lang/invoke/VarHandle" ∧ (parseMethodDescriptor y.desc).map (fun d => d.parameters.length) = some As.length) (hR : rm.frames + 1 ≤ R.frames ∧ 8 + (maxL + 11) + rm.locals ≤ R.locals) (hf : k + rm.cells ≤ R.cells ∧ n + rm.slots ≤ R.slots) (hW : (st.map fun v => v.category).sum ≤ 8) (hd : decode cc pc = .ok (.invokestatic idx, 3))
    (kk : ∀ v, xJ p l e R s m args below meth c G nL Q (fun w' => ∃ w, P w ∧ post w v w') (k + rm.cells) (n + rm.slots) (pc + 3) lv ((emb v).toList ++ st)) : xJ p l e R s m args below meth c G nL Q P k n pc lv st0 := by
  subst hst
  exact x_call (emb := emb) (post := post) (mc := rm.cells) (ms := rm.slots) (a := As.toArray) (fun w H locs ls hp hh hs hl => va_runSN (As := As) (rest := st) (xFix Γ) (hM w hp) ⟨xCN Γ hcode hini hlink hdd hR, Γ.2.2.2.2.2.2.1.w hin, trivial⟩ (xPre Γ hh hs As) rfl rfl hl.1 rfl (lv_room hW) hd hf) kk
theorem x_invI (Γ : xC p s m meth c G cc nL own rt) {y : MethodName} {bytes : ByteArray} {maxL idx b : Nat} {rm : Room} {st0 : List Value} (As : List Value) (post : xW → Unit → xW → Prop) (hst : st0 = As.reverse ++ .ref b :: st)
    (hM : ∀ w, P w → xMet l G y bytes maxL none rm (.ref b :: As) w embV (post w)) (hnm : y.name = "<init>")
    (hcode : Cond.code y bytes maxL none ∈ xAll) (hini : Cond.initialized y.cls ∈ xAll) (hlink : Cond.methodLink own idx y ∈ xAll) (hin : Cond.instanceMethod y ∈ xAll)
    (hdd : y.cls ≠ "java/lang/invoke/MethodHandle" ∧ y.cls ≠ "java/lang/invoke/VarHandle" ∧ (parseMethodDescriptor y.desc).map (fun d => d.parameters.length) = some As.length) (hR : rm.frames + 1 ≤ R.frames ∧ 8 + (maxL + 11) + rm.locals ≤ R.locals) (hf : k + rm.cells ≤ R.cells ∧ n + rm.slots ≤ R.slots) (hW : (st.map fun v => v.category).sum ≤ 8) (hd : decode cc pc = .ok (.invokespecial idx, 3))
    (kk : ∀ v, xJ p l e R s m args below meth c G nL Q (fun w' => ∃ w, P w ∧ post w v w') (k + rm.cells) (n + rm.slots) (pc + 3) lv st) : xJ p l e R s m args below meth c G nL Q P k n pc lv st0 := by
  subst hst
  exact x_call (emb := embV) (post := post) (mc := rm.cells) (ms := rm.slots) (a := (.ref b :: As).toArray) (fun w H locs ls hp hh hs hl => va_runI (As := As) (rest := st) (xFix Γ) (hM w hp) ⟨xCallB Γ hcode hini hlink hdd hR, hnm, Γ.2.2.2.2.2.2.1.w hin⟩ (xPre Γ hh hs (.ref b :: As)) rfl rfl hl.1 rfl (lv_room hW) hd hf) kk
theorem x_invIN (Γ : xC p s m meth c G cc nL own rt) {y : MethodName} {host : String} {bytes : ByteArray} {maxL idx b : Nat} {rm : Room} {st0 : List Value} (As : List Value) (post : xW → Unit → xW → Prop) (hst : st0 = As.reverse ++ .ref b :: st)
    (hM : ∀ w, P w → xMet l G y bytes maxL none rm (.ref b :: As) w embV (post w)) (hnm : y.name = "<init>")
    (hcode : Cond.code y bytes maxL none ∈ xAll) (hini : Cond.initialized y.cls ∈ xAll) (hlink : Cond.methodLinkNest own idx y host ∈ xAll) (hin : Cond.instanceMethod y ∈ xAll)
    (hdd : y.cls ≠ "java/lang/invoke/MethodHandle" ∧ y.cls ≠ "java/lang/invoke/VarHandle" ∧ (parseMethodDescriptor y.desc).map (fun d => d.parameters.length) = some As.length) (hR : rm.frames + 1 ≤ R.frames ∧ 8 + (maxL + 11) + rm.locals ≤ R.locals) (hf : k + rm.cells ≤ R.cells ∧ n + rm.slots ≤ R.slots) (hW : (st.map fun v => v.category).sum ≤ 8) (hd : decode cc pc = .ok (.invokespecial idx, 3))
    (kk : ∀ v, xJ p l e R s m args below meth c G nL Q (fun w' => ∃ w, P w ∧ post w v w') (k + rm.cells) (n + rm.slots) (pc + 3) lv st) : xJ p l e R s m args below meth c G nL Q P k n pc lv st0 := by
  subst hst
  exact x_call (emb := embV) (post := post) (mc := rm.cells) (ms := rm.slots) (a := (.ref b :: As).toArray) (fun w H locs ls hp hh hs hl => va_runIN (As := As) (rest := st) (xFix Γ) (hM w hp) ⟨xCN Γ hcode hini hlink hdd hR, hnm, Γ.2.2.2.2.2.2.1.w hin⟩ (xPre Γ hh hs (.ref b :: As)) rfl rfl hl.1 rfl (lv_room hW) hd hf) kk
theorem x_invVX {α : Type} {emb : α → Option Value} (Γ : xC p s m meth c G cc nL own rt) {PX : String → xW → Prop} {Qc : Array Value → State → Outcome → State → Prop} {kc nc : Nat} {y : MethodName} {bytes : ByteArray} {maxL idx b ci : Nat} {ret : Option FieldType} {rm : Room} {T : u_T} {N : Nat} {st0 : List Value} (As : List Value) (post : xW → α → xW → Prop) (px : xW → String → xW → Prop) (hst : st0 = As.reverse ++ .ref b :: st)
    (hM : ∀ w, P w → xMetX l G y bytes maxL ret rm (.ref b :: As) w emb (post w) (px w)) (hout : ∀ x ∈ c.exceptionTable.toList, False) (hx : ∀ w E w', P w → px w E w' → PX E w') (hk : k + rm.cells ≤ kc ∧ n + rm.slots ≤ nc) (hb : ∀ w, P w → ∃ k0 fs, w b = some (k0, .inr (ci, fs))) (hc : vwCl[ci]? = some (y.cls, T, N))
    (hcode : Cond.code y bytes maxL ret ∈ xAll) (hini : Cond.initialized y.cls ∈ xAll) (hlink : Cond.methodLink own idx y ∈ xAll) (hin : Cond.instanceMethod y ∈ xAll) (hsel : Cond.selects y.cls y y ∈ xAll)
    (hdd : y.cls ≠ "java/lang/invoke/MethodHandle" ∧ y.cls ≠ "java/lang/invoke/VarHandle" ∧ (parseMethodDescriptor y.desc).map (fun d => d.parameters.length) = some As.length) (hR : rm.frames + 1 ≤ R.frames ∧ 8 + (maxL + 11) + rm.locals ≤ R.locals) (hf : k + rm.cells ≤ R.cells ∧ n + rm.slots ≤ R.slots) (hW : (st.map fun v => v.category).sum ≤ 8) (hd : decode cc pc = .ok (.invokevirtual idx, 3))
    (kk : ∀ v, xJ p l e R s m args below meth c G nL (vx_MQ below Qc (xX G PX) args s kc nc (xA G)) (fun w' => ∃ w, P w ∧ post w v w') (k + rm.cells) (n + rm.slots) (pc + 3) lv ((emb v).toList ++ st)) : xJ p l e R s m args below meth c G nL (vx_MQ below Qc (xX G PX) args s kc nc (xA G)) P k n pc lv st0 := by
  subst hst
  refine x_callX (emb := emb) (post := post) (px := px) (mc := rm.cells) (ms := rm.slots) (a := (.ref b :: As).toArray) Γ.2.2.2.2.2.1 hout hx hk (fun w H locs ls hp hh hs hl => ?_) kk
  obtain ⟨k0, fs, hbw⟩ := hb w hp
  exact vx_runV (As := As) (rest := st) (xFix Γ) (hM w hp) ⟨xCallB Γ hcode hini hlink hdd hR, Γ.2.2.2.2.2.2.1.w hin, Γ.2.2.2.2.2.2.1.w hsel⟩ (xPreV Γ hh hs hbw hc As) rfl rfl hl.1 rfl (lv_room hW) hd hf
/-! throw new E("text") in the class LeftThings -/
theorem x_throw {cc : ByteArray} (Γ : xC p s m meth c G cc nL RX2 rt) (hflag : l.stackTraces = false) {PX : String → xW → Prop} {Qc : Array Value → State → Outcome → State → Prop} {kc nc : Nat} {cls text : String} {ik is ic : Nat} (hcls : Bundle.fit cls = true) (hk : Cond.classLink RX2 ik cls ∈ xAll) (hini : Cond.initialized cls ∈ xAll) (hstr : (is, text) ∈ xStr)
    (hat : ∀ w ∈ vx_atS RX2 ic cls ["java/lang/RuntimeException", "java/lang/Exception"], w ∈ xAll) (d0 : decode cc pc = .ok (.new ik, 3)) (d3 : decode cc (pc + 3) = .ok (.dup, 1)) (d4 : decode cc (pc + 4) = .ok (.ldc is, 2)) (d6 : decode cc (pc + 6) = .ok (.invokespecial ic, 3)) (d9 : decode cc (pc + 9) = .ok (.athrow, 1))
    (hout : ∀ x ∈ c.exceptionTable.toList, False) (hRf : 5 < R.frames ∧ (st.map fun v => v.category).sum + 82 ≤ R.locals) (hR : k + 1 ≤ R.cells ∧ n + 6 ≤ R.slots) (hx : ∀ w, P w → PX cls w) (hkc : k + 1 ≤ kc ∧ n + 6 ≤ nc) :
    xJ p l e R s m args below meth c G nL (vx_MQ below Qc (xX G PX) args s kc nc (xA G)) P k n pc lv st := fun w H locs ls hp hh hs hl => by
  obtain ⟨hx0, hb, hml, hown, hr, hlk, hE, hB⟩ := Γ
  have hE' := hE
  obtain ⟨h1, h2, h3, h4, h5, h6, h7, h8, h9, h10, h11, h12⟩ := hE'
  refine vx_throwS (names := ["java/lang/RuntimeException", "java/lang/Exception"]) (ik := ik) (is := is) (ic := ic) (own := RX2) (cls := cls) (text := text) (sa := G.2 (1000 + is)) (A := xA G) hx0 hb hflag hown hcls (by decide) (hE.w hk) (hE.w hini) (h10 _ hstr) (fun w hw => hE.w (hat w hw)) (fun w hw => ?_) h6 h7 hs (hl.1.trans hml.symm) d0 d3 d4 d6 d9 (fun x hx => (hout x hx).elim) hRf.1 (by have := hRf.2; simp only [List.length_cons, List.length_nil]; omega) hR.1 hR.2 hlk (fun t ht1 ht2 ht3 => ⟨⟨w, hx w hp, hh.grow ht2 ht3⟩, ?_⟩) hs.2.2 hkc.1 hkc.2
  · have h0 : w.onTables = true := by
      rcases List.mem_cons.mp hw with rfl | hw
      · rfl
      · rcases List.mem_cons.mp hw with rfl | hw
        · rfl
        · exact xAll_tb (hat w hw)
    simp only [vx_ot, h0, Bool.true_or]
  · exact ⟨Nat.le_trans hs.1 ht2, fun q h1 h2 => (ht3 q (Nat.lt_of_lt_of_le h1 hs.1)).trans (hs.2.1 q h1 h2)⟩
/-! the rest -/
theorem x_obj (Γ : xC p s m meth c G cc nL own rt) {idx a : Nat} (hlink : Cond.methodLink own idx Lib.objectInit ∈ xAll) (hR : 1 ≤ R.frames ∧ (st.map fun v => v.category).sum + 12 ≤ R.locals) (hd : decode cc pc = .ok (.invokespecial idx, 3))
    (kk : xJ p l e R s m args below meth c G nL Q P k n (pc + 3) lv st) : xJ p l e R s m args below meth c G nL Q P k n pc lv (.ref a :: st) := fun w H locs ls hp hh hs hl => by
  obtain ⟨hx, hb, hml, hown, hr, hlk, hE, hB⟩ := Γ
  exact W.objInit hx hb hown (hE.w hlink) (hE.w k_26) (hE.w k_27) rfl (by rw [hml]; exact hl.1) rfl hd hR.1 (by show 2 * 0 + _ + 12 ≤ _; have := hR.2; omega) (kk w H locs ls hp hh hs hl)
theorem x_gets (Γ : xC p s m meth c G cc nL RJx4a65c rt) {st : List Value} (hd : decode cc pc = .ok (.getstatic 39, 3)) (kk : xJ p l e R s m args below meth c G nL Q P k n (pc + 3) lv (.ref (G.2 4) :: st)) : xJ p l e R s m args below meth c G nL Q P k n pc lv st := fun w H locs ls hp hh hs hl => by
  obtain ⟨hx, hb, hml, hown, hr, hlk, hE, hB⟩ := Γ
  exact va_gets hx hb hE.2.2.2.2.2.2.2.1 hs hown (hE.w k_40) (fun _ h9 => h9) hd (kk w H locs ls hp hh hs hl)
theorem x_slen0 (Γ : xC p s m meth c G cc nL own rt) (hd : decode cc pc = .ok (.arraylength, 1)) (kk : xJ p l e R s m args below meth c G nL Q P k n (pc + 1) lv (.int 0 :: st)) : xJ p l e R s m args below meth c G nL Q P k n pc lv (.ref (G.2 4) :: st) := fun w H locs ls hp hh hs hl => by
  obtain ⟨hx, hb, hml, hown, hr, hlk, hE, hB⟩ := Γ
  exact va_tlen hx hb hE.2.2.2.2.2.2.2.2.1 hs rfl hd (kk w H locs ls hp hh hs hl)
theorem x_cast (Γ : xC p s m meth c G cc nL own rt) {C : String} {T : u_T} {N ci idx a : Nat} (hc : vwCl[ci]? = some (C, T, N)) (hv : ∀ w, P w → ∃ k0 fs, w a = some (k0, .inr (ci, fs))) (hlink : Cond.classLink own idx C ∈ xAll) (hd : decode cc pc = .ok (.checkcast idx, 3))
    (kk : xJ p l e R s m args below meth c G nL Q P k n (pc + 3) lv (.ref a :: st)) : xJ p l e R s m args below meth c G nL Q P k n pc lv (.ref a :: st) := fun w H locs ls hp hh hs hl => by
  obtain ⟨k0, fs, ha⟩ := hv w hp
  obtain ⟨hx, hb, hml, hown, hr, hlk, hE, hB⟩ := Γ
  obtain ⟨cell, h1, h2, h3⟩ := va_recv hE.1 (hh.P ha) (q0 := 0) hc rfl
  have hca := (hE.1.1 ci _ hc).2
  have hcc : cell.cls = G.1.1 ci := Option.some.inj (h3.symm.trans hca.1)
  intro T0 hT X
  obtain ⟨vm', X', st9⟩ := X.checkcastYes hx hown (hE.w hlink) (by rw [hT]; exact h1) h2 hca.1 (by rw [hcc]; exact va_assign hca) (g := F0 m pc ls (.ref a :: st)) rfl rfl (by rw [hb]; exact hd)
  obtain ⟨t, a1, b1⟩ := kk w H locs ls hp hh hs hl (T0.setVm vm') hT X'
  exact ⟨t, st9 t a1, b1⟩
end XCL

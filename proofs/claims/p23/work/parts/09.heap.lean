section XHP
/-- what the rows ask of a class: its place, its fields' words, their types, their names -/
def xKl (C : String) (T : u_T) (N ci : Nat) (ty0 : Nat → FieldType) : Prop :=
  vwCl[ci]? = some (C, T, N) ∧ (∀ w ∈ u_ws C T N, w ∈ xAll) ∧ (∀ k, k < N → parseFieldDescriptor (T k).2.2.1 = some (ty0 k)) ∧ ∀ a, a < N → ∀ b, b < N → a ≠ b → (T a).2.1 ≠ (T b).2.1
theorem kl0 : xKl RJx4a65c TJx4a65c 3 0 tyJx4a65c := ⟨rfl, xin_RJx4a65c, tyJx4a65c_ok, nmJx4a65c⟩
theorem kl1 : xKl RX0 TX0 3 1 tyX0 := ⟨rfl, xin_RX0, tyX0_ok, nmX0⟩
theorem kl2 : xKl RX1 TX1 12 2 tyX1 := ⟨rfl, xin_RX1, tyX1_ok, nmX1⟩
theorem kl3 : xKl RX2 TX2 7 3 tyX2 := ⟨rfl, xin_RX2, tyX2_ok, nmX2⟩
variable {p : Program} {l : Launch} {e : Env} {R : Room} {s : State} {m : MethodId} {args : Array Value} {below : List Frame} {meth : Method} {c : Code} {G : xG} {cc : ByteArray} {nL : Nat} {own : String} {rt : Option FieldType} {Q : State → Prop} {P P' : xW → Prop} {k n pc : Nat} {lv : List (Nat × Value)} {st : List Value}
theorem x_getf (Γ : xC p s m meth c G cc nL own rt) {C ref : String} {T : u_T} {N ci idx a : Nat} {ty0 : Nat → FieldType} (K : xKl C T N ci ty0) (j : Nat) {v : Value} (hv : ∀ w, P w → ∃ k0 fs, w a = some (k0, .inr (ci, fs)) ∧ fs[j]? = some v) (hj : j < N)
    (hlink : Cond.fieldLink own idx ref (T j).2.1 (T j).2.2.1 ∈ xAll) (hsame : ref = (T j).1 ∨ Cond.sameField ref (T j).1 (T j).2.1 (T j).2.2.1 ∈ xAll) (hd : decode cc pc = .ok (.getfield idx, 3))
    (kk : xJ p l e R s m args below meth c G nL Q P k n (pc + 3) lv (v :: st)) : xJ p l e R s m args below meth c G nL Q P k n pc lv (.ref a :: st) := fun w H locs ls hp hh hs hl => by
  obtain ⟨k0, fs, ha, hf⟩ := hv w hp
  obtain ⟨hx, hb, hml, hown, hr, hlk, hE, hB⟩ := Γ
  refine va_get (Ts := xAll) (q0 := 0) hx hb (fun w hw => hE.w hw) K.2.1 hown hE.1 (hh.P ha) rfl K.1 j hj (hE.w hlink) ?_ hf hd (kk w H locs ls hp hh hs hl)
  rcases hsame with rfl | hsame
  · exact fun _ h9 => h9
  · exact u_same (hE.w (args := args) hsame)
theorem x_getfN (Γ : xC p s m meth c G cc nL own rt) {C host : String} {T : u_T} {N ci idx a : Nat} {ty0 : Nat → FieldType} (K : xKl C T N ci ty0) (j : Nat) {v : Value} (hv : ∀ w, P w → ∃ k0 fs, w a = some (k0, .inr (ci, fs)) ∧ fs[j]? = some v) (hj : j < N)
    (hlink : Cond.fieldLinkNest own idx (T j).1 (T j).2.1 (T j).2.2.1 host ∈ xAll) (hd : decode cc pc = .ok (.getfield idx, 3))
    (kk : xJ p l e R s m args below meth c G nL Q P k n (pc + 3) lv (v :: st)) : xJ p l e R s m args below meth c G nL Q P k n pc lv (.ref a :: st) := fun w H locs ls hp hh hs hl => by
  obtain ⟨k0, fs, ha, hf⟩ := hv w hp
  obtain ⟨hx, hb, hml, hown, hr, hlk, hE, hB⟩ := Γ
  exact va_getN (Ts := xAll) (q0 := 0) hx hb (fun w hw => hE.w hw) K.2.1 hown hE.1 (hh.P ha) rfl K.1 j hj (hE.w hlink) (fun _ h9 => h9) hf hd (kk w H locs ls hp hh hs hl)
theorem x_putf (Γ : xC p s m meth c G cc nL own rt) {C ref : String} {T : u_T} {N ci idx a : Nat} {ty0 : Nat → FieldType} (K : xKl C T N ci ty0) (j : Nat) {v : Value} (hv : ∀ w, P w → ∃ k0 fs, w a = some (k0, .inr (ci, fs)) ∧ j < fs.length ∧ P' (xu w a (k0, .inr (ci, fs.set j v)))) (hj : j < N)
    (hlink : Cond.fieldLink own idx ref (T j).2.1 (T j).2.2.1 ∈ xAll) (hsame : ref = (T j).1 ∨ Cond.sameField ref (T j).1 (T j).2.1 (T j).2.2.1 ∈ xAll) (hfin : (T j).2.2.2 = false) (hn : narrow (ty0 j) v = v) (hfit : fits (ty0 j) v = true) (hd : decode cc pc = .ok (.putfield idx, 3))
    (kk : xJ p l e R s m args below meth c G nL Q P' k n (pc + 3) lv st) : xJ p l e R s m args below meth c G nL Q P k n pc lv (v :: .ref a :: st) := fun w H locs ls hp hh hs hl => by
  obtain ⟨k0, fs, ha, hlen, hp'⟩ := hv w hp
  obtain ⟨hx, hb, hml, hown, hr, hlk, hE, hB⟩ := Γ
  obtain ⟨hc, hin, hty, hnm⟩ := K
  have hts : ∀ w ∈ xAll, w.before args s = true := fun w hw => hE.w hw
  have hap := va_apart (own := own) hts hin ty0 hty hnm hE.1 hc
  obtain ⟨r, h1, cell, q1, q2, q3, q4⟩ := (hh.2 a _ ha).2
  have hr : r = (C, T, N) := Option.some.inj (h1.symm.trans hc)
  subst hr
  obtain ⟨hS, hfc, kC, hkC, hkind⟩ := hE.1.1 ci _ hc
  obtain ⟨cf, kf, fi, f, hi, hsl⟩ := hS j hj
  have hlay := hts _ (hin _ (u_in_lay hj))
  unfold u_lay at hlay
  rw [if_neg (by rw [hfin]; decide)] at hlay
  have hst := (u_facts hfc hkC (u_lays hts hin hj) hi).1
  have h6 := u_store hfc hkC hkind hlay hi (hty j hj) hn hfit
  have hi2 : s.fieldFound? ref (T j).2.1 (T j).2.2.1 = some (cf, kf, fi, f) := by
    rcases hsame with rfl | hsame
    · exact hi
    · exact u_same (hE.w (args := args) hsame) _ hi
  refine W.putK hx hb (f := f) ⟨hown, hE.w hlink, ⟨_, _, _, hi2⟩, hst⟩ (by rw [q2]; exact h6) q1 q3 (by rw [hsl]; exact k2_hasslot (q4 j hj)) rfl rfl hd fun H' e1 e2 e3 => ?_
  rw [hsl] at e1 ⊢
  exact kk _ H' _ ls hp' (hh.set ha ⟨_, hc, t_OB.to (V := updV (vp_V fs) j v) ⟨_, e1, q2, q3, t_set q4 hap hj v⟩ (fun i _ => vp_updV_set hlen v i)⟩ e3 e2) (hs.put e2 e3 (hh.2 a _ ha).1) hl
theorem x_putfN (Γ : xC p s m meth c G cc nL own rt) {C host : String} {T : u_T} {N ci idx a : Nat} {ty0 : Nat → FieldType} (K : xKl C T N ci ty0) (j : Nat) {v : Value} (hv : ∀ w, P w → ∃ k0 fs, w a = some (k0, .inr (ci, fs)) ∧ j < fs.length ∧ P' (xu w a (k0, .inr (ci, fs.set j v)))) (hj : j < N)
    (hlink : Cond.fieldLinkNest own idx (T j).1 (T j).2.1 (T j).2.2.1 host ∈ xAll) (hfin : (T j).2.2.2 = false) (hn : narrow (ty0 j) v = v) (hfit : fits (ty0 j) v = true) (hd : decode cc pc = .ok (.putfield idx, 3))
    (kk : xJ p l e R s m args below meth c G nL Q P' k n (pc + 3) lv st) : xJ p l e R s m args below meth c G nL Q P k n pc lv (v :: .ref a :: st) := fun w H locs ls hp hh hs hl => by
  obtain ⟨k0, fs, ha, hlen, hp'⟩ := hv w hp
  obtain ⟨hx, hb, hml, hown, hr, hlk, hE, hB⟩ := Γ
  obtain ⟨hc, hin, hty, hnm⟩ := K
  have hts : ∀ w ∈ xAll, w.before args s = true := fun w hw => hE.w hw
  have hap := va_apart (own := own) hts hin ty0 hty hnm hE.1 hc
  obtain ⟨r, h1, cell, q1, q2, q3, q4⟩ := (hh.2 a _ ha).2
  have hr : r = (C, T, N) := Option.some.inj (h1.symm.trans hc)
  subst hr
  obtain ⟨hS, hfc, kC, hkC, hkind⟩ := hE.1.1 ci _ hc
  obtain ⟨cf, kf, fi, f, hi, hsl⟩ := hS j hj
  have hlay := hts _ (hin _ (u_in_lay hj))
  unfold u_lay at hlay
  rw [if_neg (by rw [hfin]; decide)] at hlay
  have hst := (u_facts hfc hkC (u_lays hts hin hj) hi).1
  have h6 := u_store hfc hkC hkind hlay hi (hty j hj) hn hfit
  refine va_WputK hx hb (f := f) hown (hE.w hlink) hi hst (by rw [q2]; exact h6) q1 q3 (by rw [hsl]; exact k2_hasslot (q4 j hj)) rfl rfl hd fun H' e1 e2 e3 => ?_
  rw [hsl] at e1 ⊢
  exact kk _ H' _ ls hp' (hh.set ha ⟨_, hc, t_OB.to (V := updV (vp_V fs) j v) ⟨_, e1, q2, q3, t_set q4 hap hj v⟩ (fun i _ => vp_updV_set hlen v i)⟩ e3 e2) (hs.put e2 e3 (hh.2 a _ ha).1) hl
theorem x_putfF (Γ : xC p s m meth c G cc nL own rt) (hin2 : meth.name = "<init>") {C : String} {T : u_T} {N ci idx a : Nat} {ty0 : Nat → FieldType} (K : xKl C T N ci ty0) (j : Nat) {v : Value} (hv : ∀ w, P w → ∃ k0 fs, w a = some (k0, .inr (ci, fs)) ∧ j < fs.length ∧ P' (xu w a (k0, .inr (ci, fs.set j v)))) (hj : j < N)
    (hlink : Cond.fieldLink own idx (T j).1 (T j).2.1 (T j).2.2.1 ∈ xAll) (hfin : (T j).2.2.2 = true) (hdecl : (T j).1 = own) (hn : narrow (ty0 j) v = v) (hfit : fits (ty0 j) v = true) (hd : decode cc pc = .ok (.putfield idx, 3))
    (kk : xJ p l e R s m args below meth c G nL Q P' k n (pc + 3) lv st) : xJ p l e R s m args below meth c G nL Q P k n pc lv (v :: .ref a :: st) := fun w H locs ls hp hh hs hl => by
  obtain ⟨k0, fs, ha, hlen, hp'⟩ := hv w hp
  obtain ⟨hx, hb, hml, hown, hr, hlk, hE, hB⟩ := Γ
  obtain ⟨hc, hin, hty, hnm⟩ := K
  have hts : ∀ w ∈ xAll, w.before args s = true := fun w hw => hE.w hw
  have hap := va_apart (own := own) hts hin ty0 hty hnm hE.1 hc
  obtain ⟨r, h1, cell, q1, q2, q3, q4⟩ := (hh.2 a _ ha).2
  have hr : r = (C, T, N) := Option.some.inj (h1.symm.trans hc)
  subst hr
  obtain ⟨hS, hfc, kC, hkC, hkind⟩ := hE.1.1 ci _ hc
  obtain ⟨cf, kf, fi, f, hi, hsl⟩ := hS j hj
  have hlay := hts _ (hin _ (u_in_lay hj))
  unfold u_lay at hlay
  rw [if_pos hfin] at hlay
  have hst := (u_facts hfc hkC (u_lays hts hin hj) hi).1
  have hcf : m.cls = cf := by
    obtain ⟨_, _, c', _, _, _, -, -, hf', -, -, -, hown2, -⟩ := Cond.laysFinal_spec hlay
    have e1 : c' = cf := by have := hi.symm.trans hf'; simp at this; exact this.1.symm
    rw [hdecl] at hown2
    rw [← e1]; exact Option.some.inj (hown.symm.trans hown2)
  have h6 := u_fits hfc hkC hkind (Or.inr hlay) hi (hty j hj) hn hfit
  refine W.putFinK hx hb hown (hE.w hlink) hi hst hcf hin2 (by rw [q2]; exact h6) q1 q3 (by rw [hsl]; exact k2_hasslot (q4 j hj)) rfl rfl hd fun H' e1 e2 e3 => ?_
  rw [hsl] at e1 ⊢
  exact kk _ H' _ ls hp' (hh.set ha ⟨_, hc, t_OB.to (V := updV (vp_V fs) j v) ⟨_, e1, q2, q3, t_set q4 hap hj v⟩ (fun i _ => vp_updV_set hlen v i)⟩ e3 e2) (hs.put e2 e3 (hh.2 a _ ha).1) hl
/-! arrays -/
theorem x_iald (Γ : xC p s m meth c G cc nL own rt) {a N : Nat} {f : Nat → Int32} {i : Int32} (hv : ∀ w, P w → ∃ k0, w a = some (k0, .inl (G.2 1, N, .inl f))) (hin : vp_in i N) {x : Int32} (he : f i.toNatClampNeg = x) (hd : decode cc pc = .ok (.iaload, 1))
    (kk : xJ p l e R s m args below meth c G nL Q P k n (pc + 1) lv (.int x :: st)) : xJ p l e R s m args below meth c G nL Q P k n pc lv (.int i :: .ref a :: st) := fun w H locs ls hp hh hs hl => by
  obtain ⟨k0, ha⟩ := hv w hp
  subst he
  exact va_iald Γ.1 Γ.2.1 Γ.2.2.2.2.2.2.1.1 (hh.P ha) 0 0 rfl rfl hin hd (kk w H locs ls hp hh hs hl)
theorem x_aald (Γ : xC p s m meth c G cc nL own rt) {a N b : Nat} {f : Nat → Option Nat} {i : Int32} (hv : ∀ w, P w → ∃ k0, w a = some (k0, .inl (G.2 3, N, .inr (.inr (.inr (.inr f)))))) (hin : vp_in i N) (he : f i.toNatClampNeg = some b) (hd : decode cc pc = .ok (.aaload, 1))
    (kk : xJ p l e R s m args below meth c G nL Q P k n (pc + 1) lv (.ref b :: st)) : xJ p l e R s m args below meth c G nL Q P k n pc lv (.int i :: .ref a :: st) := fun w H locs ls hp hh hs hl => by
  obtain ⟨k0, ha⟩ := hv w hp
  have h := kk w H locs ls hp hh hs hl
  refine va_aldq Γ.1 Γ.2.1 Γ.2.2.2.2.2.2.1.1 (hh.P ha) 0 2 rfl rfl hin hd ?_
  rw [he]
  exact h
theorem x_alen (Γ : xC p s m meth c G cc nL own rt) {a N : Nat} (hv : ∀ w, P w → ∃ k0 x, (w a = some (k0, .inl (G.2 1, N, x)) ∨ w a = some (k0, .inl (G.2 2, N, x)) ∨ w a = some (k0, .inl (G.2 3, N, x)))) (hd : decode cc pc = .ok (.arraylength, 1))
    (kk : xJ p l e R s m args below meth c G nL Q P k n (pc + 1) lv (.int (nI N) :: st)) : xJ p l e R s m args below meth c G nL Q P k n pc lv (.ref a :: st) := fun w H locs ls hp hh hs hl => by
  obtain ⟨k0, x, ha | ha | ha⟩ := hv w hp
  · exact va_alen Γ.1 Γ.2.1 Γ.2.2.2.2.2.2.1.1 (hh.P ha) 0 0 rfl rfl rfl hd (kk w H locs ls hp hh hs hl)
  · exact va_alen Γ.1 Γ.2.1 Γ.2.2.2.2.2.2.1.1 (hh.P ha) 0 1 rfl rfl rfl hd (kk w H locs ls hp hh hs hl)
  · exact va_alen Γ.1 Γ.2.1 Γ.2.2.2.2.2.2.1.1 (hh.P ha) 0 2 rfl rfl rfl hd (kk w H locs ls hp hh hs hl)
theorem x_iast (Γ : xC p s m meth c G cc nL own rt) {a N : Nat} {f : Nat → Int32} {i x : Int32} (hv : ∀ w, P w → ∃ k0, w a = some (k0, .inl (G.2 1, N, .inl f)) ∧ P' (xu w a (k0, .inl (G.2 1, N, .inl (upd f i.toNatClampNeg x))))) (hin : vp_in i N) (hd : decode cc pc = .ok (.iastore, 1))
    (kk : xJ p l e R s m args below meth c G nL Q P' k n (pc + 1) lv st) : xJ p l e R s m args below meth c G nL Q P k n pc lv (.int x :: .int i :: .ref a :: st) := fun w H locs ls hp hh hs hl => by
  obtain ⟨k0, ha, hp'⟩ := hv w hp
  obtain ⟨hx, hb, hml, hown, hr, hlk, hE, hB⟩ := Γ
  refine W.iast hx hb (hh.2 a _ ha).2 ((hE.1.2 0 _ rfl).1 N (fun j => .int (f j))) (fun q => by cases q) (by show ¬ (i < 0 ∨ (arrV _ _ _).slots.size ≤ _); rw [arrV_size]; exact hin) rfl rfl hd fun H1 e z oq => ?_
  refine kk _ H1 _ ls hp' (hh.set ha ?_ oq z) (hs.put z oq (hh.2 a _ ha).1) hl
  show H1[a]? = some (vp_cell _ _)
  rw [e]
  rw [vp_cell_i, vp_cell_i, arrV_store]
  congr 2
  funext q
  by_cases hq : q = i.toNatClampNeg
  · subst hq
    simp [updV, upd]
  · simp [updV, upd, hq]
theorem xAny (hE : xE G s s.heap) {w : xW} {H : Heap} (hh : xH G w H) {v k1 ci : Nat} {fs : List Value} {q : vw_C} (hv : w v = some (k1, .inr (ci, fs))) (hc : vwCl[ci]? = some q) (hca : Cond.castable q.1 "java/lang/Object" ∈ xAll) : va_Any "java/lang/Object" s H v := by
  refine va_rAny hE.1 (hh.P hv) (q0 := 0) rfl hc (fun comp c0 h1 h2 => ?_)
  obtain ⟨a0, b0, f1, f2, f3⟩ := Cond.castable_spec (hE.w (args := #[]) hca)
  cases h2.symm.trans f1
  cases h1.symm.trans f2
  exact f3
theorem x_aast (Γ : xC p s m meth c G cc nL own rt) {a N v : Nat} {f : Nat → Option Nat} {i : Int32} (hv : ∀ w, P w → ∃ k0, w a = some (k0, .inl (G.2 3, N, .inr (.inr (.inr (.inr f))))) ∧ P' (xu w a (k0, .inl (G.2 3, N, .inr (.inr (.inr (.inr (va_up f i.toNatClampNeg (some v)))))))))
    (hel : ∀ w, P w → ∃ k1 ci fs, w v = some (k1, .inr (ci, fs)) ∧ ∃ q, vwCl[ci]? = some q ∧ Cond.castable q.1 "java/lang/Object" ∈ xAll) (hin : vp_in i N) (hd : decode cc pc = .ok (.aastore, 1))
    (kk : xJ p l e R s m args below meth c G nL Q P' k n (pc + 1) lv st) : xJ p l e R s m args below meth c G nL Q P k n pc lv (.ref v :: .int i :: .ref a :: st) := fun w H locs ls hp hh hs hl => by
  obtain ⟨k0, ha, hp'⟩ := hv w hp
  obtain ⟨hx, hb, hml, hown, hr, hlk, hE, hB⟩ := Γ
  obtain ⟨k1, ci, fs, hv1, q, hq, hca⟩ := hel w hp
  obtain ⟨cellV, g1, g3, ⟨kC, hkC⟩, hasg⟩ := xAny hE hh hv1 hq hca
  have hlt : i.toNatClampNeg < N := Nat.not_le.mp fun q => hin (Or.inr q)
  have h0 : ¬ i < 0 := fun q => hin (Or.inl q)
  obtain ⟨kA, comp, k1, k2, k3, -⟩ := (hE.1.2 2 _ rfl).2
  obtain ⟨kE, hkE, -⟩ := Vm.findClass_spec k3
  refine W.aast hx hb (hh.2 a _ ha).2 (fun q h => by cases h) (fun h => by cases h) k1 k2 rfl hkE ⟨h0, by show _ < (arrV _ _ _).slots.size; rw [arrV_size]; exact hlt⟩ g1 (fun q h => by rw [h] at g3; cases g3) hkC (hasg _ k3) rfl rfl hd fun H1 e z oq => ?_
  refine kk _ H1 _ ls hp' (hh.set ha ?_ oq z) (hs.put z oq (hh.2 a _ ha).1) hl
  show H1[a]? = some (vp_cell _ _)
  rw [e]
  rw [vp_cell_q, vp_cell_q, arrV_store]
  congr 2
  funext q
  by_cases hq : q = i.toNatClampNeg
  · subst hq
    simp [updV, va_up, va_rf]
  · simp [updV, va_up, hq]
theorem x_aastN (Γ : xC p s m meth c G cc nL own rt) {a N : Nat} {f : Nat → Option Nat} {i : Int32} (hv : ∀ w, P w → ∃ k0, w a = some (k0, .inl (G.2 3, N, .inr (.inr (.inr (.inr f))))) ∧ P' (xu w a (k0, .inl (G.2 3, N, .inr (.inr (.inr (.inr (va_up f i.toNatClampNeg none)))))))) (hin : vp_in i N) (hd : decode cc pc = .ok (.aastore, 1))
    (kk : xJ p l e R s m args below meth c G nL Q P' k n (pc + 1) lv st) : xJ p l e R s m args below meth c G nL Q P k n pc lv (.null :: .int i :: .ref a :: st) := fun w H locs ls hp hh hs hl => by
  obtain ⟨k0, ha, hp'⟩ := hv w hp
  obtain ⟨hx, hb, hml, hown, hr, hlk, hE, hB⟩ := Γ
  refine va_WaastN (C := "java/lang/Object") hx hb (hh.2 a _ ha).2 ((hE.1.2 2 _ rfl).1 N (fun j => va_rf (f j))) (fun h => by cases h) (by show ¬ (i < 0 ∨ (arrV _ _ _).slots.size ≤ _); rw [arrV_size]; exact hin) rfl rfl hd fun H1 e z oq => ?_
  refine kk _ H1 _ ls hp' (hh.set ha ?_ oq z) (hs.put z oq (hh.2 a _ ha).1) hl
  show H1[a]? = some (vp_cell _ _)
  rw [e]
  rw [vp_cell_q, vp_cell_q, arrV_store]
  congr 2
  funext q
  by_cases hq : q = i.toNatClampNeg
  · subst hq
    simp [updV, va_up, va_rf]
  · simp [updV, va_up, hq]
/-! makings -/
theorem x_new (Γ : xC p s m meth c G cc nL own rt) {C : String} {T : u_T} {N ci idx : Nat} {ty0 : Nat → FieldType} (K : xKl C T N ci ty0) (fs : List Value) (col : Nat) {F : Nat → xW → Prop} (hfs : ∀ j, j < N → defaultValue (ty0 j) = vp_V fs j) (hcl : Cond.classLink own idx C ∈ xAll) (hinst : Cond.instantiable C N ∈ xAll) (hini : Cond.initialized C ∈ xAll)
    (hv : ∀ w a, P w → w a = none → F a (xu w a (col, .inr (ci, fs)))) (hR : k + 1 ≤ R.cells ∧ n + N ≤ R.slots) (hd : decode cc pc = .ok (.new idx, 3))
    (kk : ∀ a, xJ p l e R s m args below meth c G nL Q (F a) (k + 1) (n + N) (pc + 3) lv (.ref a :: st)) : xJ p l e R s m args below meth c G nL Q P k n pc lv st := fun w H locs ls hp hh hs hl => by
  obtain ⟨hx, hb, hml, hown, hr, hlk, hE, hB⟩ := Γ
  obtain ⟨hc, hin, hty, hnm⟩ := K
  have hts : ∀ w ∈ xAll, w.before args s = true := fun w hw => hE.w hw
  have hKn := hE.1.1 ci _ hc
  refine W.newcK hx hb hown (hE.w hcl) (hE.w hinst) (hE.w hini) rfl hd hR.1 hR.2 hKn.2.1 rfl fun H1 kC hkC e1 z1 o1 => ?_
  exact kk H.size _ H1 locs ls (hv w H.size hp hh.none) (hh.new ⟨_, hc, (u_born ty0 hts hin hKn hkC e1 hty).to hfs⟩ z1 o1) ⟨Nat.le_trans hs.1 (by omega), fun x h1 h2 => (o1 x (Nat.lt_of_lt_of_le h1 hs.1)).trans (hs.2.1 x h1 h2), hs.2.2⟩ hl
theorem x_newI (Γ : xC p s m meth c G cc nL own rt) (col : Nat) {F : Nat → xW → Prop} {i : Int32} {N : Nat} (hi : i = nI N) (hN : N < 100000) (hv : ∀ w a, P w → w a = none → F a (xu w a (col, .inl (G.2 1, N, .inl (fun _ => 0))))) (hR : k + 1 ≤ R.cells ∧ n + N ≤ R.slots) (hd : decode cc pc = .ok (.newarray .int, 2))
    (kk : ∀ a, xJ p l e R s m args below meth c G nL Q (F a) (k + 1) (n + N) (pc + 2) lv (.ref a :: st)) : xJ p l e R s m args below meth c G nL Q P k n pc lv (.int i :: st) := fun w H locs ls hp hh hs hl => by
  obtain ⟨hx, hb, hml, hown, hr, hlk, hE, hB⟩ := Γ
  subst hi
  refine va_newaK (atype := .int) hx hb (word_at (State.WarmedH.refl s) (Or.inr ⟨_, rfl⟩) hE.2.2.1) rfl hd rfl (nI_pos (by omega)) (nI_clamp (by omega)) (show N * 4 ≤ 536870912 by omega) hR.1 hR.2 rfl fun H1 cA e1 z1 o1 hAr hNm => ?_
  have hcA : cA = G.2 1 := Option.some.inj (hNm.symm.trans (hE.1.2 0 _ rfl).2)
  subst hcA
  exact kk H.size _ H1 locs ls (hv w H.size hp hh.none) (hh.new e1 z1 o1) ⟨Nat.le_trans hs.1 (by omega), fun x h1 h2 => (o1 x (Nat.lt_of_lt_of_le h1 hs.1)).trans (hs.2.1 x h1 h2), hs.2.2⟩ hl
theorem x_newA (Γ : xC p s m meth c G cc nL own rt) (col : Nat) {F : Nat → xW → Prop} {i : Int32} {N idx : Nat} (hi : i = nI N) (hN : N < 100000) (hcl : Cond.classLink own idx "java/lang/Object" ∈ xAll) (hv : ∀ w a, P w → w a = none → F a (xu w a (col, .inl (G.2 3, N, .inr (.inr (.inr (.inr (fun _ => none)))))))) (hR : k + 1 ≤ R.cells ∧ n + N ≤ R.slots) (hd : decode cc pc = .ok (.anewarray idx, 3))
    (kk : ∀ a, xJ p l e R s m args below meth c G nL Q (F a) (k + 1) (n + N) (pc + 3) lv (.ref a :: st)) : xJ p l e R s m args below meth c G nL Q P k n pc lv (.int i :: st) := fun w H locs ls hp hh hs hl => by
  obtain ⟨hx, hb, hml, hown, hr, hlk, hE, hB⟩ := Γ
  subst hi
  have hcl0 : (nI N).toNatClampNeg = N := nI_clamp (by omega)
  refine W.anew hx hb hown (hE.w hcl) (va_AO.use hE.2.2.2.2.1) rfl hd rfl (nI_pos (by omega)) (by rw [hcl0]; omega) hR.1 (by rw [hcl0]; exact hR.2) fun cA kA comp f1 f2 f3 f4 => ?_
  rw [hcl0]
  generalize hH1 : H.push ({ cls := cA, slots := Array.replicate N .null, vm := .none } : Cell) = H1
  have z1 : H1.size = H.size + 1 := by rw [← hH1, Array.size_push]
  have e1 : H1[H.size]? = some (arrV cA N (fun _ => .null)) := by rw [← hH1, Array.getElem?_push_size, ← arrV_new]
  have o1 : ∀ q : Nat, q < H.size → H1[q]? = H[q]? := fun q hq => by rw [← hH1, Array.getElem?_push, if_neg (Nat.ne_of_lt hq)]
  have hcA : cA = G.2 3 := by
    obtain ⟨kA', comp', k1, k2, k3, k4⟩ := (hE.1.2 2 _ rfl).2
    exact Option.some.inj (f1.symm.trans k4)
  subst hcA
  refine kk H.size _ H1 locs ls (hv w H.size hp hh.none) (hh.new ?_ z1 o1) ⟨Nat.le_trans hs.1 (by omega), fun x h1 h2 => (o1 x (Nat.lt_of_lt_of_le h1 hs.1)).trans (hs.2.1 x h1 h2), hs.2.2⟩ hl
  show H1[H.size]? = some (vp_cell _ _)
  rw [vp_cell_q]
  exact e1
end XHP

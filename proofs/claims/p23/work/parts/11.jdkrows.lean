section XJR
variable {p : Program} {l : Launch} {e : Env} {R : Room} {s : State} {m : MethodId} {args : Array Value} {below : List Frame} {meth : Method} {c : Code} {G : xG} {cc : ByteArray} {nL : Nat} {own : String} {rt : Option FieldType} {Q : State → Prop} {P P' : xW → Prop} {k n pc : Nat} {lv : List (Nat × Value)} {st : List Value}
theorem x_max (Γ : xC p s m meth c G cc nL own rt) {idx : Nat} {x y : Int32} (hlink : Cond.methodLink own idx Lib.Math.max.name ∈ xAll) (hstat : Cond.static Lib.Math.max.name ∈ xAll) (hcode : Cond.code Lib.Math.max.name Lib.Math.max.code 2 (some .int) ∈ xAll) (hini : Cond.initialized "java/lang/Math" ∈ xAll)
    (hR : 1 ≤ R.frames ∧ (st.map fun v => v.category).sum + 13 ≤ R.locals ∧ k ≤ R.cells ∧ n ≤ R.slots) (hd : decode cc pc = .ok (.invokestatic idx, 3)) (kk : xJ p l e R s m args below meth c G nL Q P k n (pc + 3) lv (.int (if x < y then y else x) :: st)) : xJ p l e R s m args below meth c G nL Q P k n pc lv (.int y :: .int x :: st) := fun w H locs ls hp hh hs hl => by
  obtain ⟨hx, hb, hml, hown, hr, hlk, hE, hB⟩ := Γ
  exact va_mmax hx hb (by rw [hml]; exact hl.1.symm) hown (hE.w hlink) (hE.w hstat) (hE.w hini) (hE.w hcode) hR.1 hR.2.1 hR.2.2.1 hR.2.2.2 hd (kk w H locs ls hp hh hs hl)
theorem x_min (Γ : xC p s m meth c G cc nL own rt) {idx : Nat} {x y : Int32} (hlink : Cond.methodLink own idx Lib.Math.min.name ∈ xAll) (hstat : Cond.static Lib.Math.min.name ∈ xAll) (hcode : Cond.code Lib.Math.min.name Lib.Math.min.code 2 (some .int) ∈ xAll) (hini : Cond.initialized "java/lang/Math" ∈ xAll)
    (hR : 1 ≤ R.frames ∧ (st.map fun v => v.category).sum + 13 ≤ R.locals ∧ k ≤ R.cells ∧ n ≤ R.slots) (hd : decode cc pc = .ok (.invokestatic idx, 3)) (kk : xJ p l e R s m args below meth c G nL Q P k n (pc + 3) lv (.int (if y < x then y else x) :: st)) : xJ p l e R s m args below meth c G nL Q P k n pc lv (.int y :: .int x :: st) := fun w H locs ls hp hh hs hl => by
  obtain ⟨hx, hb, hml, hown, hr, hlk, hE, hB⟩ := Γ
  exact va_mmin hx hb (by rw [hml]; exact hl.1.symm) hown (hE.w hlink) (hE.w hstat) (hE.w hini) (hE.w hcode) hR.1 hR.2.1 hR.2.2.1 hR.2.2.2 hd (kk w H locs ls hp hh hs hl)
theorem x_ldcM (Γ : xC p s m meth c G cc nL own rt) {idx : Nat} (hlink : Cond.classLink own idx "[Ljava/lang/Object;" ∈ xAll) (hd : decode cc pc = .ok (.ldc idx, 2)) (kk : xJ p l e R s m args below meth c G nL Q P k n (pc + 2) lv (.ref (G.2 5) :: st)) : xJ p l e R s m args below meth c G nL Q P k n pc lv st := fun w H locs ls hp hh hs hl => by
  obtain ⟨hx, hb, hml, hown, hr, hlk, hE, hB⟩ := Γ
  exact va_ldcM hx hb hown (hE.w hlink) hE.2.2.2.2.2.2.2.2.2.2.1 hd (kk w H locs ls hp hh hs hl)
theorem x_getC (Γ : xC p s m meth c G cc nL own rt) {idx a N : Nat} {f : Nat → Option Nat} (hv : ∀ w, P w → ∃ k0, w a = some (k0, .inl (G.2 3, N, .inr (.inr (.inr (.inr f)))))) (hlink : Cond.methodLink own idx ⟨"java/lang/Object", "getClass", "()Ljava/lang/Class;"⟩ ∈ xAll) (hdecl : Cond.declares ⟨"java/lang/Object", "getClass", "()Ljava/lang/Class;"⟩ ∈ xAll)
    (hsel : Cond.selects "[Ljava/lang/Object;" ⟨"java/lang/Object", "getClass", "()Ljava/lang/Class;"⟩ ⟨"java/lang/Object", "getClass", "()Ljava/lang/Class;"⟩ ∈ xAll) (hinst : Cond.instanceMethod ⟨"java/lang/Object", "getClass", "()Ljava/lang/Class;"⟩ ∈ xAll) (hnat : Cond.native ⟨"java/lang/Object", "getClass", "()Ljava/lang/Class;"⟩ ∈ xAll)
    (hR : 1 ≤ R.frames ∧ (st.map fun v => v.category).sum + 14 ≤ R.locals) (hd : decode cc pc = .ok (.invokevirtual idx, 3)) (kk : xJ p l e R s m args below meth c G nL Q P k n (pc + 3) lv (.ref (G.2 5) :: st)) : xJ p l e R s m args below meth c G nL Q P k n pc lv (.ref a :: st) := fun w H locs ls hp hh hs hl => by
  obtain ⟨k0, ha⟩ := hv w hp
  obtain ⟨hx, hb, hml, hown, hr, hlk, hE, hB⟩ := Γ
  have hcell : H[a]? = some (vp_cell (G.2 3) (N, .inr (.inr (.inr (.inr f))))) := (hh.2 a _ ha).2
  exact va_getC hx hb (by rw [hml]; exact hl.1.symm) hown (hE.w hlink) (hE.w hdecl) (hE.w hsel) (hE.w hinst) (hE.w hnat) hE.2.2.2.2.2.2.2.2.2.2.1 ⟨_, hcell, rfl, va_nmO (hE.1.2 2 _ rfl).2 rfl⟩ hR.1 hR.2 hd (kk w H locs ls hp hh hs hl)
theorem x_copy (Γ : xC p s m meth c G cc nL own rt) {idx a0 a N0 N1 : Nat} {f g : Nat → Option Nat} {sp dp q : Int32} (hlink : Cond.methodLink own idx arraycopyName ∈ xAll) (hnat : Cond.native arraycopyName ∈ xAll) (hstat : Cond.static arraycopyName ∈ xAll) (hini : Cond.initialized "java/lang/System" ∈ xAll)
    (hv : ∀ w, P w → ∃ k0 k1, w a0 = some (k0, .inl (G.2 3, N0, .inr (.inr (.inr (.inr f))))) ∧ w a = some (k1, .inl (G.2 3, N1, .inr (.inr (.inr (.inr g))))) ∧ P' (xu w a (k1, .inl (G.2 3, N1, .inr (.inr (.inr (.inr (va_cpy f g sp.toNatClampNeg dp.toNatClampNeg q.toNatClampNeg))))))))
    (h1 : ¬ sp < 0) (h2 : ¬ dp < 0) (h3 : ¬ q < 0) (h4 : sp.toNatClampNeg + q.toNatClampNeg ≤ N0) (h5 : dp.toNatClampNeg + q.toNatClampNeg ≤ N1)
    (hel : ∀ w, P w → ∀ i, i < q.toNatClampNeg → ∀ y : Nat, f (sp.toNatClampNeg + i) = some y → ∃ k1 ci fs, w y = some (k1, .inr (ci, fs)) ∧ ∃ r, vwCl[ci]? = some r ∧ Cond.castable r.1 "java/lang/Object" ∈ xAll)
    (hR : 1 ≤ R.frames ∧ (st.map fun v => v.category).sum + (nativeFrameWords "java/lang/System" "arraycopy" 5 + 11) ≤ R.locals) (hd : decode cc pc = .ok (.invokestatic idx, 3))
    (kk : xJ p l e R s m args below meth c G nL Q P' k n (pc + 3) lv st) : xJ p l e R s m args below meth c G nL Q P k n pc lv (.int q :: .int dp :: .ref a :: .int sp :: .ref a0 :: st) := fun w H locs ls hp hh hs hl => by
  obtain ⟨k0, k1, ha0, ha, hp'⟩ := hv w hp
  obtain ⟨hx, hb, hml, hown, hr, hlk, hE, hB⟩ := Γ
  have nn : ∀ z : Int32, ¬ z < 0 → z.toInt = (z.toNatClampNeg : Int) := by
    intro z hz
    have hz0 : (0 : Int) ≤ z.toInt := by
      have := Int32.not_lt.mp hz
      simpa using Int32.le_iff_toInt_le.mp this
    show z.toInt = ((z.toInt.toNat : Nat) : Int)
    omega
  intro T hT X
  have hc0 : H[a0]? = some (vp_cell (G.2 3) (N0, .inr (.inr (.inr (.inr f))))) := (hh.2 a0 _ ha0).2
  have hc1 : H[a]? = some (vp_cell (G.2 3) (N1, .inr (.inr (.inr (.inr g))))) := (hh.2 a _ ha).2
  obtain ⟨-, kA, hkA, cm0, hkkA⟩ := (hE.1.2 2 _ rfl).1 N0 (fun j => va_rf (f j))
  obtain ⟨-, kA1, hkA1, cm1, hkkA1⟩ := (hE.1.2 2 _ rfl).1 N1 (fun j => va_rf (g j))
  obtain ⟨vm', X', step⟩ := X.arraycopy hx hown (hE.w hlink) (hE.w hnat) (hE.w hstat) (hE.w hini) (src := a0) (dst := a) (cs := vp_cell (G.2 3) (N0, .inr (.inr (.inr (.inr f))))) (cd := vp_cell (G.2 3) (N1, .inr (.inr (.inr (.inr g))))) (srcPos := sp) (destPos := dp) (n := q) (by rw [hT]; exact hc0) (by rw [hT]; exact hc1)
    (fun _ h => by cases h) (fun _ h => by cases h) (fun h => by cases h) (fun h => by cases h) hkA hkA1 hkkA hkkA1 rfl h1 h2 h3
    (by rw [nn sp h1, nn q h3]; show ¬ _ > ((arrV (G.2 3) N0 (fun j => va_rf (f j))).slots.size : Int); rw [arrV_size]; omega)
    (by rw [nn dp h2, nn q h3]; show ¬ _ > ((arrV (G.2 3) N1 (fun j => va_rf (g j))).slots.size : Int); rw [arrV_size]; omega)
    (fun vm₁ hal i hi => by
      have e : (vp_cell (G.2 3) (N0, .inr (.inr (.inr (.inr f))))).slots.getD (sp.toNatClampNeg + i) .null = va_rf (f (sp.toNatClampNeg + i)) := by
        show (arrV (G.2 3) N0 (fun j => va_rf (f j))).slots.getD _ _ = _
        rw [Array.getD_eq_getD_getElem?, arrV_read _ _ (by omega)]
        rfl
      rw [e]
      cases hy : f (sp.toNatClampNeg + i) with
      | none => exact ⟨rfl, trivial⟩
      | some y =>
        obtain ⟨k9, ci, fs, hv1, r, hr9, hca⟩ := hel w hp i hi y hy
        obtain ⟨cellV, g1, g2, ⟨kC, hkC⟩, hasg⟩ := xAny hE hh hv1 hr9 hca
        obtain ⟨kA', comp, r1, r2, r3, -⟩ := (hE.1.2 2 _ rfl).2
        cases hkA1.symm.trans r1
        cases hkkA1.symm.trans r2
        obtain ⟨kE, hkE, -⟩ := Vm.findClass_spec r3
        obtain ⟨kC', hkC', -⟩ := hal.2.2 _ _ hkC
        obtain ⟨kE', hkE', -⟩ := hal.2.2 _ _ hkE
        refine ⟨rfl, cellV, (show T.heap[y]? = some cellV by rw [hT]; exact g1), (fun q h => by rw [h] at g2; cases g2), ⟨kC', hkC'⟩, ?_, ?_⟩
        · exact ⟨kE', hkE'⟩
        · show vm₁.assignable _ _ = true
          rw [hal.assignable]
          exact hasg _ r3)
    (g := F0 m pc ls (.int q :: .int dp :: .ref a :: .int sp :: .ref a0 :: st)) rfl (by rw [hml]; exact hl.1) (rest := st) rfl (by rw [hb]; exact hd) hR.1 (by show 2 * 0 + _ + _ ≤ _; have := hR.2; omega)
  have e1 : copied (vp_cell (G.2 3) (N0, .inr (.inr (.inr (.inr f))))) (vp_cell (G.2 3) (N1, .inr (.inr (.inr (.inr g))))) sp dp q = vp_cell (G.2 3) (N1, .inr (.inr (.inr (.inr (va_cpy f g sp.toNatClampNeg dp.toNatClampNeg q.toNatClampNeg))))) := by
    rw [vp_cell_q, vp_cell_q, vp_cell_q]
    exact va_copied (fun z => va_rf z) (G.2 3) (G.2 3) f g h4
  rw [e1] at X' step
  have hl1 : a < H.size := (Array.getElem?_eq_some_iff.mp hc1).1
  have hheap : ((T.setVm vm').setCell a (vp_cell (G.2 3) (N1, .inr (.inr (.inr (.inr (va_cpy f g sp.toNatClampNeg dp.toNatClampNeg q.toNatClampNeg))))))).heap = H.setIfInBounds a (vp_cell (G.2 3) (N1, .inr (.inr (.inr (.inr (va_cpy f g sp.toNatClampNeg dp.toNatClampNeg q.toNatClampNeg)))))) := by rw [← hT]; rfl
  have oq : ∀ z : Nat, z ≠ a → (H.setIfInBounds a (vp_cell (G.2 3) (N1, .inr (.inr (.inr (.inr (va_cpy f g sp.toNatClampNeg dp.toNatClampNeg q.toNatClampNeg)))))))[z]? = H[z]? := fun z hq => by simp [Array.getElem?_setIfInBounds, Ne.symm hq]
  obtain ⟨t, a1, b1⟩ := kk _ _ _ ls hp' (hh.set ha (show (H.setIfInBounds a _)[a]? = some _ by simp [Array.getElem?_setIfInBounds, hl1]) oq (by simp)) ⟨by simp; exact hs.1, fun z g1 g2 => by
      rw [oq z (fun e => g2 (by rw [e]; exact (hh.2 a _ ha).1))]
      exact hs.2.1 z g1 g2, fun z hz => by
      rcases List.mem_append.mp hz with h | h
      · exact hs.2.2 z h
      · obtain ⟨i, -, hi⟩ := List.mem_map.mp h
        rw [← hi]
        exact (hh.2 a _ ha).1⟩ hl _ hheap X'
  exact ⟨t, step t a1, b1⟩
end XJR

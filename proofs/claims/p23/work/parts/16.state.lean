section XMD
/-! the reference's state: A j i is place i of its field j; L the wishes, in order -/
abbrev xS : Type := Nat → Nat → Int32
def mU (A : xS) (j i : Nat) (v : Int32) : xS := fun j' i' => if j' = j ∧ i' = i then v else A j' i'
theorem mU_eq (A : xS) (j i : Nat) (v : Int32) : mU A j i v j i = v := if_pos ⟨rfl, rfl⟩
theorem mU_j {A : xS} {j i j' : Nat} {v : Int32} (h : j' ≠ j) : mU A j i v j' = A j' := funext fun i' => if_neg (fun q => h q.1)
theorem mU_i {A : xS} {j i j' i' : Nat} {v : Int32} (h : i' ≠ i) : mU A j i v j' i' = A j' i' := if_neg (fun q => h q.2)
theorem mU_row {A : xS} {j i : Nat} {v : Int32} : mU A j i v j = upd (A j) i v := funext fun i' => by
  by_cases h : i' = i
  · subst h; rw [mU_eq]; simp [upd]
  · rw [mU_i h]; simp [upd, h]
def mFs (ad : Nat → Nat) (f : Nat → Int32) : List Value := [.ref (ad 0), .int (f 1), .ref (ad 2), .int (f 3), .int (f 4), .int (f 5), .ref (ad 6), .ref (ad 7), .ref (ad 8), .ref (ad 9), .ref (ad 10), .ref (ad 11), .ref (ad 12), .ref (ad 13), .ref (ad 14), .ref (ad 15), .ref (ad 16), .int (f 17), .ref (ad 18), .int (f 19)]
def mArr (j : Nat) : Bool := j == 0 || j == 2 || (Nat.ble 6 j && Nat.ble j 16) || j == 18
def mlen (j : Nat) : Nat := if j = 0 then 5 else if j = 2 then 8 else if j = 18 then 24048 else 24
theorem mlen_lt (j : Nat) : mlen j < 2 ^ 31 := by
  simp only [mlen]
  repeat' split
  all_goals omega
/-- the reference's cells, plainly -/
def MdlAt (G : xG) (w : xW) (o : Nat) (ad : Nat → Nat) (M : xS) : Prop :=
  w o = some (10, .inr (4, mFs ad (fun j => M j 0))) ∧ ∀ j, mArr j = true → w (ad j) = some (20 + j, .inl (G.2 1, mlen j, .inl (M j)))
/-- .. and with its wishes as a list -/
def MRep (G : xG) (w : xW) (o : Nat) (ad : Nat → Nat) (A : xS) (L : List Nat) : Prop :=
  ∃ M : xS, MdlAt G w o ad M ∧ (∀ j, j ≠ 16 → j ≠ 17 → M j = A j) ∧ M 17 0 = nI L.length ∧ ∀ (i t : Nat), L[i]? = some t → M 16 i = nI t
/-- what is not the reference's stays -/
def KpM (w w' : xW) : Prop := ∀ (b k : Nat) (e : va_E), w b = some (k, e) → k < 10 ∨ 60 ≤ k → w' b = some (k, e)
theorem KpM.rf {w : xW} : KpM w w := fun _ _ _ h _ => h
theorem KpM.tr {w w1 w2 : xW} (h : KpM w w1) (h2 : KpM w1 w2) : KpM w w2 := fun b k e hb h3 => h2 b k e (h b k e hb h3) h3
theorem KpM.set {w w1 : xW} (h : KpM w w1) {a k : Nat} {e0 : va_E} {x : Nat × va_E} (ha : w1 a = some (k, e0)) (hk : 10 ≤ k ∧ k < 60) : KpM w (xu w1 a x) := fun b j e hb h3 => xu_far (h b j e hb h3) ha (by omega)
theorem MdlAt.put {G : xG} {w : xW} {o : Nat} {ad : Nat → Nat} {M : xS} (h : MdlAt G w o ad M) {j : Nat} {x : Int32} (hj : mArr j = false) (hs : (mFs ad (fun j => M j 0)).set j (.int x) = mFs ad (fun i => if i = j then x else M i 0)) : MdlAt G (xu w o (10, .inr (4, (mFs ad (fun j => M j 0)).set j (.int x)))) o ad (mU M j 0 x) := by
  refine ⟨?_, fun i hi => ?_⟩
  · rw [xu_eq, hs]
    have e : (fun i => if i = j then x else M i 0) = fun i => mU M j 0 x i 0 := funext fun i => by
      by_cases hij : i = j
      · subst hij; rw [mU_eq, if_pos rfl]
      · rw [mU_j hij, if_neg hij]
    rw [e]
  · have hij : i ≠ j := fun q => by rw [q, hj] at hi; cases hi
    rw [mU_j hij]
    exact xu_far (h.2 i hi) h.1 (by omega)
theorem MdlAt.ast {G : xG} {w : xW} {o : Nat} {ad : Nat → Nat} {M : xS} (h : MdlAt G w o ad M) {j i : Nat} {x : Int32} (hj : mArr j = true) : MdlAt G (xu w (ad j) (20 + j, .inl (G.2 1, mlen j, .inl (upd (M j) i x)))) o ad (mU M j i x) := by
  refine ⟨?_, fun j2 hj2 => ?_⟩
  · have e : (fun q => mU M j i x q 0) = fun q => if q = j then mU M j i x j 0 else M q 0 := funext fun q => by
      by_cases hq : q = j
      · subst hq; rw [if_pos rfl]
      · rw [mU_j hq, if_neg hq]
    have e2 : mFs ad (fun q => mU M j i x q 0) = mFs ad (fun q => M q 0) := by
      have hne : ∀ q, mArr q = false → mU M j i x q 0 = M q 0 := fun q hq => by rw [mU_j (fun z => by rw [z, hj] at hq; cases hq)]
      simp only [mFs]
      rw [hne 1 rfl, hne 3 rfl, hne 4 rfl, hne 5 rfl, hne 17 rfl, hne 19 rfl]
    rw [e2]
    exact xu_far h.1 (h.2 j hj) (by omega)
  · by_cases hq : j2 = j
    · subst hq
      rw [xu_eq, mU_row]
    · rw [mU_j hq]
      exact xu_far (h.2 j2 hj2) (h.2 j hj) (by omega)
def mP (G : xG) (o : Nat) (ad : Nat → Nat) (A : xS) (L : List Nat) (w0 : xW) : xW → Prop := fun w => MRep G w o ad A L ∧ KpM w0 w
variable {p : Program} {l : Launch} {e : Env} {R : Room} {s : State} {m : MethodId} {args : Array Value} {below : List Frame} {meth : Method} {c : Code} {G : xG} {cc : ByteArray} {nL : Nat} {own : String} {rt : Option FieldType} {Q : State → Prop} {P P' : xW → Prop} {k n pc : Nat} {lv : List (Nat × Value)} {st : List Value}
variable {o : Nat} {ad : Nat → Nat} {A M : xS} {L : List Nat} {w0 : xW}
theorem MRep.obj {w : xW} (h : MRep G w o ad A L) : ∃ k0 fs, w o = some (k0, .inr (4, fs)) := by
  obtain ⟨M, h1, -⟩ := h
  exact ⟨_, _, h1.1⟩
theorem m_obj : ∀ w, mP G o ad A L w0 w → ∃ k0 fs, w o = some (k0, .inr (4, fs)) := fun w h => h.1.obj
theorem m_ald (Γ : xC p s m meth c G cc nL own rt) {j t : Nat} {i : Int32} (hi : i = nI t) (hj : mArr j = true) (h16 : j ≠ 16) (ht : t < mlen j) (hd : decode cc pc = .ok (.iaload, 1))
    (kk : xJ p l e R s m args below meth c G nL Q (mP G o ad A L w0) k n (pc + 1) lv (.int (A j t) :: st)) : xJ p l e R s m args below meth c G nL Q (mP G o ad A L w0) k n pc lv (.int i :: .ref (ad j) :: st) := by
  have hm : mlen j < 2 ^ 31 := mlen_lt j
  subst hi
  refine x_iald (N := mlen j) (f := A j) Γ (fun w h => ?_) (vp_in_nI ht hm) (by rw [nI_clamp (by omega)]) hd kk
  obtain ⟨⟨M, h1, h2, -⟩, -⟩ := h
  have h17 : j ≠ 17 := fun q => by subst q; cases hj
  exact ⟨_, by rw [← h2 j h16 h17]; exact h1.2 j hj⟩
theorem m_aldw (Γ : xC p s m meth c G cc nL own rt) {i t : Nat} (hi : L[i]? = some t) (hlen : L.length ≤ 24) (hd : decode cc pc = .ok (.iaload, 1))
    (kk : xJ p l e R s m args below meth c G nL Q (mP G o ad A L w0) k n (pc + 1) lv (.int (nI t) :: st)) : xJ p l e R s m args below meth c G nL Q (mP G o ad A L w0) k n pc lv (.int (nI i) :: .ref (ad 16) :: st) := fun w H locs ls hp hh hs hl => by
  obtain ⟨⟨M, h1, h2, h3, h4⟩, h5⟩ := hp
  have hlt : i < L.length := (List.getElem?_eq_some_iff.mp hi).1
  exact x_iald (P := fun w1 => w1 = w) (N := 24) (f := M 16) (x := nI t) Γ (fun w1 e1 => by rw [e1]; exact ⟨_, h1.2 16 rfl⟩) (vp_in_nI (by omega) (by omega)) (by rw [nI_clamp (by omega)]; exact h4 i t hi) hd (fun w1 H locs ls e1 => by subst e1; exact kk w1 H locs ls ⟨⟨M, h1, h2, h3, h4⟩, h5⟩) w H locs ls rfl hh hs hl
theorem MRep.put {w : xW} (h : MRep G w o ad A L) {j : Nat} {x : Int32} (hj : mArr j = false) (h17 : j ≠ 17) (hs : ∀ f : Nat → Int32, (mFs ad f).set j (.int x) = mFs ad (fun i => if i = j then x else f i)) : ∃ fs, w o = some (10, .inr (4, fs)) ∧ fs.length = 20 ∧ MRep G (xu w o (10, .inr (4, fs.set j (.int x)))) o ad (mU A j 0 x) L := by
  obtain ⟨M, h1, h2, h3, h4⟩ := h
  refine ⟨_, h1.1, rfl, mU M j 0 x, h1.put hj (hs _), fun i h5 h6 => ?_, ?_, fun i t hi => ?_⟩
  · by_cases hij : i = j
    · subst hij
      rw [mU_row, mU_row, h2 i h5 h6]
    · rw [mU_j hij, mU_j hij, h2 i h5 h6]
  · rw [mU_j (Ne.symm h17)]; exact h3
  · rw [mU_j (fun q => by rw [← q] at hj; cases hj)]; exact h4 i t hi
theorem MRep.ast {w : xW} (h : MRep G w o ad A L) {j i : Nat} {x : Int32} (hj : mArr j = true) (h16 : j ≠ 16) : w (ad j) = some (20 + j, .inl (G.2 1, mlen j, .inl (A j))) ∧ MRep G (xu w (ad j) (20 + j, .inl (G.2 1, mlen j, .inl (upd (A j) i x)))) o ad (mU A j i x) L := by
  obtain ⟨M, h1, h2, h3, h4⟩ := h
  have h17 : j ≠ 17 := fun q => by subst q; cases hj
  have e : M j = A j := h2 j h16 h17
  refine ⟨by rw [← e]; exact h1.2 j hj, mU M j i x, by rw [← e]; exact h1.ast hj, fun i2 h5 h6 => ?_, ?_, fun i2 t hi => ?_⟩
  · by_cases hij : i2 = j
    · subst hij
      rw [mU_row, mU_row, h2 i2 h5 h6]
    · rw [mU_j hij, mU_j hij, h2 i2 h5 h6]
  · rw [mU_j (Ne.symm h17)]; exact h3
  · rw [mU_j (Ne.symm h16)]; exact h4 i2 t hi
theorem m_ast (Γ : xC p s m meth c G cc nL own rt) {j t : Nat} {i x : Int32} (hi : i = nI t) (hj : mArr j = true) (h16 : j ≠ 16) (ht : t < mlen j) (hd : decode cc pc = .ok (.iastore, 1))
    (kk : xJ p l e R s m args below meth c G nL Q (mP G o ad (mU A j t x) L w0) k n (pc + 1) lv st) : xJ p l e R s m args below meth c G nL Q (mP G o ad A L w0) k n pc lv (.int x :: .int i :: .ref (ad j) :: st) := by
  have hm : mlen j < 2 ^ 31 := mlen_lt j
  have hb : 20 + j < 60 := by
    have : j ≤ 18 := by
      simp only [mArr, Bool.or_eq_true, Bool.and_eq_true, beq_iff_eq] at hj
      rcases hj with ((h | h) | h) | h
      · omega
      · omega
      · have := Nat.le_of_ble_eq_true h.2; omega
      · omega
    omega
  subst hi
  refine x_iast (N := mlen j) (f := A j) Γ (fun w h => ?_) (vp_in_nI ht hm) hd kk
  obtain ⟨h2, h3⟩ := h.1.ast (i := t) (x := x) hj h16
  refine ⟨_, h2, ?_⟩
  rw [nI_clamp (by omega)]
  exact ⟨h3, h.2.set h2 (by omega)⟩
end XMD

section XM6
section XM6a
variable {p : Program} {l : Launch} {e : Env} {R : Room} {s : State} {m : MethodId} {args : Array Value} {below : List Frame} {meth : Method} {c : Code} {G : xG} {cc : ByteArray} {nL : Nat} {own : String} {rt : Option FieldType} {Q : State → Prop} {P P' : xW → Prop} {k n pc : Nat} {lv : List (Nat × Value)} {st : List Value}
variable {o : Nat} {ad : Nat → Nat} {A A' : xS} {L L' : List Nat} {w0 : xW}
theorem m_aldv (Γ : xC p s m meth c G cc nL own rt) {j t : Nat} {i v : Int32} (hv : A j t = v) (hi : i = nI t) (hj : mArr j = true) (h16 : j ≠ 16) (ht : t < mlen j) (hd : decode cc pc = .ok (.iaload, 1))
    (kk : xJ p l e R s m args below meth c G nL Q (mP G o ad A L w0) k n (pc + 1) lv (.int v :: st)) : xJ p l e R s m args below meth c G nL Q (mP G o ad A L w0) k n pc lv (.int i :: .ref (ad j) :: st) :=
  m_ald Γ hi hj h16 ht hd (by rw [hv]; exact kk)
/-- between a wish's place and the count of wishes -/
def mW (G : xG) (o : Nat) (ad : Nat → Nat) (A : xS) (L : List Nat) (t : Nat) (w0 : xW) : xW → Prop := fun w => (∃ M : xS, MdlAt G w o ad M ∧ (∀ j, j ≠ 16 → j ≠ 17 → M j = A j) ∧ M 17 0 = nI L.length ∧ ∀ (i q : Nat), (L ++ [t])[i]? = some q → M 16 i = nI q) ∧ KpM w0 w
theorem m_astw (Γ : xC p s m meth c G cc nL own rt) {t : Nat} (hl : L.length < 24) (hd : decode cc pc = .ok (.iastore, 1))
    (kk : xJ p l e R s m args below meth c G nL Q (mW G o ad A L t w0) k n (pc + 1) lv st) : xJ p l e R s m args below meth c G nL Q (mP G o ad A L w0) k n pc lv (.int (nI t) :: .int (nI L.length) :: .ref (ad 16) :: st) := by
  refine x_pin (fun w1 hw1 => ?_)
  obtain ⟨⟨M, h1, h2, h3, h4⟩, hk⟩ := hw1
  have hM := MdlAt.ast h1 (j := 16) (i := L.length) (x := nI t) rfl
  have hnew : ∀ (i q : Nat), (L ++ [t])[i]? = some q → mU M 16 L.length (nI t) 16 i = nI q := by
    intro i q hi
    by_cases hil : i < L.length
    · rw [List.getElem?_append_left hil] at hi
      rw [mU_i (by omega)]
      exact h4 i q hi
    · rw [List.getElem?_append_right (by omega)] at hi
      have hie : i - L.length = 0 := by
        have := (List.getElem?_eq_some_iff.mp hi).1
        simp only [List.length_cons, List.length_nil] at this
        omega
      rw [hie] at hi
      have hqq : t = q := by simpa using hi
      rw [show i = L.length by omega, mU_eq, hqq]
  exact x_iast (N := mlen 16) (f := M 16) Γ (fun w9 e9 => by rw [e9]; refine ⟨_, h1.2 16 rfl, ?_⟩; rw [nI_clamp (by omega)]; exact ⟨⟨_, hM, fun j g1 g2 => by rw [mU_j g1]; exact h2 j g1 g2, by rw [mU_j (by decide)]; exact h3, hnew⟩, hk.set (h1.2 16 rfl) (by omega)⟩) (vp_in_nI (by show _ < 24; omega) (by decide)) hd kk
end XM6a
variable {l : Launch} {G : xG}
end XM6
section XM7
variable {l : Launch} {G : xG}
end XM7
section XM8
def mB (G : xG) (w0 : xW) (o : Nat) (fs : List Value) (as : List (Nat × Nat)) : xW → Prop := fun w => w o = some (10, .inr (4, fs)) ∧ (∀ q ∈ as, w q.2 = some (20 + q.1, .inl (G.2 1, mlen q.1, .inl (fun _ => 0)))) ∧ KpM w0 w
def mIni (c d : Nat) : xS := fun j i => if j = 0 then (if i < c then 10 else 0) else if j = 1 then (if i = 0 then 6 else 0) else if j = 18 then (if i < d then 12 else 0) else 0
theorem mIni_c (c d : Nat) : mU (mIni c d) 0 c 10 = mIni (c + 1) d := by
  funext j i
  by_cases hj : j = 0
  · subst hj
    by_cases hi : i = c
    · subst hi
      rw [mU_eq]
      show _ = (if i < i + 1 then (10 : Int32) else 0)
      rw [if_pos (by omega)]
    · rw [mU_i hi]
      show (if i < c then (10 : Int32) else 0) = (if i < c + 1 then (10 : Int32) else 0)
      by_cases h : i < c
      · rw [if_pos h, if_pos (by omega)]
      · rw [if_neg h, if_neg (by omega)]
  · rw [mU_j hj]
    unfold mIni
    rw [if_neg hj, if_neg hj]
theorem mIni_d (c d : Nat) : mU (mIni c d) 18 d 12 = mIni c (d + 1) := by
  funext j i
  by_cases hj : j = 18
  · subst hj
    by_cases hi : i = d
    · subst hi
      rw [mU_eq]
      show _ = (if i < i + 1 then (12 : Int32) else 0)
      rw [if_pos (by omega)]
    · rw [mU_i hi]
      show (if i < d then (12 : Int32) else 0) = (if i < d + 1 then (12 : Int32) else 0)
      by_cases h : i < d
      · rw [if_pos h, if_pos (by omega)]
      · rw [if_neg h, if_neg (by omega)]
  · rw [mU_j hj]
    unfold mIni
    rw [if_neg hj, if_neg hj]
theorem mB_new {G : xG} {w0 w : xW} {o a j : Nat} {fs : List Value} {as : List (Nat × Nat)} (h : mB G w0 o fs as w) (ha : w a = none) : mB G w0 o fs ((j, a) :: as) (xu w a (20 + j, .inl (G.2 1, mlen j, .inl (fun _ => 0)))) := by
  refine ⟨xu_new h.1 ha, fun q hq => ?_, fun b k e hb hk => xu_new (h.2.2 b k e hb hk) ha⟩
  rcases List.mem_cons.mp hq with hq | hq
  · rw [hq]; exact xu_eq _ _ _
  · exact xu_new (h.2.1 q hq) ha
theorem mB_put {G : xG} {w0 w : xW} {o j : Nat} {fs : List Value} {as : List (Nat × Nat)} {v : Value} (h : mB G w0 o fs as w) : mB G w0 o (fs.set j v) as (xu w o (10, .inr (4, fs.set j v))) :=
  ⟨xu_eq _ _ _, fun q hq => xu_far (h.2.1 q hq) h.1 (by omega), fun b k e hb hk => xu_far (h.2.2 b k e hb hk) h.1 (by omega)⟩
variable {l : Launch} {G : xG}
end XM8

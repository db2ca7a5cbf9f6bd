section XSP
/-! what each call does to the reference's state: the code that is thrown (k..), then result, state, wishes (g..) -/
def bq (p : Prop) (r : Int32) : Prop := (p ∧ r = 1) ∨ (¬ p ∧ r = 0)
theorem bq.ne {p : Prop} {r : Int32} (h : bq p r) (c : ¬ r = 0) : p := by
  rcases h with h | h
  · exact h.1
  · exact absurd h.2 c
theorem bq.eq {p : Prop} {r : Int32} (h : bq p r) (c : r = 0) : ¬ p := by
  rcases h with h | h
  · rw [h.2] at c; exact absurd c (by decide)
  · exact h.1
theorem bq.one {p : Prop} {r : Int32} (h : bq p r) (hp : p) : ¬ r = 0 := by
  rcases h with h | h
  · rw [h.2]; decide
  · exact absurd hp h.1
theorem bq.zero {p : Prop} {r : Int32} (h : bq p r) (hp : ¬ p) : r = 0 := by
  rcases h with h | h
  · exact absurd h.1 hp
  · exact h.2
theorem bq.iff {p q : Prop} {r : Int32} (h : bq p r) (e : p ↔ q) : bq q r := by
  rcases h with h | h
  · exact Or.inl ⟨e.mp h.1, h.2⟩
  · exact Or.inr ⟨fun z => h.1 (e.mpr z), h.2⟩
theorem bq.nr {p : Prop} {r : Int32} (h : bq p r) : narrow .boolean (.int r) = .int r := by
  rcases h with h | h
  · rw [h.2]; rfl
  · rw [h.2]; rfl
abbrev rIn (lo hi x : Int32) : Prop := lo ≤ x ∧ x ≤ hi
def ix (x : Int32) : Nat := x.toNatClampNeg
theorem ixn {t : Nat} (h : t < 24) : ix (nI t) = t := nI_clamp (by omega)
theorem ixn2 {t : Nat} (h : t < 100000) : ix (nI t) = t := nI_clamp (by omega)
theorem rIn_nat {x M : Int32} {n : Nat} (hM : M.toInt = n) (h : rIn 0 M x) : ∃ j : Nat, j ≤ n ∧ x = nI j := nI_of2 hM (Int32.not_lt.mpr h.1) h.2
theorem nI_m1 {n : Nat} (h : 0 < n) : nI n - 1 = nI (n - 1) := by
  have h9 := nI_pred (n - 1)
  rw [show n - 1 + 1 = n by omega] at h9
  exact h9
theorem nI_mul (a b : Nat) : nI a * nI b = nI (a * b) := (Int32.ofNat_mul a b).symm
theorem nI_int {n : Nat} (h : n < 2 ^ 31) : (nI n).toInt = n := nI_toInt h
theorem rT_nat {x : Int32} {n : Nat} (hn : n < 100000) (h : rIn 0 (nI n - 1) x) : ∃ j : Nat, j < n ∧ x = nI j := by
  by_cases h0 : n = 0
  · subst h0
    obtain ⟨h1, h2⟩ := h
    exact absurd (Int32.le_trans h1 h2) (by decide)
  · rw [nI_m1 (by omega)] at h
    obtain ⟨j, h1, h2⟩ := rIn_nat (nI_int (by omega)) h
    exact ⟨j, by omega, h2⟩
theorem rT_of {j n : Nat} (hn : n < 100000) (h : j < n) : rIn 0 (nI n - 1) (nI j) := by
  rw [nI_m1 (by omega)]
  exact ⟨nI_pos' (by omega), nI_le (by omega) (by omega)⟩
abbrev xR : Type := Int32 × xS × List Nat
def fin (k : Int32) (A : xS) (L : List Nat) (b : xR) : xR := if k = 0 then b else (0, mU A 19 0 k, L)
theorem fin_ok {k : Int32} {A : xS} {L : List Nat} {b : xR} (h : k = 0) : fin k A L b = b := if_pos h
theorem fin_no {k j : Int32} {A : xS} {L : List Nat} {b : xR} (h : k = j) (hj : ¬ j = 0) : fin k A L b = (0, mU A 19 0 j, L) := by
  subst h
  exact if_neg hj
abbrev kT (A : xS) (x : Int32) : Prop := rIn 0 (A 5 0 - 1) x
def ldF (A : xS) (c : Int32) : Nat → Int32
  | 0 => 0
  | t + 1 => ldF A c t + (if A 9 t = c then A 7 t else 0)
def fFor (t : Nat) (L : List Nat) : List Nat := L.filter (fun q => !(q == t))
def kSetRoom (c r : Int32) : Int32 := if rIn 0 4 c ∧ rIn 0 30 r then 0 else 1
def gSetRoom (A : xS) (L : List Nat) (c r : Int32) : xR := fin (kSetRoom c r) A L (A 0 (ix c), mU (mU A 19 0 0) 0 (ix c) r, L)
def kSetVan (r : Int32) : Int32 := if rIn 0 30 r then 0 else 1
def gSetVan (A : xS) (L : List Nat) (r : Int32) : xR := fin (kSetVan r) A L (A 1 0, mU (mU A 19 0 0) 1 0 r, L)
def kLeave (A : xS) (o z c : Int32) : Int32 := if ¬ (rIn 0 7 o ∧ rIn 1 3 z ∧ rIn 0 4 c) then 1 else if A 5 0 = 24 ∨ A 0 (ix c) < ldF A c (ix (A 5 0)) + z then 2 else 0
def bLeave (A : xS) (n : Nat) (o z c : Int32) : xS := mU (mU (mU (mU (mU (mU (mU (mU A 6 n o) 7 n z) 8 n (20 * z)) 9 n c) 10 n (A 4 0)) 14 n (-1)) 15 n (-1)) 5 0 (A 5 0 + 1)
def gLeave (A : xS) (L : List Nat) (o z c : Int32) : xR := fin (kLeave A o z c) A L (A 5 0, bLeave (mU A 19 0 0) (ix (A 5 0)) o z c, L)
def kFetch (A : xS) (x : Int32) : Int32 := if ¬ kT A x then 1 else if ¬ A 9 (ix x) < 5 ∨ 0 < A 12 (ix x) then 2 else 0
def bFetch (A : xS) (t : Nat) : xS := mU (mU (mU A 9 t 10) 3 0 (A 3 0 + A 11 t)) 15 t (-1)
def gFetch (A : xS) (L : List Nat) (x : Int32) : xR := fin (kFetch A x) A L (A 11 (ix x), bFetch (mU A 19 0 0) (ix x), fFor (ix x) L)
def kWant (A : xS) (x c : Int32) : Int32 := if ¬ kT A x then 1 else if ¬ rIn 0 4 c then 2 else if ¬ A 9 (ix x) < 5 ∨ A 9 (ix x) = c then 3 else 0
def gWant (A : xS) (L : List Nat) (x c : Int32) : xR := fin (kWant A x c) A L (nI ((fFor (ix x) L).length + 1), mU (mU (mU A 19 0 0) 15 (ix x) (-1)) 15 (ix x) c, fFor (ix x) L ++ [ix x])
def kValue (A : xS) (x v : Int32) : Int32 := if ¬ kT A x then 1 else if ¬ rIn 0 10000 v then 2 else if ¬ A 9 (ix x) < 5 then 3 else 0
def gValue (A : xS) (L : List Nat) (x v : Int32) : xR := fin (kValue A x v) A L (A 8 (ix x), mU (mU A 19 0 0) 8 (ix x) v, L)
def kLend (A : xS) (x l z : Int32) : Int32 := if ¬ kT A x then 1 else if ¬ (rIn 0 7 l ∧ rIn 1 5000 z) then 2 else if ¬ A 9 (ix x) < 5 ∨ A 6 (ix x) = l ∨ 0 < A 12 (ix x) ∨ A 8 (ix x) / 2 < z then 3 else 0
def bLend (A : xS) (t : Nat) (l z : Int32) : xS := mU (mU (mU (mU A 12 t z) 13 t l) 14 t (-1)) 2 (ix (A 6 t)) (A 2 (ix (A 6 t)) + z)
def gLend (A : xS) (L : List Nat) (x l z : Int32) : xR := fin (kLend A x l z) A L (0, bLend (mU A 19 0 0) (ix x) l z, L)
def kRepay (A : xS) (x : Int32) : Int32 := if ¬ kT A x then 1 else if A 12 (ix x) = 0 then 2 else 0
def bRepay (A : xS) (t : Nat) : xS := mU (mU (mU A 2 (ix (A 13 t)) (A 2 (ix (A 13 t)) + A 12 t)) 12 t 0) 14 t (-1)
def gRepay (A : xS) (L : List Nat) (x : Int32) : xR := fin (kRepay A x) A L (A 12 (ix x), bRepay (mU A 19 0 0) (ix x), L)
def kDoubt (A : xS) (x : Int32) : Int32 := if ¬ kT A x then 1 else if A 12 (ix x) = 0 ∨ ¬ A 14 (ix x) = -1 then 2 else 0
def gDoubt (A : xS) (L : List Nat) (x : Int32) : xR := fin (kDoubt A x) A L (A 4 0 + 3, mU (mU A 19 0 0) 14 (ix x) (A 4 0 + 3), L)
/-! the days -/
def imn (x y : Int32) : Int32 := if x < y then x else y
def sBack (A : xS) (t : Nat) : Int32 := imn (A 12 t) (A 8 t)
def sA1 (A : xS) (t : Nat) : xS := if 0 < sBack A t then mU A 2 (ix (A 13 t)) (A 2 (ix (A 13 t)) + sBack A t) else A
def sPaid (A : xS) (t : Nat) : Int32 := imn (A 11 t) (A 8 t - sBack A t)
def sA2 (A : xS) (t : Nat) : xS := mU (mU (sA1 A t) 11 t (sPaid A t)) 3 0 (A 3 0 + sPaid A t)
def sA3 (A : xS) (t : Nat) : xS := mU (sA2 A t) 2 (ix (A 6 t)) (sA1 A t 2 (ix (A 6 t)) + (A 8 t - sBack A t - sPaid A t))
def fSell (t : Nat) (A : xS) : xS := mU (mU (mU (mU (sA3 A t) 12 t 0) 14 t (-1)) 9 t 11) 15 t (-1)
def owes (A : xS) (t : Nat) : Int32 := if ¬ A 9 t < 5 then 0 else if 0 < A 12 t then A 7 t else 2 * A 7 t
def fOwe : Nat → xS → xS
  | 0, A => A
  | t + 1, A => mU (fOwe t A) 11 t (fOwe t A 11 t + owes (fOwe t A) t)
abbrev xV : Type := Int32 × xS × List Nat
abbrev fCalT (A : xS) (t : Nat) : Prop := A 9 t < 5 ∧ 0 < A 12 t ∧ A 14 t = A 4 0
abbrev fUnfT (A : xS) (t : Nat) : Prop := A 9 t < 5 ∧ A 12 t = 0 ∧ 30 ≤ A 4 0 - A 10 t + 1
def vSell (t : Nat) (V : xV) : xV := (V.1 + 1, fSell t V.2.1, fFor t V.2.2)
def fCal : Nat → xV → xV
  | 0, V => V
  | t + 1, V => if fCalT (fCal t V).2.1 t then vSell t (fCal t V) else fCal t V
def fUnf : Nat → xV → xV
  | 0, V => V
  | t + 1, V => if fUnfT (fUnf t V).2.1 t then vSell t (fUnf t V) else fUnf t V
abbrev fDrvT (n : Nat) (A : xS) (left : Int32) (t : Nat) : Prop := A 12 t = 0 ∧ A 7 t ≤ left ∧ ldF A (A 15 t) n + A 7 t ≤ A 0 (ix (A 15 t))
def fMove (A : xS) (t : Nat) : xS := mU (mU A 9 t (A 15 t)) 15 t (-1)
def fDrv (n : Nat) : List Nat → xV → xV
  | [], V => V
  | t :: r, V => if fDrvT n V.2.1 V.1 t then fDrv n r (V.1 - V.2.1 7 t, fMove V.2.1 t, fFor t V.2.2) else fDrv n r V
def fBeg : Nat → xS → xS
  | 0, A => A
  | t + 1, A => mU (fBeg t A) 18 (ix (24 * A 4 0 + nI t)) (A 9 t)
def fDay (n : Nat) (V : xV) : xV :=
  let V1 : xV := fUnf n (fCal n (V.1, fOwe n V.2.1, V.2.2))
  let V2 : xV := fDrv n V1.2.2 (V1.2.1 1 0, V1.2.1, V1.2.2)
  (V1.1, fBeg n (mU V2.2.1 4 0 (V2.2.1 4 0 + 1)), V2.2.2)
def fDays (n : Nat) : Nat → xV → xV
  | 0, V => V
  | d + 1, V => ((fDays n d V).1 + (fDay n (0, (fDays n d V).2)).1, (fDay n (0, (fDays n d V).2)).2)
def kPass (A : xS) (d : Int32) : Int32 := if ¬ rIn 1 40 d then 1 else if 1000 < A 4 0 + d then 2 else 0
def gPass (A : xS) (L : List Nat) (d : Int32) : xR := fin (kPass A d) A L (fDays (ix (A 5 0)) (ix d) (0, mU A 19 0 0, L))
/-! what is -/
def g0 (j : Nat) (A : xS) (L : List Nat) : xR := (A j 0, mU A 19 0 0, L)
def kT1 (A : xS) (x : Int32) : Int32 := if kT A x then 0 else 1
def gT1 (j : Nat) (A : xS) (L : List Nat) (x : Int32) : xR := fin (kT1 A x) A L (A j (ix x), mU A 19 0 0, L)
def kWhereOn (A : xS) (x d : Int32) : Int32 := if ¬ kT A x then 1 else if ¬ rIn 0 (A 4 0) d then 2 else 0
def gWhereOn (A : xS) (L : List Nat) (x d : Int32) : xR := fin (kWhereOn A x d) A L (if d = A 4 0 then A 9 (ix x) else A 18 (ix (24 * d + x)), mU A 19 0 0, L)
def kLoad (c : Int32) : Int32 := if rIn 0 4 c then 0 else 1
def gLoad (A : xS) (L : List Nat) (c : Int32) : xR := fin (kLoad c) A L (ldF A c (ix (A 5 0)), mU A 19 0 0, L)
def kPurse (x : Int32) : Int32 := if rIn 0 7 x then 0 else 1
def gPurse (A : xS) (L : List Nat) (x : Int32) : xR := fin (kPurse x) A L (A 2 (ix x), mU A 19 0 0, L)
def kWish (L : List Nat) (x : Int32) : Int32 := if rIn 0 (nI L.length - 1) x then 0 else 1
def gWish (A : xS) (L : List Nat) (x : Int32) : xR := fin (kWish L x) A L (nI (L.getD (ix x) 0), mU A 19 0 0, L)
/-! what holds between calls -/
def aI (A : xS) (n : Nat) : Prop := A 5 0 = nI n ∧ n ≤ 24 ∧ (∃ d, d ≤ 1000 ∧ A 4 0 = nI d) ∧ (∀ t, t < 24 → ∃ o, o < 8 ∧ A 6 t = nI o) ∧ ∀ t, t < 24 → ∃ o, o < 8 ∧ A 13 t = nI o
def lI (A : xS) (n : Nat) (L : List Nat) : Prop := L.length ≤ n ∧ L.Nodup ∧ ∀ t, t ∈ L → t < n ∧ ∃ c, c < 5 ∧ A 15 t = nI c
theorem aI_kT {A : xS} {n : Nat} (h : aI A n) {x : Int32} (hx : kT A x) : ∃ t, t < n ∧ t < 24 ∧ x = nI t := by
  have hx : rIn 0 (A 5 0 - 1) x := hx
  rw [h.1] at hx
  obtain ⟨t, h1, h2⟩ := rT_nat (by have := h.2.1; omega) hx
  exact ⟨t, h1, by have := h.2.1; omega, h2⟩
theorem aI_toT {A : xS} {n t : Nat} (h : aI A n) (ht : t < n) : kT A (nI t) := by
  show rIn 0 (A 5 0 - 1) (nI t)
  rw [h.1]
  exact rT_of (by have := h.2.1; omega) ht
section XM2
variable {p : Program} {l : Launch} {e : Env} {R : Room} {s : State} {m : MethodId} {args : Array Value} {below : List Frame} {meth : Method} {c : Code} {G : xG} {cc : ByteArray} {nL : Nat} {own : String} {rt : Option FieldType} {Q : State → Prop} {P P' : xW → Prop} {k n pc : Nat} {lv : List (Nat × Value)} {st : List Value}
variable {o : Nat} {ad : Nat → Nat} {A A' : xS} {L L' : List Nat} {w0 : xW}
theorem x_dup2 (Γ : xC p s m meth c G cc nL own rt) {va vb : Value} (hd : decode cc pc = .ok (.dup2, 1)) (h1 : va.category = 1) (h2 : vb.category = 1) (kk : xJ p l e R s m args below meth c G nL Q P k n (pc + 1) lv (va :: vb :: va :: vb :: st)) : xJ p l e R s m args below meth c G nL Q P k n pc lv (va :: vb :: st) := fun w H locs ls hp hh hs hl => lv_dup2_11 Γ.1 Γ.2.1 hd h1 h2 (kk w H locs ls hp hh hs hl)
theorem m_in {w : xW} (h : MRep G w o ad A L) (kk : xJ p l e R s m args below meth c G nL Q (mP G o ad A L w) k n pc lv st) : xJ p l e R s m args below meth c G nL Q (fun w' => w' = w) k n pc lv st :=
  x_weak (fun w' e => by subst e; exact ⟨h, KpM.rf⟩) kk
theorem m_then {φ : Prop} (kk : φ → xJ p l e R s m args below meth c G nL Q (mP G o ad A' L' w0) k n pc lv st) : xJ p l e R s m args below meth c G nL Q (fun w' => ∃ w1, mP G o ad A L w0 w1 ∧ φ ∧ mP G o ad A' L' w1 w') k n pc lv st :=
  x_then (fun w' h => by obtain ⟨w1, h1, h2, h3⟩ := h; exact ⟨h2, h3.1, h1.2.tr h3.2⟩) kk
theorem m_then0 (kk : xJ p l e R s m args below meth c G nL Q (mP G o ad A' L' w0) k n pc lv st) : xJ p l e R s m args below meth c G nL Q (fun w' => ∃ w1, mP G o ad A L w0 w1 ∧ mP G o ad A' L' w1 w') k n pc lv st :=
  x_weak (fun w' h => by obtain ⟨w1, h1, h3⟩ := h; exact ⟨h3.1, h1.2.tr h3.2⟩) kk
theorem m_same {φ : Prop} (kk : φ → xJ p l e R s m args below meth c G nL Q P k n pc lv st) : xJ p l e R s m args below meth c G nL Q (fun w' => ∃ w1, P w1 ∧ φ ∧ w' = w1) k n pc lv st :=
  x_then (fun w' h => by obtain ⟨w1, h1, h2, h3⟩ := h; subst h3; exact ⟨h2, h1⟩) kk
end XM2
end XSP

section XCR
/-! the class's cells. B j i as the reference's A, but B 13 t is the class's lender; T t the tags of a thing, newest first -/
def xKp (S : Nat → Prop) (w w' : xW) : Prop := ∀ (b k : Nat) (e : va_E), w b = some (k, e) → S k → w' b = some (k, e)
theorem xKp.tr {S : Nat → Prop} {w w1 w2 : xW} (h : xKp S w w1) (h2 : xKp S w1 w2) : xKp S w w2 := fun b k e hb h3 => h2 b k e (h b k e hb h3) h3
theorem xKp.rf {S : Nat → Prop} {w : xW} : xKp S w w := fun _ _ _ h _ => h
theorem xKp.set {S : Nat → Prop} {w : xW} {a k : Nat} {e0 : va_E} {x : Nat × va_E} (ha : w a = some (k, e0)) (hk : ¬ S k) : xKp S w (xu w a x) := fun b j e hb h3 => xu_far hb ha (fun z => hk (z ▸ h3))
theorem xKp.new {S : Nat → Prop} {w : xW} {a : Nat} {x : Nat × va_E} (ha : w a = none) : xKp S w (xu w a x) := fun b j e hb h3 => xu_new hb ha
theorem xKp.mono {S S' : Nat → Prop} {w w' : xW} (h : xKp S w w') (hs : ∀ k, S' k → S k) : xKp S' w w' := fun b k e hb h3 => h b k e hb (hs k h3)
abbrev KpX : xW → xW → Prop := xKp (fun k => k < 100)
theorem LstAt.kp {S : Nat → Prop} {G : xG} {w w' : xW} {a col len : Nat} {f : Nat → Nat} (h : LstAt G w a col len f) (hk : xKp S w w') (h1 : S col) (h2 : S (col + 2)) : LstAt G w' a col len f := by
  obtain ⟨mc, el, ha, h900, h⟩ := h
  refine ⟨mc, el, hk _ _ _ ha h1, h900, ?_⟩
  rcases h with h | ⟨cap, g, he, h3⟩
  · exact Or.inl h
  · exact Or.inr ⟨cap, g, hk _ _ _ he h2, h3⟩
theorem LstAt.congr {G : xG} {w : xW} {a col len : Nat} {f f' : Nat → Nat} (h : LstAt G w a col len f) (hf : ∀ i, i < len → f' i = f i) : LstAt G w a col len f' := by
  obtain ⟨mc, el, ha, h900, h⟩ := h
  refine ⟨mc, el, ha, h900, ?_⟩
  rcases h with h | ⟨cap, g, he, h3, h4, h5, h6⟩
  · exact Or.inl h
  · exact Or.inr ⟨cap, g, he, h3, h4, h5, fun i hi => by rw [hf i hi]; exact h6 i hi⟩
theorem LstAt.obj {G : xG} {w : xW} {a col len : Nat} {f : Nat → Nat} (h : LstAt G w a col len f) : ∃ k0 fs, w a = some (k0, .inr (0, fs)) := by
  obtain ⟨mc, el, ha, -⟩ := h
  exact ⟨_, _, ha⟩
abbrev xTg : Type := List (Int32 × Int32)
def tgAt (w : xW) : xTg → Value → Prop
  | [], b => b = .null
  | q :: r, b => ∃ a b2, b = .ref a ∧ w a = some (110, .inr (1, [.int q.1, .int q.2, b2])) ∧ tgAt w r b2
theorem tgAt.kp {S : Nat → Prop} {w w' : xW} (hk : xKp S w w') (h1 : S 110) : ∀ {r : xTg} {b : Value}, tgAt w r b → tgAt w' r b
  | [], _, h => h
  | _ :: _, _, ⟨a, b2, h2, h3, h4⟩ => ⟨a, b2, h2, hk _ _ _ h3 h1, tgAt.kp hk h1 h4⟩
def tFs (B : xS) (t : Nat) (b : Value) : List Value := [.int (nI t), .int (B 6 t), .int (B 7 t), .int (B 10 t), .int (B 8 t), .int (B 9 t), b, .int (B 15 t), .int (B 11 t), .int (B 12 t), .int (B 13 t), .int (B 14 t)]
def xFs (ca : Nat → Nat) (B : xS) : List Value := [.ref (ca 1), .ref (ca 2), .ref (ca 3), .ref (ca 4), .int (B 1 0), .int (B 4 0), .int (B 3 0)]
def CRaw (G : xG) (w : xW) (ca th : Nat → Nat) (B : xS) (n : Nat) (L : List Nat) (T : Nat → xTg) : Prop :=
  w (ca 0) = some (100, .inr (3, xFs ca B)) ∧ w (ca 1) = some (101, .inl (G.2 1, 5, .inl (B 0))) ∧ w (ca 2) = some (102, .inl (G.2 1, 8, .inl (B 2))) ∧
  LstAt G w (ca 3) 104 n th ∧ LstAt G w (ca 4) 105 L.length (fun j => th (L.getD j 0)) ∧ ∀ t, t < n → ∃ b, w (th t) = some (200 + t, .inr (2, tFs B t b)) ∧ tgAt w (T t) b
def cP (G : xG) (ca th : Nat → Nat) (B : xS) (n : Nat) (L : List Nat) (T : Nat → xTg) (w0 : xW) : xW → Prop := fun w => CRaw G w ca th B n L T ∧ KpX w0 w
/-- two states that show the same cells -/
def cEq (n : Nat) (B B' : xS) : Prop := B' 0 = B 0 ∧ B' 2 = B 2 ∧ (B' 1 0 = B 1 0 ∧ B' 3 0 = B 3 0 ∧ B' 4 0 = B 4 0) ∧ ∀ t, t < n → B' 6 t = B 6 t ∧ B' 7 t = B 7 t ∧ B' 10 t = B 10 t ∧ B' 8 t = B 8 t ∧ B' 9 t = B 9 t ∧ B' 15 t = B 15 t ∧ B' 11 t = B 11 t ∧ B' 12 t = B 12 t ∧ B' 13 t = B 13 t ∧ B' 14 t = B 14 t
theorem tFs_eq {B B' : xS} {t : Nat} (b : Value) (h : B' 6 t = B 6 t ∧ B' 7 t = B 7 t ∧ B' 10 t = B 10 t ∧ B' 8 t = B 8 t ∧ B' 9 t = B 9 t ∧ B' 15 t = B 15 t ∧ B' 11 t = B 11 t ∧ B' 12 t = B 12 t ∧ B' 13 t = B 13 t ∧ B' 14 t = B 14 t) : tFs B' t b = tFs B t b := by
  obtain ⟨h1, h2, h3, h4, h5, h6, h7, h8, h9, h10⟩ := h
  unfold tFs
  rw [h1, h2, h3, h4, h5, h6, h7, h8, h9, h10]
theorem CRaw.congr {G : xG} {w : xW} {ca th : Nat → Nat} {B B' : xS} {n : Nat} {L : List Nat} {T : Nat → xTg} (h : CRaw G w ca th B n L T) (e : cEq n B B') : CRaw G w ca th B' n L T := by
  obtain ⟨h1, h2, h3, h4, h5, h6⟩ := h
  obtain ⟨e1, e2, ⟨e3, e4, e5⟩, e6⟩ := e
  refine ⟨?_, by rw [e1]; exact h2, by rw [e2]; exact h3, h4, h5, fun t ht => ?_⟩
  · unfold xFs
    rw [e3, e4, e5]
    exact h1
  · obtain ⟨b, g1, g2⟩ := h6 t ht
    exact ⟨b, by rw [tFs_eq b (e6 t ht)]; exact g1, g2⟩
/-- one thing anew -/
theorem CRaw.thing {G : xG} {w w' : xW} {ca th : Nat → Nat} {B B' : xS} {n t : Nat} {L : List Nat} {T T' : Nat → xTg} {b' : Value} (h : CRaw G w ca th B n L T) (hw : xKp (fun k => k ≠ 200 + t) w w')
    (h2 : w' (th t) = some (200 + t, .inr (2, tFs B' t b'))) (htg : tgAt w' (T' t) b') (e0 : B' 0 = B 0 ∧ B' 2 = B 2 ∧ B' 1 0 = B 1 0 ∧ B' 3 0 = B 3 0 ∧ B' 4 0 = B 4 0) (ho : ∀ i, i ≠ t → T' i = T i ∧ ∀ b, tFs B' i b = tFs B i b) : CRaw G w' ca th B' n L T' := by
  obtain ⟨h1, h21, h3, h4, h5, h6⟩ := h
  obtain ⟨e1, e2, e3, e4, e5⟩ := e0
  refine ⟨?_, by rw [e1]; exact hw _ _ _ h21 (by omega), by rw [e2]; exact hw _ _ _ h3 (by omega), h4.kp hw (by omega) (by omega), h5.kp hw (by omega) (by omega), fun i hi => ?_⟩
  · have := hw _ _ _ h1 (by omega)
    unfold xFs at this ⊢
    rw [e3, e4, e5]
    exact this
  · by_cases hit : i = t
    · subst hit
      exact ⟨b', h2, htg⟩
    · obtain ⟨b, g1, g2⟩ := h6 i hi
      obtain ⟨o1, o2⟩ := ho i hit
      exact ⟨b, by rw [o2]; exact hw _ _ _ g1 (by omega), by rw [o1]; exact tgAt.kp hw (by omega) g2⟩
theorem tFs_mU {B : xS} {j t i : Nat} {v : Int32} {b : Value} (h : i ≠ t) : tFs (mU B j t v) i b = tFs B i b := by
  unfold tFs
  simp only [mU_i h]
/-- a number of the thing anew -/
theorem CRaw.num {G : xG} {w : xW} {ca th : Nat → Nat} {B : xS} {n t j jj : Nat} {L : List Nat} {T : Nat → xTg} {v : Int32} (h : CRaw G w ca th B n L T) (ht : t < n) (hj : 5 ≤ jj) (hs : ∀ b, (tFs B t b).set j (.int v) = tFs (mU B jj t v) t b) :
    ∃ fs, w (th t) = some (200 + t, .inr (2, fs)) ∧ fs.length = 12 ∧ CRaw G (xu w (th t) (200 + t, .inr (2, fs.set j (.int v)))) ca th (mU B jj t v) n L T := by
  obtain ⟨b, g1, g2⟩ := h.2.2.2.2.2 t ht
  refine ⟨_, g1, rfl, ?_⟩
  rw [hs]
  exact h.thing (xKp.set g1 (fun z => z rfl)) (xu_eq _ _ _) (tgAt.kp (S := fun k => k ≠ 200 + t) (xKp.set g1 (fun z => z rfl)) (by omega) g2) ⟨mU_j (by omega), mU_j (by omega), by rw [mU_j (by omega)], by rw [mU_j (by omega)], by rw [mU_j (by omega)]⟩ (fun i hi => ⟨rfl, fun b => tFs_mU hi⟩)
section XCR2
variable {p : Program} {l : Launch} {e : Env} {R : Room} {s : State} {m : MethodId} {args : Array Value} {below : List Frame} {meth : Method} {c : Code} {G : xG} {cc : ByteArray} {nL : Nat} {own : String} {rt : Option FieldType} {Q : State → Prop} {P P' : xW → Prop} {k n pc : Nat} {lv : List (Nat × Value)} {st : List Value}
variable {ca th : Nat → Nat} {B B' : xS} {N : Nat} {L L' : List Nat} {T T' : Nat → xTg} {w0 : xW}
theorem c_in {w : xW} (h : CRaw G w ca th B N L T) (kk : xJ p l e R s m args below meth c G nL Q (cP G ca th B N L T w) k n pc lv st) : xJ p l e R s m args below meth c G nL Q (fun w' => w' = w) k n pc lv st :=
  x_weak (fun w' e => by subst e; exact ⟨h, xKp.rf⟩) kk
theorem c_this (Γ : xC p s m meth c G cc nL own rt) (j : Nat) {idx : Nat} {v : Value} (hf : (xFs ca B)[j]? = some v) (hj : j < 7) (hlink : Cond.fieldLink own idx RX2 (TX2 j).2.1 (TX2 j).2.2.1 ∈ xAll) (ho : RX2 = (TX2 j).1) (hd : decode cc pc = .ok (.getfield idx, 3))
    (kk : xJ p l e R s m args below meth c G nL Q (cP G ca th B N L T w0) k n (pc + 3) lv (v :: st)) : xJ p l e R s m args below meth c G nL Q (cP G ca th B N L T w0) k n pc lv (.ref (ca 0) :: st) :=
  x_getf Γ kl3 j (fun w h => ⟨_, _, h.1.1, hf⟩) hj hlink (Or.inl ho) hd kk
theorem c_putthis (Γ : xC p s m meth c G cc nL own rt) (j jj : Nat) {idx : Nat} {v : Int32} (hs : (xFs ca B).set j (.int v) = xFs ca (mU B jj 0 v)) (hjj : jj = 1 ∨ jj = 3 ∨ jj = 4) (hj : j < 7) (hlink : Cond.fieldLink own idx RX2 (TX2 j).2.1 (TX2 j).2.2.1 ∈ xAll) (ho : RX2 = (TX2 j).1) (hfin : (TX2 j).2.2.2 = false) (hty : tyX2 j = .int) (hd : decode cc pc = .ok (.putfield idx, 3))
    (kk : xJ p l e R s m args below meth c G nL Q (cP G ca th (mU B jj 0 v) N L T w0) k n (pc + 3) lv st) : xJ p l e R s m args below meth c G nL Q (cP G ca th B N L T w0) k n pc lv (.int v :: .ref (ca 0) :: st) :=
  x_putf Γ kl3 j (fun w h => by
    obtain ⟨⟨h1, h2, h3, h4, h5, h6⟩, hk⟩ := h
    have hw : xKp (fun k => k ≠ 100) w (xu w (ca 0) (100, .inr (3, (xFs ca B).set j (.int v)))) := xKp.set h1 (fun z => z rfl)
    refine ⟨_, _, h1, hj, ⟨by rw [xu_eq, hs], ?_, ?_, h4.kp hw (by omega) (by omega), h5.kp hw (by omega) (by omega), fun t ht => ?_⟩, hk.tr (hw.mono (by intro k hk; omega))⟩
    · rw [mU_j (by omega)]; exact hw _ _ _ h2 (by omega)
    · rw [mU_j (by omega)]; exact hw _ _ _ h3 (by omega)
    · obtain ⟨b, g1, g2⟩ := h6 t ht
      refine ⟨b, ?_, tgAt.kp hw (by omega) g2⟩
      have e : tFs (mU B jj 0 v) t b = tFs B t b := by
        unfold tFs
        rw [mU_j (by omega), mU_j (by omega), mU_j (by omega), mU_j (by omega), mU_j (by omega), mU_j (by omega), mU_j (by omega), mU_j (by omega), mU_j (by omega), mU_j (by omega)]
      rw [e]
      exact hw _ _ _ g1 (by omega)) hj hlink (Or.inl ho) hfin (by rw [hty]; rfl) (by rw [hty]; rfl) hd kk
theorem c_getT (Γ : xC p s m meth c G cc nL own rt) (j : Nat) {idx t : Nat} {host : String} {v : Value} (ht : t < N) (hf : ∀ b, (tFs B t b)[j]? = some v) (hj : j < 12) (hlink : Cond.fieldLinkNest own idx (TX1 j).1 (TX1 j).2.1 (TX1 j).2.2.1 host ∈ xAll) (hd : decode cc pc = .ok (.getfield idx, 3))
    (kk : xJ p l e R s m args below meth c G nL Q (cP G ca th B N L T w0) k n (pc + 3) lv (v :: st)) : xJ p l e R s m args below meth c G nL Q (cP G ca th B N L T w0) k n pc lv (.ref (th t) :: st) :=
  x_getfN Γ kl2 j (fun w h => by
    obtain ⟨b, g1, g2⟩ := h.1.2.2.2.2.2 t ht
    exact ⟨_, _, g1, hf b⟩) hj hlink hd kk
theorem c_putT (Γ : xC p s m meth c G cc nL own rt) (j jj : Nat) {idx t : Nat} {host : String} {v : Int32} (ht : t < N) (hs : ∀ b, (tFs B t b).set j (.int v) = tFs (mU B jj t v) t b) (hjj : 5 ≤ jj) (hj : j < 12) (hlink : Cond.fieldLinkNest own idx (TX1 j).1 (TX1 j).2.1 (TX1 j).2.2.1 host ∈ xAll) (hfin : (TX1 j).2.2.2 = false) (hty : tyX1 j = .int) (hd : decode cc pc = .ok (.putfield idx, 3))
    (kk : xJ p l e R s m args below meth c G nL Q (cP G ca th (mU B jj t v) N L T w0) k n (pc + 3) lv st) : xJ p l e R s m args below meth c G nL Q (cP G ca th B N L T w0) k n pc lv (.int v :: .ref (th t) :: st) :=
  x_putfN Γ kl2 j (fun w h => by
    obtain ⟨fs, g1, g2, g3⟩ := h.1.num ht hjj hs
    exact ⟨_, _, g1, by rw [g2]; exact hj, g3, h.2.tr (xKp.set g1 (by omega))⟩) hj hlink hfin (by rw [hty]; rfl) (by rw [hty]; rfl) hd kk
theorem c_ald (Γ : xC p s m meth c G cc nL own rt) {j jj t : Nat} {i : Int32} (hi : i = nI t) (hj : j = 1 ∧ jj = 0 ∧ t < 5 ∨ j = 2 ∧ jj = 2 ∧ t < 8) (hd : decode cc pc = .ok (.iaload, 1))
    (kk : xJ p l e R s m args below meth c G nL Q (cP G ca th B N L T w0) k n (pc + 1) lv (.int (B jj t) :: st)) : xJ p l e R s m args below meth c G nL Q (cP G ca th B N L T w0) k n pc lv (.int i :: .ref (ca j) :: st) := by
  subst hi
  rcases hj with ⟨rfl, rfl, ht⟩ | ⟨rfl, rfl, ht⟩
  · exact x_iald (N := 5) (f := B 0) Γ (fun w h => ⟨_, h.1.2.1⟩) (vp_in_nI (by omega) (by omega)) (by rw [nI_clamp (by omega)]) hd kk
  · exact x_iald (N := 8) (f := B 2) Γ (fun w h => ⟨_, h.1.2.2.1⟩) (vp_in_nI (by omega) (by omega)) (by rw [nI_clamp (by omega)]) hd kk
theorem CRaw.arr {w : xW} (h : CRaw G w ca th B N L T) {j jj t len : Nat} {v : Int32} (hj : j = 1 ∧ jj = 0 ∧ len = 5 ∨ j = 2 ∧ jj = 2 ∧ len = 8) : w (ca j) = some (100 + j, .inl (G.2 1, len, .inl (B jj))) ∧ CRaw G (xu w (ca j) (100 + j, .inl (G.2 1, len, .inl (upd (B jj) t v)))) ca th (mU B jj t v) N L T := by
  obtain ⟨h1, h2, h3, h4, h5, h6⟩ := h
  have hat : w (ca j) = some (100 + j, .inl (G.2 1, len, .inl (B jj))) := by
    rcases hj with ⟨rfl, rfl, rfl⟩ | ⟨rfl, rfl, rfl⟩
    · exact h2
    · exact h3
  have hw : xKp (fun k => k ≠ 100 + j) w (xu w (ca j) (100 + j, .inl (G.2 1, len, .inl (upd (B jj) t v)))) := xKp.set hat (fun z => z rfl)
  refine ⟨hat, ?_, ?_, ?_, h4.kp hw (by omega) (by omega), h5.kp hw (by omega) (by omega), fun i hi => ?_⟩
  · have := hw _ _ _ h1 (by omega)
    unfold xFs at this ⊢
    rw [mU_j (by omega), mU_j (by omega), mU_j (by omega)]
    exact this
  · rcases hj with ⟨rfl, rfl, rfl⟩ | ⟨rfl, rfl, rfl⟩
    · rw [xu_eq, mU_row]
    · rw [mU_j (by omega)]; exact hw _ _ _ h2 (by omega)
  · rcases hj with ⟨rfl, rfl, rfl⟩ | ⟨rfl, rfl, rfl⟩
    · rw [mU_j (by omega)]; exact hw _ _ _ h3 (by omega)
    · rw [xu_eq, mU_row]
  · obtain ⟨b, g1, g2⟩ := h6 i hi
    refine ⟨b, ?_, tgAt.kp hw (by omega) g2⟩
    have e : tFs (mU B jj t v) i b = tFs B i b := by
      unfold tFs
      rw [mU_j (by omega), mU_j (by omega), mU_j (by omega), mU_j (by omega), mU_j (by omega), mU_j (by omega), mU_j (by omega), mU_j (by omega), mU_j (by omega), mU_j (by omega)]
    rw [e]
    exact hw _ _ _ g1 (by omega)
theorem c_ast (Γ : xC p s m meth c G cc nL own rt) {j jj t len : Nat} {i v : Int32} (hi : i = nI t) (hj : j = 1 ∧ jj = 0 ∧ len = 5 ∨ j = 2 ∧ jj = 2 ∧ len = 8) (ht : t < len) (hd : decode cc pc = .ok (.iastore, 1))
    (kk : xJ p l e R s m args below meth c G nL Q (cP G ca th (mU B jj t v) N L T w0) k n (pc + 1) lv st) : xJ p l e R s m args below meth c G nL Q (cP G ca th B N L T w0) k n pc lv (.int v :: .int i :: .ref (ca j) :: st) := by
  subst hi
  refine x_iast (N := len) (f := B jj) Γ (fun w h => ?_) (vp_in_nI ht (by omega)) hd kk
  obtain ⟨h2, h3⟩ := h.1.arr (t := t) (v := v) hj
  refine ⟨_, h2, ?_⟩
  rw [nI_clamp (by omega)]
  exact ⟨h3, h.2.tr (xKp.set h2 (by omega))⟩
theorem c_same {φ : Prop} (kk : φ → xJ p l e R s m args below meth c G nL Q P k n pc lv st) : xJ p l e R s m args below meth c G nL Q (fun w' => ∃ w1, P w1 ∧ φ ∧ w' = w1) k n pc lv st := m_same kk
theorem c_then {φ : Prop} (kk : φ → xJ p l e R s m args below meth c G nL Q (cP G ca th B' N L' T' w0) k n pc lv st) : xJ p l e R s m args below meth c G nL Q (fun w' => ∃ w1, cP G ca th B N L T w0 w1 ∧ φ ∧ cP G ca th B' N L' T' w1 w') k n pc lv st :=
  x_then (fun w' h => by obtain ⟨w1, h1, h2, h3⟩ := h; exact ⟨h2, h3.1, h1.2.tr h3.2⟩) kk
theorem c_then0 (kk : xJ p l e R s m args below meth c G nL Q (cP G ca th B' N L' T' w0) k n pc lv st) : xJ p l e R s m args below meth c G nL Q (fun w' => ∃ w1, cP G ca th B N L T w0 w1 ∧ cP G ca th B' N L' T' w1 w') k n pc lv st :=
  x_weak (fun w' h => by obtain ⟨w1, h1, h3⟩ := h; exact ⟨h3.1, h1.2.tr h3.2⟩) kk
theorem c_thing {t : Nat} (ht : t < N) : ∀ w, cP G ca th B N L T w0 w → ∃ k0 fs, w (th t) = some (k0, .inr (2, fs)) := fun w h => by
  obtain ⟨b, g1, -⟩ := h.1.2.2.2.2.2 t ht
  exact ⟨_, _, g1⟩
theorem c_self : ∀ w, cP G ca th B N L T w0 w → ∃ k0 fs, w (ca 0) = some (k0, .inr (3, fs)) := fun w h => ⟨_, _, h.1.1⟩
theorem c_lst3 : ∀ w, cP G ca th B N L T w0 w → ∃ k0 fs, w (ca 3) = some (k0, .inr (0, fs)) := fun w h => h.1.2.2.2.1.obj
theorem c_lst4 : ∀ w, cP G ca th B N L T w0 w → ∃ k0 fs, w (ca 4) = some (k0, .inr (0, fs)) := fun w h => h.1.2.2.2.2.1.obj
end XCR2
end XCR

section XK
/-! A world: what stands at each address, with a colour; two things of different colours lie apart. A judgement over all heaps that hold the world (xJ), rows for it, contracts (xMet, xMetX). -/
abbrev xW : Type := Nat → Option (Nat × va_E)
abbrev xG : Type := va_G × (Nat → Nat)
def xu (w : xW) (a : Nat) (x : Nat × va_E) : xW := fun b => if b = a then some x else w b
theorem xu_eq (w : xW) (a : Nat) (x : Nat × va_E) : xu w a x a = some x := if_pos rfl
theorem xu_ne {w : xW} {a b : Nat} {x : Nat × va_E} (h : b ≠ a) : xu w a x b = w b := if_neg h
theorem xu_far {w : xW} {a b k j : Nat} {e e' : va_E} {x : Nat × va_E} (hb : w b = some (k, e)) (ha : w a = some (j, e')) (h : k ≠ j) : xu w a x b = some (k, e) := by
  rw [xu_ne (fun q => h (by subst q; rw [hb] at ha; cases ha; rfl))]; exact hb
theorem xu_new {w : xW} {a b : Nat} {x y : Nat × va_E} (hb : w b = some y) (ha : w a = none) : xu w a x b = some y := by
  rw [xu_ne (fun q => by subst q; rw [hb] at ha; cases ha)]; exact hb
def xA (G : xG) : Nat → Prop := fun q => G.2 0 ≤ q
abbrev xT (G : xG) : List (ClassId × FieldType) := [(G.2 1, .int), (G.2 2, .long), (G.2 3, .object "java/lang/Object")]
def xH (G : xG) (w : xW) (H : Heap) : Prop := G.2 0 ≤ H.size ∧ ∀ (a : Nat) (x : Nat × va_E), w a = some x → G.2 0 ≤ a ∧ va_at G.1 vwCl (a, x.2) H
theorem xH.lt {G : xG} {w : xW} {H : Heap} (h : xH G w H) {a : Nat} {x : Nat × va_E} (ha : w a = some x) : a < H.size := ((h.2 a x ha).2).lt
theorem xH.P {G : xG} {w : xW} {H : Heap} (h : xH G w H) {a k : Nat} {e : va_E} (ha : w a = some (k, e)) : va_P G.1 vwCl [(a, e)] H := fun i q hq => by
  match i, hq with
  | 0, hq => cases hq; exact (h.2 a _ ha).2
  | i + 1, hq => simp at hq
theorem xH.set {G : xG} {w : xW} {H H1 : Heap} (h : xH G w H) {a k j : Nat} {e0 e : va_E} (ha : w a = some (k, e0)) (he : va_at G.1 vwCl (a, e) H1) (oq : ∀ q : Nat, q ≠ a → H1[q]? = H[q]?) (z : H1.size = H.size) : xH G (xu w a (j, e)) H1 := by
  refine ⟨by rw [z]; exact h.1, fun b x hb => ?_⟩
  by_cases hq : b = a
  · subst hq
    rw [xu_eq] at hb
    cases hb
    exact ⟨(h.2 b _ ha).1, he⟩
  · rw [xu_ne hq] at hb
    exact ⟨(h.2 b x hb).1, (h.2 b x hb).2.kept (oq b hq)⟩
theorem xH.grow {G : xG} {w : xW} {H H1 : Heap} (h : xH G w H) (z : H.size ≤ H1.size) (oq : ∀ q : Nat, q < H.size → H1[q]? = H[q]?) : xH G w H1 :=
  ⟨Nat.le_trans h.1 z, fun b x hb => ⟨(h.2 b x hb).1, (h.2 b x hb).2.kept (oq b (h.lt hb))⟩⟩
theorem xH.none {G : xG} {w : xW} {H : Heap} (h : xH G w H) : w H.size = none := by
  cases hq : w H.size with
  | none => rfl
  | some x => exact absurd (h.lt hq) (Nat.lt_irrefl _)
theorem xH.new {G : xG} {w : xW} {H H1 : Heap} (h : xH G w H) {j : Nat} {e : va_E} (he : va_at G.1 vwCl (H.size, e) H1) (z : H1.size = H.size + 1) (oq : ∀ q : Nat, q < H.size → H1[q]? = H[q]?) : xH G (xu w H.size (j, e)) H1 := by
  refine ⟨by rw [z]; exact Nat.le_succ_of_le h.1, fun b x hb => ?_⟩
  by_cases hq : b = H.size
  · subst hq
    rw [xu_eq] at hb
    cases hb
    exact ⟨h.1, he⟩
  · rw [xu_ne hq] at hb
    exact ⟨(h.2 b x hb).1, (h.2 b x hb).2.kept (oq b (h.lt hb))⟩
/-! the tables' words, all in one list -/
def xNest : Cond → Bool
  | .fieldLinkNest .. => true
  | .methodLinkNest .. => true
  | _ => false
def xOk (w : Cond) : Bool := w.onTables && (w.keeps || w.keepsFace || xNest w)
def xAll : List Cond := lw_tbl.filter xOk
theorem xAll_in (i : Nat) {w : Cond} (h : lw_tbl[i]? = some w) (hk : xOk w = true) : w ∈ xAll := List.mem_filter.mpr ⟨List.mem_of_getElem? h, hk⟩
theorem xAll_ok {w : Cond} (h : w ∈ xAll) : xOk w = true := (List.mem_filter.mp h).2
theorem xAll_tb {w : Cond} (h : w ∈ xAll) : w.onTables = true := by
  have := xAll_ok h
  simp only [xOk, Bool.and_eq_true] at this
  exact this.1
theorem xNw_warm {w : Cond} {s U : State} (hk : xOk w = true) (hW : s.WarmedH U.vm) (h : va_Nw w s) : va_Nw w U := by
  simp only [xOk, Bool.and_eq_true, Bool.or_eq_true] at hk
  obtain ⟨ht, (hk | hk) | hk⟩ := hk
  · exact word_at hW (Or.inl (by rw [ht, hk]; rfl)) h
  · exact va_tabs ht (rfl : (s.setVm U.vm).vm = U.vm) (Cond.before_shiftedFace (args := #[]) (State.Shifted.of_warmed hW) w hk h)
  · cases w <;> first | exact va_Nw.warmF hW h | exact va_Nw.warmM hW h | (simp [xNest] at hk)
def xStr : List (Nat × String) := [(51, "counter or room is out of range"), (56, "room is out of range"), (61, "owner, size or counter is out of range"), (73, "no room for it, or too many things")]
end XK

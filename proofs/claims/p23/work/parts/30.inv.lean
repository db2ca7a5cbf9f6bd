section XIN
/-! what holds of class and reference between calls -/
def cB (A : xS) : xS := fun j i => if j = 13 then (if 0 < A 12 i then A 13 i else -1) else A j i
theorem cB_j {A : xS} {j : Nat} (h : j ≠ 13) : cB A j = A j := funext fun i => if_neg h
def pI (A : xS) (n : Nat) (L : List Nat) : Prop :=
  aI A n ∧ lI A n L ∧ (∀ t, t < n → t ∉ L → A 15 t = -1) ∧ (∀ t, t < n → 0 ≤ A 9 t) ∧ (∀ t, t ∈ L → A 9 t < 5) ∧ (∀ t, t < n → A 12 t = 0 ∨ (0 < A 12 t ∧ A 9 t < 5)) ∧
  (∀ t, t < n → A 12 t = 0 → A 14 t = -1) ∧ (∀ t, t < n → 0 ≤ A 8 t) ∧ ∀ t, n ≤ t → t < 24 → A 11 t = 0 ∧ A 12 t = 0 ∧ ∀ d, d ≤ 1000 → A 18 (24 * d + t) = 12
def calI (A : xS) (n : Nat) : Prop := ∀ t, t < n → A 14 t = -1 ∨ A 4 0 ≤ A 14 t
def calS (A : xS) (n : Nat) : Prop := ∀ t, t < n → A 14 t = -1 ∨ A 4 0 < A 14 t
def tgI (A : xS) (n D : Nat) (T : Nat → xTg) : Prop := ∀ t, t < n → (∃ f r, T t = (A 9 t, f) :: r) ∧ (∀ q ∈ T t, q.2 ≤ nI (D + 1)) ∧ ∀ d, d ≤ D → lkp (nI d) (T t) = A 18 (24 * d + t)
theorem tgI.same {A A' : xS} {n D : Nat} {T : Nat → xTg} (h : tgI A n D T) (h9 : A' 9 = A 9) (h18 : A' 18 = A 18) : tgI A' n D T := by
  unfold tgI
  rw [h9, h18]
  exact h
theorem tgI.move {A A' : xS} {n D t : Nat} {T : Nat → xTg} {np : Int32} (h : tgI A n D T) (hD : D ≤ 1000) (h9 : ∀ i, i ≠ t → A' 9 i = A 9 i) (h9t : A' 9 t = np) (h18 : A' 18 = A 18) : tgI A' n D (tUp T t (np, nI (D + 1))) := by
  intro i hi
  obtain ⟨g1, g2, g3⟩ := h i hi
  by_cases hit : i = t
  · subst hit
    have e : tUp T i (np, nI (D + 1)) i = (np, nI (D + 1)) :: T i := if_pos rfl
    rw [e, h9t, h18]
    refine ⟨⟨_, _, rfl⟩, fun q hq => ?_, fun d hd => ?_⟩
    · rcases List.mem_cons.mp hq with rfl | hq
      · exact Int32.le_refl _
      · exact g2 q hq
    · rw [lkp, if_neg (nI_ge (by omega) (by omega))]
      exact g3 d hd
  · have e : tUp T t (np, nI (D + 1)) i = T i := if_neg hit
    rw [e, h9 i hit, h18]
    exact ⟨g1, g2, g3⟩
theorem fBeg_at {B : xS} {D t : Nat} (hB : B 4 0 = nI (D + 1)) (hD : D + 1 ≤ 1000) : ∀ m, m ≤ 24 → t < m → fBeg m B 18 (24 * (D + 1) + t) = B 9 t
  | 0, _, h => absurd h (Nat.not_lt_zero t)
  | m + 1, hm, h => by
    rw [fBeg, hB, show (24 : Int32) = nI 24 from rfl, nI_mul, nI_add, ixn2 (by omega)]
    by_cases htm : t = m
    · subst htm
      rw [mU_eq]
    · rw [mU_i (by omega)]
      exact fBeg_at hB hD m (by omega) (by omega)
theorem fBeg_ne {B : xS} {D k : Nat} (hB : B 4 0 = nI (D + 1)) (hD : D + 1 ≤ 1000) : ∀ m, m ≤ 24 → (∀ t, t < m → k ≠ 24 * (D + 1) + t) → fBeg m B 18 k = B 18 k
  | 0, _, _ => rfl
  | m + 1, hm, h => by
    rw [fBeg, hB, show (24 : Int32) = nI 24 from rfl, nI_mul, nI_add, ixn2 (by omega), mU_i (h m (by omega))]
    exact fBeg_ne hB hD m (by omega) (fun t ht => h t (by omega))
theorem tgI.tick {A : xS} {n D : Nat} {T : Nat → xTg} (h : tgI A n D T) (hn : n ≤ 24) (hD : D + 1 ≤ 1000) : tgI (fBeg n (mU A 4 0 (nI (D + 1)))) n (D + 1) T := by
  intro t ht
  obtain ⟨⟨f, r, g1⟩, g2, g3⟩ := h t ht
  have hB : mU A 4 0 (nI (D + 1)) 4 0 = nI (D + 1) := mU_eq _ _ _ _
  refine ⟨⟨f, r, ?_⟩, fun q hq => ?_, fun d hd => ?_⟩
  · rw [fBeg_j (by decide), mU_j (by decide)]; exact g1
  · exact Int32.le_trans (g2 q hq) (nI_le (by omega) (by omega))
  · by_cases hdD : d = D + 1
    · subst hdD
      rw [fBeg_at hB hD n hn ht, mU_j (by decide), g1, lkp, if_pos (g2 _ (by rw [g1]; exact List.mem_cons_self))]
    · rw [fBeg_ne hB hD n hn (fun i hi => by omega), mU_j (by decide)]
      exact g3 d (by omega)
/-! one thing sold -/
theorem sell_ne {A : xS} {t i j : Nat} (hi : i ≠ t) (h2 : j ≠ 2) (h3 : j ≠ 3) : fSell t A j i = A j i := by
  unfold fSell sA3 sA2
  rw [mU_i hi, mU_i hi, mU_i hi, mU_i hi, mU_j h2, mU_j h3, mU_i hi, sA1_j h2]
theorem sell_j {A : xS} {t j : Nat} (h : stb j = true) : fSell t A j = A j := sameR_sell A t j h
theorem sell_12 (A : xS) (t : Nat) : fSell t A 12 t = 0 := by
  unfold fSell
  rw [mU_j (by decide), mU_j (by decide), mU_j (by decide), mU_eq]
theorem sell_14 (A : xS) (t : Nat) : fSell t A 14 t = -1 := by
  unfold fSell
  rw [mU_j (by decide), mU_j (by decide), mU_eq]
theorem sell_9 (A : xS) (t : Nat) : fSell t A 9 t = 11 := by
  unfold fSell
  rw [mU_j (by decide), mU_eq]
theorem sell_at15 (A : xS) (t : Nat) : fSell t A 15 t = -1 := by
  unfold fSell
  rw [mU_eq]
theorem fFor_in {t q : Nat} {L : List Nat} (h : q ∈ L) (hq : q ≠ t) : q ∈ fFor t L := List.mem_filter.mpr ⟨h, by simp [hq]⟩
theorem pI.sell {A : xS} {n t : Nat} {L : List Nat} (h : pI A n L) (ht : t < n) : pI (fSell t A) n (fFor t L) := by
  obtain ⟨h1, h2, h3, h4, h5, h6, h7, h8, h9⟩ := h
  refine ⟨sameR_aI (sameR_sell A t) h1, lI_sell h2, fun q hq hL => ?_, fun q hq => ?_, fun q hq => ?_, fun q hq => ?_, fun q hq => ?_, fun q hq => ?_, fun q hq hq2 => ?_⟩
  · by_cases e : q = t
    · subst e; exact sell_at15 A q
    · rw [sell_ne e (by decide) (by decide)]
      exact h3 q hq (fun z => hL (fFor_in z e))
  · by_cases e : q = t
    · subst e; rw [sell_9]; decide
    · rw [sell_ne e (by decide) (by decide)]; exact h4 q hq
  · have hm := fFor_mem hq
    rw [sell_ne hm.2 (by decide) (by decide)]; exact h5 q hm.1
  · by_cases e : q = t
    · subst e; exact Or.inl (sell_12 A q)
    · rw [sell_ne e (by decide) (by decide), sell_ne e (by decide) (by decide)]; exact h6 q hq
  · by_cases e : q = t
    · subst e; intro _; exact sell_14 A q
    · rw [sell_ne e (by decide) (by decide), sell_ne e (by decide) (by decide)]; exact h7 q hq
  · rw [sell_j rfl]; exact h8 q hq
  · have e : q ≠ t := by omega
    rw [sell_ne e (by decide) (by decide), sell_ne e (by decide) (by decide), sell_j rfl]
    exact h9 q hq hq2
theorem calI.sell {A : xS} {n t : Nat} (h : calI A n) : calI (fSell t A) n := fun q hq => by
  rw [sell_j (j := 4) rfl]
  by_cases e : q = t
  · subst e; exact Or.inl (sell_14 A q)
  · rw [sell_ne e (by decide) (by decide)]; exact h q hq
theorem calS.sell {A : xS} {n t : Nat} (h : calS A n) : calS (fSell t A) n := fun q hq => by
  rw [sell_j (j := 4) rfl]
  by_cases e : q = t
  · subst e; exact Or.inl (sell_14 A q)
  · rw [sell_ne e (by decide) (by decide)]; exact h q hq
theorem pI.owe {A : xS} {n t : Nat} {L : List Nat} {v : Int32} (h : pI A n L) (ht : t < n) : pI (mU A 11 t v) n L := by
  obtain ⟨h1, h2, h3, h4, h5, h6, h7, h8, h9⟩ := h
  refine ⟨sameR_aI (sameR_mU rfl) h1, lI_same h2 (mU_j (by decide)), h3, h4, h5, h6, h7, h8, fun q hq hq2 => ?_⟩
  rw [mU_i (by omega)]
  exact h9 q hq hq2
theorem pI.owes {A : xS} {n : Nat} {L : List Nat} (h : pI A n L) : ∀ t, t ≤ n → pI (fOwe t A) n L
  | 0, _ => h
  | t + 1, ht => (pI.owes h t (by omega)).owe (by omega)
theorem pI.move {A : xS} {n t : Nat} {L : List Nat} (h : pI A n L) (ht : t ∈ L) : pI (fMove A t) n (fFor t L) := by
  obtain ⟨h1, h2, h3, h4, h5, h6, h7, h8, h9⟩ := h
  obtain ⟨htn, c, hc, hg⟩ := h2.2.2 t ht
  have e9 : ∀ q, fMove A t 9 q = if q = t then nI c else A 9 q := fun q => by
    unfold fMove
    rw [mU_j (by decide), hg]
    by_cases e : q = t
    · subst e; rw [mU_eq, if_pos rfl]
    · rw [mU_i e, if_neg e]
  have ej : ∀ j, j ≠ 9 → j ≠ 15 → fMove A t j = A j := fun j g1 g2 => by
    unfold fMove
    rw [mU_j g2, mU_j g1]
  have hc5 : nI c < 5 := nI_lt (b := 5) hc (by decide)
  refine ⟨sameR_aI (sameR_move A t) h1, lI_move h2, fun q hq hL => ?_, fun q hq => ?_, fun q hq => ?_, fun q hq => ?_, fun q hq => ?_, fun q hq => ?_, fun q hq hq2 => ?_⟩
  · by_cases e : q = t
    · subst e; unfold fMove; rw [mU_eq]
    · rw [move_15 e]
      exact h3 q hq (fun z => hL (fFor_in z e))
  · rw [e9]
    split
    · exact nI_pos' (by omega)
    · exact h4 q hq
  · have hm := fFor_mem hq
    rw [e9, if_neg hm.2]; exact h5 q hm.1
  · rw [e9, ej 12 (by decide) (by decide)]
    split
    · rcases h6 q hq with h | h
      · exact Or.inl h
      · exact Or.inr ⟨h.1, hc5⟩
    · exact h6 q hq
  · rw [ej 12 (by decide) (by decide), ej 14 (by decide) (by decide)]; exact h7 q hq
  · rw [ej 8 (by decide) (by decide)]; exact h8 q hq
  · rw [ej 11 (by decide) (by decide), ej 12 (by decide) (by decide), ej 18 (by decide) (by decide)]; exact h9 q hq hq2
theorem calS.move {A : xS} {n t : Nat} (h : calS A n) : calS (fMove A t) n := fun q hq => by
  have ej : ∀ j, j ≠ 9 → j ≠ 15 → fMove A t j = A j := fun j g1 g2 => by
    unfold fMove
    rw [mU_j g2, mU_j g1]
  rw [ej 4 (by decide) (by decide), ej 14 (by decide) (by decide)]
  exact h q hq
theorem le_lt {D : Nat} {x : Int32} (hD : D ≤ 1000) (h : nI D < x) : nI (D + 1) ≤ x := by
  rw [Int32.lt_iff_toInt_lt, nI_int (by omega)] at h
  rw [Int32.le_iff_toInt_le, nI_int (by omega)]
  omega
theorem pI.tick {A : xS} {n D : Nat} {L : List Nat} (h : pI A n L) (hD : A 4 0 = nI D) (hD1 : D + 1 ≤ 1000) : pI (fBeg n (mU A 4 0 (nI (D + 1)))) n L := by
  obtain ⟨⟨a1, a2, a3, a4, a5⟩, h2, h3, h4, h5, h6, h7, h8, h9⟩ := h
  have hB : mU A 4 0 (nI (D + 1)) 4 0 = nI (D + 1) := mU_eq _ _ _ _
  have ej : ∀ j, j ≠ 4 → j ≠ 18 → fBeg n (mU A 4 0 (nI (D + 1))) j = A j := fun j g1 g2 => by rw [fBeg_j g2, mU_j g1]
  have e4 : fBeg n (mU A 4 0 (nI (D + 1))) 4 0 = nI (D + 1) := by rw [fBeg_j (by decide), mU_eq]
  refine ⟨⟨by rw [ej 5 (by decide) (by decide)]; exact a1, a2, ⟨D + 1, hD1, e4⟩, by rw [ej 6 (by decide) (by decide)]; exact a4, by rw [ej 13 (by decide) (by decide)]; exact a5⟩, lI_same h2 (ej 15 (by decide) (by decide)), ?_, ?_, ?_, ?_, ?_, ?_, fun q hq hq2 => ?_⟩
  · rw [ej 15 (by decide) (by decide)]; exact h3
  · rw [ej 9 (by decide) (by decide)]; exact h4
  · rw [ej 9 (by decide) (by decide)]; exact h5
  · rw [ej 12 (by decide) (by decide), ej 9 (by decide) (by decide)]; exact h6
  · rw [ej 12 (by decide) (by decide), ej 14 (by decide) (by decide)]; exact h7
  · rw [ej 8 (by decide) (by decide)]; exact h8
  · rw [ej 11 (by decide) (by decide), ej 12 (by decide) (by decide)]
    refine ⟨(h9 q hq hq2).1, (h9 q hq hq2).2.1, fun d hd => ?_⟩
    rw [fBeg_ne hB hD1 n a2 (fun i hi => by omega), mU_j (by decide)]
    exact (h9 q hq hq2).2.2 d hd
theorem calS.tick {A : xS} {n D : Nat} (h : calS A n) (hD : A 4 0 = nI D) (hD1 : D + 1 ≤ 1000) : calI (fBeg n (mU A 4 0 (nI (D + 1)))) n := fun q hq => by
  rw [fBeg_j (by decide), fBeg_j (by decide), mU_j (by decide), mU_eq]
  rcases h q hq with g | g
  · exact Or.inl g
  · rw [hD] at g
    exact Or.inr (le_lt (by omega) g)
/-! the day's loops -/
theorem le_ne_lt {x y : Int32} (h : x ≤ y) (h2 : ¬ y = x) : x < y := by
  rw [Int32.le_iff_toInt_le] at h
  rw [Int32.lt_iff_toInt_lt]
  have : y.toInt ≠ x.toInt := fun z => h2 (Int32.toInt_inj.mp z)
  omega
theorem fCalT_iff {A : xS} {n t : Nat} {L : List Nat} (h : pI A n L) (hc : calI A n) (ht : t < n) : fCalT A t ↔ ¬ A 14 t = -1 ∧ A 14 t ≤ A 4 0 := by
  obtain ⟨h1, h2, h3, h4, h5, h6, h7, h8, h9⟩ := h
  obtain ⟨d, hd, h4d⟩ := h1.2.2.1
  constructor
  · rintro ⟨g1, g2, g3⟩
    refine ⟨?_, by rw [g3]; exact Int32.le_refl _⟩
    rw [g3, h4d]
    intro z
    have := nI_int (n := d) (by omega)
    rw [z] at this
    have h9 : ((-1 : Int32)).toInt = -1 := by decide
    omega
  · rintro ⟨g1, g2⟩
    rcases hc t ht with g | g
    · exact absurd g g1
    · rcases h6 t ht with k | k
      · exact absurd (h7 t ht k) g1
      · exact ⟨k.2, k.1, Int32.le_antisymm g2 g⟩
theorem fCal_P {A : xS} {n : Nat} {L : List Nat} (x : Int32) (h : pI A n L) (hc : calI A n) : ∀ m, m ≤ n → pI (fCal m (x, A, L)).2.1 n (fCal m (x, A, L)).2.2 ∧ calI (fCal m (x, A, L)).2.1 n ∧ ∀ q, q < m → (fCal m (x, A, L)).2.1 14 q = -1 ∨ (fCal m (x, A, L)).2.1 4 0 < (fCal m (x, A, L)).2.1 14 q
  | 0, _ => ⟨h, hc, fun q hq => absurd hq (Nat.not_lt_zero q)⟩
  | m + 1, hm => by
    obtain ⟨i1, i2, i3⟩ := fCal_P x h hc m (by omega)
    rw [fCal]
    split
    · refine ⟨i1.sell (by omega), i2.sell, fun q hq => ?_⟩
      show fSell m _ 14 q = -1 ∨ fSell m _ 4 0 < fSell m _ 14 q
      by_cases e : q = m
      · subst e; exact Or.inl (sell_14 _ _)
      · rw [sell_ne e (by decide) (by decide), sell_j (j := 4) rfl]
        exact i3 q (by omega)
    · rename_i hno
      refine ⟨i1, i2, fun q hq => ?_⟩
      by_cases e : q = m
      · subst e
        rcases i2 q (by omega) with g | g
        · exact Or.inl g
        · by_cases g2 : (fCal q (x, A, L)).2.1 14 q = -1
          · exact Or.inl g2
          · refine Or.inr (le_ne_lt g (fun z => hno ((fCalT_iff i1 i2 (by omega)).mpr ⟨g2, by rw [z]; exact Int32.le_refl _⟩)))
      · exact i3 q (by omega)
theorem fUnf_P {A : xS} {n : Nat} {L : List Nat} (x : Int32) (h : pI A n L) (hc : calS A n) : ∀ m, m ≤ n → pI (fUnf m (x, A, L)).2.1 n (fUnf m (x, A, L)).2.2 ∧ calS (fUnf m (x, A, L)).2.1 n
  | 0, _ => ⟨h, hc⟩
  | m + 1, hm => by
    obtain ⟨i1, i2⟩ := fUnf_P x h hc m (by omega)
    rw [fUnf]
    split
    · exact ⟨i1.sell (by omega), i2.sell⟩
    · exact ⟨i1, i2⟩
theorem fUnf_shift (x : Int32) (S : xS × List Nat) : ∀ m, fUnf m (x, S) = (x + (fUnf m (0, S)).1, (fUnf m (0, S)).2)
  | 0 => by simp [fUnf]
  | m + 1 => by
    have ih := fUnf_shift x S m
    rw [fUnf, fUnf, ih]
    split
    · simp only [vSell, Int32.add_assoc]
    · rfl
/-! how many things may still be moved -/
def atC (A : xS) : Nat → Nat
  | 0 => 0
  | t + 1 => atC A t + (if A 9 t < 5 then 1 else 0)
def phi (A : xS) (n : Nat) (L : List Nat) : Nat := atC A n + L.length
theorem atC_le (A : xS) : ∀ n, atC A n ≤ n
  | 0 => Nat.le_refl _
  | n + 1 => by
    have := atC_le A n
    rw [atC]
    split <;> omega
theorem atC_same {A A' : xS} (h : ∀ i, A' 9 i < 5 ↔ A 9 i < 5) : ∀ n, atC A' n = atC A n
  | 0 => rfl
  | n + 1 => by
    rw [atC, atC, atC_same h n]
    by_cases g : A 9 n < 5
    · rw [if_pos g, if_pos ((h n).mpr g)]
    · rw [if_neg g, if_neg (fun z => g ((h n).mp z))]
theorem atC_sell {A A' : xS} {t : Nat} (h : ∀ i, i ≠ t → A' 9 i = A 9 i) (ht : A 9 t < 5) (h2 : ¬ A' 9 t < 5) : ∀ n, atC A' n + (if t < n then 1 else 0) = atC A n
  | 0 => rfl
  | n + 1 => by
    have ih := atC_sell h ht h2 n
    rw [atC, atC]
    by_cases e : n = t
    · subst e
      rw [if_neg h2, if_pos ht, if_pos (by omega)]
      rw [if_neg (Nat.lt_irrefl _)] at ih
      omega
    · rw [h n e]
      by_cases g : t < n
      · rw [if_pos g] at ih
        rw [if_pos (by omega : t < n + 1)]
        omega
      · rw [if_neg g] at ih
        rw [if_neg (by omega : ¬ t < n + 1)]
        omega
theorem fFor_del {t : Nat} : ∀ {L : List Nat}, t ∈ L → (fFor t L).length + 1 ≤ L.length
  | q :: r, h => by
    by_cases e : q = t
    · subst e
      rw [fFor_cons_eq]
      have := fFor_len q r
      simp only [List.length_cons]
      omega
    · rw [fFor_cons_ne e]
      rcases List.mem_cons.mp h with h2 | h2
      · exact absurd h2.symm e
      · have := fFor_del h2
        simp only [List.length_cons]
        omega
theorem phi_sell {A : xS} {n t : Nat} {L : List Nat} (ht : t < n) (h9 : A 9 t < 5) : phi (fSell t A) n (fFor t L) + 1 ≤ phi A n L := by
  have h1 := atC_sell (A := A) (A' := fSell t A) (t := t) (fun i hi => sell_ne hi (by decide) (by decide)) h9 (by rw [sell_9]; decide) n
  rw [if_pos ht] at h1
  have := fFor_len t L
  unfold phi
  omega
theorem phi_move {A : xS} {n t : Nat} {L : List Nat} (h : pI A n L) (ht : t ∈ L) : phi (fMove A t) n (fFor t L) + 1 ≤ phi A n L := by
  obtain ⟨htn, c, hc, hg⟩ := h.2.1.2.2 t ht
  have h1 : atC (fMove A t) n = atC A n := atC_same (fun i => by
    unfold fMove
    rw [mU_j (by decide), hg]
    by_cases e : i = t
    · subst e
      rw [mU_eq]
      exact ⟨fun _ => h.2.2.2.2.1 i ht, fun _ => nI_lt (b := 5) hc (by decide)⟩
    · rw [mU_i e]) n
  have := fFor_del ht
  unfold phi
  omega
abbrev phv (n : Nat) (V : xV) : Nat := phi V.2.1 n V.2.2
theorem fCal_phi {n : Nat} (V : xV) (m : Nat) : ∀ k, m + k ≤ n → phv n (fCal (m + k) V) ≤ phv n (fCal m V)
  | 0, _ => Nat.le_refl _
  | k + 1, h => by
    have ih := fCal_phi (n := n) V m k (by omega)
    refine Nat.le_trans ?_ ih
    rw [← Nat.add_assoc, fCal]
    split
    · rename_i hc
      exact Nat.le_of_succ_le (phi_sell (L := (fCal (m + k) V).2.2) (show m + k < n by omega) hc.1)
    · exact Nat.le_refl _
theorem fUnf_phi {n : Nat} (V : xV) (m : Nat) : ∀ k, m + k ≤ n → phv n (fUnf (m + k) V) ≤ phv n (fUnf m V)
  | 0, _ => Nat.le_refl _
  | k + 1, h => by
    have ih := fUnf_phi (n := n) V m k (by omega)
    refine Nat.le_trans ?_ ih
    rw [← Nat.add_assoc, fUnf]
    split
    · rename_i hc
      exact Nat.le_of_succ_le (phi_sell (L := (fUnf (m + k) V).2.2) (show m + k < n by omega) hc.1)
    · exact Nat.le_refl _
theorem fDrv_P {n : Nat} : ∀ (R : List Nat) (V : xV), pI V.2.1 n V.2.2 → calS V.2.1 n → R.Nodup → (∀ q ∈ R, q ∈ V.2.2) → pI (fDrv n R V).2.1 n (fDrv n R V).2.2 ∧ calS (fDrv n R V).2.1 n ∧ phv n (fDrv n R V) ≤ phv n V
  | [], V, h, hc, _, _ => ⟨h, hc, Nat.le_refl _⟩
  | t :: r, V, h, hc, hd, hs => by
    have h1 := List.nodup_cons.mp hd
    rw [fDrv]
    split
    · have ht := hs t List.mem_cons_self
      have g := fDrv_P r (V.1 - V.2.1 7 t, fMove V.2.1 t, fFor t V.2.2) (h.move ht) hc.move h1.2 (fun q hq => fFor_in (hs q (List.mem_cons_of_mem _ hq)) (fun z => h1.1 (z ▸ hq)))
      refine ⟨g.1, g.2.1, Nat.le_trans g.2.2 ?_⟩
      have := phi_move h ht
      show phi (fMove V.2.1 t) n (fFor t V.2.2) ≤ phi V.2.1 n V.2.2
      omega
    · exact fDrv_P r V h hc h1.2 (fun q hq => hs q (List.mem_cons_of_mem _ hq))
theorem phi_owe {A : xS} {n t : Nat} {L : List Nat} : phi (fOwe t A) n L = phi A n L := by
  unfold phi
  rw [atC_same (A := A) (A' := fOwe t A) (fun i => by rw [fOwe_j (by decide)])]
end XIN

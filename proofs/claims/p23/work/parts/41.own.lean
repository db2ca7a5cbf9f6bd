section XOW
/-! what this law speaks of: loads, purses, fees, places; over the same pure state (A j i, n things, wishes L, day D) -/
theorem i_add {a b : Int32} (h1 : -2147483648 ≤ a.toInt + b.toInt) (h2 : a.toInt + b.toInt < 2147483648) : (a + b).toInt = a.toInt + b.toInt := by
  rw [Int32.toInt_add]
  exact Int.bmod_eq_of_le (by omega) (by omega)
theorem i_sub {a b : Int32} (h1 : -2147483648 ≤ a.toInt - b.toInt) (h2 : a.toInt - b.toInt < 2147483648) : (a - b).toInt = a.toInt - b.toInt := by
  rw [Int32.toInt_sub]
  exact Int.bmod_eq_of_le (by omega) (by omega)
theorem i_mul {a b : Int32} (h1 : -2147483648 ≤ a.toInt * b.toInt) (h2 : a.toInt * b.toInt < 2147483648) : (a * b).toInt = a.toInt * b.toInt := by
  rw [Int32.toInt_mul]
  exact Int.bmod_eq_of_le (by omega) (by omega)
theorem i_0 : (0 : Int32).toInt = 0 := by decide
theorem i_lt {a b : Int32} : a < b ↔ a.toInt < b.toInt := Int32.lt_iff_toInt_lt
theorem i_le {a b : Int32} : a ≤ b ↔ a.toInt ≤ b.toInt := Int32.le_iff_toInt_le
/-! sums -/
def psZ (A : xS) : Nat → Int
  | 0 => 0
  | p + 1 => psZ A p + (A 2 p).toInt
def psI (A : xS) : Nat → Int32
  | 0 => 0
  | p + 1 => psI A p + A 2 p
def ldZ (A : xS) (c : Int32) : Nat → Int
  | 0 => 0
  | t + 1 => ldZ A c t + (if A 9 t = c then (A 7 t).toInt else 0)
theorem psZ_row {A A' : xS} (h : A' 2 = A 2) : ∀ q, psZ A' q = psZ A q
  | 0 => rfl
  | q + 1 => by rw [psZ, psZ, psZ_row h q, h]
theorem psI_row {A A' : xS} (h : A' 2 = A 2) : ∀ q, psI A' q = psI A q
  | 0 => rfl
  | q + 1 => by rw [psI, psI, psI_row h q, h]
theorem psZ_mU (A : xS) (i : Nat) (v : Int32) : ∀ q, psZ (mU A 2 i v) q = psZ A q + (if i < q then v.toInt - (A 2 i).toInt else 0)
  | 0 => by simp [psZ]
  | q + 1 => by
    rw [psZ, psZ, psZ_mU A i v q]
    by_cases h : i = q
    · subst h
      rw [mU_eq, if_neg (Nat.lt_irrefl _), if_pos (Nat.lt_succ_self _)]
      omega
    · rw [mU_i (Ne.symm h)]
      by_cases h2 : i < q
      · rw [if_pos h2, if_pos (by omega)]; omega
      · rw [if_neg h2, if_neg (by omega)]; omega
theorem psI_mU (A : xS) (i : Nat) (z : Int32) : ∀ q, psI (mU A 2 i (A 2 i + z)) q = psI A q + (if i < q then z else 0)
  | 0 => by simp [psI]
  | q + 1 => by
    rw [psI, psI, psI_mU A i z q]
    by_cases h : i = q
    · subst h
      rw [mU_eq, if_neg (Nat.lt_irrefl _), if_pos (Nat.lt_succ_self _), Int32.add_zero, Int32.add_assoc]
    · rw [mU_i (Ne.symm h)]
      by_cases h2 : i < q
      · rw [if_pos h2, if_pos (by omega), Int32.add_assoc, Int32.add_assoc, Int32.add_comm z]
      · rw [if_neg h2, if_neg (by omega), Int32.add_zero, Int32.add_zero]
theorem psZ_ge {A : xS} (h : ∀ p, p < 8 → 0 ≤ (A 2 p).toInt) : ∀ q, q ≤ 8 → 0 ≤ psZ A q ∧ ∀ p, p < q → (A 2 p).toInt ≤ psZ A q
  | 0, _ => ⟨Int.le_refl _, fun p hp => absurd hp (Nat.not_lt_zero p)⟩
  | q + 1, hq => by
    obtain ⟨h1, h2⟩ := psZ_ge h q (by omega)
    have h3 := h q (by omega)
    rw [psZ]
    refine ⟨by omega, fun p hp => ?_⟩
    by_cases e : p = q
    · subst e; omega
    · have := h2 p (by omega)
      omega
theorem psZ_mono {A : xS} (h : ∀ p, p < 8 → 0 ≤ (A 2 p).toInt) : ∀ d q, q + d ≤ 8 → psZ A q ≤ psZ A (q + d)
  | 0, _, _ => Int.le_refl _
  | d + 1, q, hq => by
    have h1 := psZ_mono h d q (by omega)
    have h3 := h (q + d) (by omega)
    rw [← Nat.add_assoc, psZ]
    omega
theorem psI_int {A : xS} (h : ∀ p, p < 8 → 0 ≤ (A 2 p).toInt) (h2 : psZ A 8 ≤ 1000000000) : ∀ q, q ≤ 8 → (psI A q).toInt = psZ A q
  | 0, _ => i_0
  | q + 1, hq => by
    have ih := psI_int h h2 q (by omega)
    have h3 := psZ_mono h (8 - (q + 1)) (q + 1) (by omega)
    rw [show q + 1 + (8 - (q + 1)) = 8 by omega, psZ] at h3
    have h4 := (psZ_ge h q (by omega)).1
    have h5 := h q (by omega)
    rw [psI, psZ, i_add (by omega) (by omega), ih]
theorem ldZ_ge {A : xS} {c : Int32} {N : Nat} (h : ∀ t, t < N → 1 ≤ (A 7 t).toInt ∧ (A 7 t).toInt ≤ 3) : ∀ q, q ≤ N → 0 ≤ ldZ A c q ∧ ldZ A c q ≤ 3 * q
  | 0, _ => ⟨Int.le_refl _, Int.le_refl _⟩
  | q + 1, hq => by
    obtain ⟨h1, h2⟩ := ldZ_ge (c := c) h q (by omega)
    obtain ⟨h3, h4⟩ := h q (by omega)
    rw [ldZ]
    split <;> omega
theorem ldF_int {A : xS} {c : Int32} {N : Nat} (hN : N ≤ 1000) (h : ∀ t, t < N → 1 ≤ (A 7 t).toInt ∧ (A 7 t).toInt ≤ 3) : ∀ q, q ≤ N → (ldF A c q).toInt = ldZ A c q
  | 0, _ => i_0
  | q + 1, hq => by
    have ih := ldF_int (c := c) hN h q (by omega)
    obtain ⟨h1, h2⟩ := ldZ_ge (c := c) h q (by omega)
    obtain ⟨h3, h4⟩ := h q (by omega)
    rw [ldF, ldZ]
    by_cases e : A 9 q = c
    · rw [if_pos e, if_pos e, i_add (by omega) (by omega), ih]
    · rw [if_neg e, if_neg e, i_add (by rw [i_0]; omega) (by rw [i_0]; omega), ih, i_0]
theorem ldZ_same {A A' : xS} {c : Int32} {N : Nat} (h : ∀ t, t < N → A' 7 t = A 7 t ∧ A' 9 t = A 9 t) : ∀ q, q ≤ N → ldZ A' c q = ldZ A c q
  | 0, _ => rfl
  | q + 1, hq => by
    obtain ⟨h1, h2⟩ := h q (by omega)
    rw [ldZ, ldZ, ldZ_same h q (by omega), h1, h2]
theorem ldZ_mono {A A' : xS} {c : Int32} {N : Nat} (hz : ∀ t, t < N → 0 ≤ (A 7 t).toInt) (h : ∀ t, t < N → A' 7 t = A 7 t ∧ (A' 9 t = c → A 9 t = c)) : ∀ q, q ≤ N → ldZ A' c q ≤ ldZ A c q
  | 0, _ => Int.le_refl _
  | q + 1, hq => by
    have ih := ldZ_mono hz h q (by omega)
    obtain ⟨h1, h2⟩ := h q (by omega)
    have h3 := hz q (by omega)
    rw [ldZ, ldZ, h1]
    by_cases e : A' 9 q = c
    · rw [if_pos e, if_pos (h2 e)]; omega
    · rw [if_neg e]
      split <;> omega
theorem ldZ_at {A A' : xS} {c : Int32} {N t : Nat} (hz : ∀ t, t < N → 0 ≤ (A 7 t).toInt) (h : ∀ i, i < N → A' 7 i = A 7 i) (h9 : ∀ i, i < N → i ≠ t → A' 9 i = A 9 i) : ∀ q, q ≤ N → ldZ A' c q ≤ ldZ A c q + (if t < q then (A 7 t).toInt else 0)
  | 0, _ => by simp [ldZ]
  | q + 1, hq => by
    have ih := ldZ_at (c := c) hz h h9 q (by omega)
    have h1 := h q (by omega)
    have h3 := hz q (by omega)
    rw [ldZ, ldZ, h1]
    by_cases e : q = t
    · subst e
      rw [if_neg (Nat.lt_irrefl _)] at ih
      rw [if_pos (Nat.lt_succ_self _)]
      split <;> split <;> omega
    · rw [h9 q (by omega) e]
      by_cases h2 : t < q
      · rw [if_pos h2] at ih
        rw [if_pos (by omega : t < q + 1)]
        split <;> omega
      · rw [if_neg h2] at ih
        rw [if_neg (by omega : ¬ t < q + 1)]
        split <;> omega
/-! what holds between calls, beside fI -/
def jI (A : xS) (n D F m : Nat) : Prop :=
  (∀ c, c < 5 → A 0 c = 10) ∧ (∀ t, t < n → 1 ≤ (A 7 t).toInt ∧ (A 7 t).toInt ≤ 3) ∧ (∀ c, c < 5 → ldZ A (nI c) n ≤ 10) ∧
  (∀ t, t < n → 0 ≤ (A 8 t).toInt ∧ (A 8 t).toInt ≤ 300) ∧ (∀ t, t < n → 0 ≤ (A 11 t).toInt ∧ (A 11 t).toInt ≤ F) ∧ (∀ t, t < n → 0 ≤ (A 12 t).toInt ∧ (A 12 t).toInt ≤ 20) ∧
  ((∀ p, p < 8 → 0 ≤ (A 2 p).toInt) ∧ psZ A 8 + 300 * atC A n ≤ m) ∧ (0 ≤ (A 3 0).toInt ∧ (A 3 0).toInt + 6000 * atC A n ≤ 6000 * n) ∧
  (∀ t, t < n → A 18 (24 * D + t) = 12 ∨ A 18 (24 * D + t) < 5 ∨ A 9 t = A 18 (24 * D + t)) ∧ ∀ t, t < 24 → A 18 t = 12
/-- what may become of the things, purses and fees -/
def rl (n : Nat) (A A' : xS) : Prop :=
  (∀ t, t < n → ¬ A 9 t < 5 → A' 9 t = A 9 t) ∧ (∀ t, t < n → 0 < A 12 t → (A' 9 t = A 9 t ∧ 0 < A' 12 t) ∨ A' 9 t = 11) ∧ psZ A 8 ≤ psZ A' 8 ∧ (A 3 0).toInt ≤ (A' 3 0).toInt ∧ A' 6 = A 6 ∧ A' 7 = A 7
theorem rl.rf {n : Nat} {A : xS} : rl n A A := ⟨fun _ _ _ => rfl, fun _ _ h => Or.inl ⟨rfl, h⟩, Int.le_refl _, Int.le_refl _, rfl, rfl⟩
theorem rl.tr {n : Nat} {A A1 A2 : xS} (h : rl n A A1) (g : rl n A1 A2) : rl n A A2 := by
  obtain ⟨h1, h2, h3, h4, h5, h6⟩ := h
  obtain ⟨g1, g2, g3, g4, g5, g6⟩ := g
  refine ⟨fun t ht hc => ?_, fun t ht hc => ?_, by omega, by omega, g5.trans h5, g6.trans h6⟩
  · have e := h1 t ht hc
    rw [g1 t ht (by rw [e]; exact hc), e]
  · have h11 : ¬ (11 : Int32) < 5 := by decide
    rcases h2 t ht hc with ⟨e1, e2⟩ | e
    · rcases g2 t ht e2 with ⟨e3, e4⟩ | e3
      · exact Or.inl ⟨e3.trans e1, e4⟩
      · exact Or.inr e3
    · exact Or.inr (by rw [g1 t ht (by rw [e]; exact h11), e])
/-- what jI and rl see of a state is the same -/
theorem jI.same {A A' : xS} {n D F m : Nat} (h : jI A n D F m) (h0 : A' 0 = A 0) (h2 : A' 2 = A 2) (h3 : A' 3 = A 3) (h7 : A' 7 = A 7) (h8 : A' 8 = A 8) (h9 : A' 9 = A 9) (h11 : A' 11 = A 11) (h12 : A' 12 = A 12) (h18 : A' 18 = A 18) : jI A' n D F m := by
  obtain ⟨g1, g2, g3, g4, g5, g6, ⟨g7, g8⟩, g9, g10, g11⟩ := h
  have ea : atC A' n = atC A n := atC_same (fun i => by rw [h9]) n
  refine ⟨by rw [h0]; exact g1, by rw [h7]; exact g2, fun c hc => ?_, by rw [h8]; exact g4, by rw [h11]; exact g5, by rw [h12]; exact g6, ⟨by rw [h2]; exact g7, by rw [psZ_row h2, ea]; exact g8⟩, by rw [h3, ea]; exact g9, by rw [h18, h9]; exact g10, by rw [h18]; exact g11⟩
  rw [ldZ_same (N := n) (fun t _ => ⟨by rw [h7], by rw [h9]⟩) n (Nat.le_refl n)]
  exact g3 c hc
theorem rl.same {A A' : xS} {n : Nat} (h2 : A' 2 = A 2) (h3 : A' 3 = A 3) (h6 : A' 6 = A 6) (h7 : A' 7 = A 7) (h9 : A' 9 = A 9) (h12 : A' 12 = A 12) : rl n A A' :=
  ⟨fun t _ _ => by rw [h9], fun t _ hc => Or.inl ⟨by rw [h9], by rw [h12]; exact hc⟩, by rw [psZ_row h2]; exact Int.le_refl _, by rw [h3]; exact Int.le_refl _, h6, h7⟩
/-! one thing sold -/
theorem imn_int (x y : Int32) : (imn x y).toInt ≤ x.toInt ∧ (imn x y).toInt ≤ y.toInt ∧ ((imn x y).toInt = x.toInt ∨ (imn x y).toInt = y.toInt) := by
  unfold imn
  by_cases h : x < y
  · rw [if_pos h]
    have := i_lt.mp h
    exact ⟨Int.le_refl _, by omega, Or.inl rfl⟩
  · rw [if_neg h]
    have := i_le.mp (Int32.not_lt.mp h)
    exact ⟨this, Int.le_refl _, Or.inr rfl⟩
theorem sell_2 (A : xS) (t : Nat) : fSell t A 2 = mU (sA1 A t) 2 (ix (A 6 t)) (sA1 A t 2 (ix (A 6 t)) + (A 8 t - sBack A t - sPaid A t)) 2 := by
  unfold fSell sA3 sA2
  rw [mU_j (by decide), mU_j (by decide), mU_j (by decide), mU_j (by decide)]
  funext i
  by_cases h : i = ix (A 6 t)
  · subst h; rw [mU_eq, mU_eq]
  · rw [mU_i h, mU_i h, mU_j (by decide), mU_j (by decide)]
theorem sell_3 (A : xS) (t : Nat) : fSell t A 3 0 = A 3 0 + sPaid A t := by
  unfold fSell sA3 sA2
  rw [mU_j (by decide), mU_j (by decide), mU_j (by decide), mU_j (by decide), mU_j (by decide), mU_eq]
theorem sell_11 (A : xS) (t : Nat) : fSell t A 11 t = sPaid A t := by
  unfold fSell sA3 sA2
  rw [mU_j (by decide), mU_j (by decide), mU_j (by decide), mU_j (by decide), mU_j (by decide), mU_j (by decide), mU_eq]
theorem jI.sell {A : xS} {n D F m t : Nat} {L : List Nat} (hI : pI A n L) (h : jI A n D F m) (ht : t < n) (h9 : A 9 t < 5) (hF : F ≤ 6000) (hm : m ≤ 1000000) : jI (fSell t A) n D F m ∧ rl n A (fSell t A) := by
  obtain ⟨g1, g2, g3, g4, g5, g6, ⟨g7, g8⟩, ⟨g9, g9b⟩, g10, g11⟩ := h
  have hn := hI.1.2.1
  obtain ⟨ow, how, e6⟩ := hI.1.2.2.2.1 t (by omega)
  obtain ⟨lr, hlr, e13⟩ := hI.1.2.2.2.2 t (by omega)
  obtain ⟨w1, w2⟩ := g4 t ht
  obtain ⟨f1, f2⟩ := g5 t ht
  obtain ⟨l1, l2⟩ := g6 t ht
  obtain ⟨b1, b2, b3⟩ := imn_int (A 12 t) (A 8 t)
  have hb : sBack A t = imn (A 12 t) (A 8 t) := rfl
  rw [← hb] at b1 b2 b3
  have es : (A 8 t - sBack A t).toInt = (A 8 t).toInt - (sBack A t).toInt := i_sub (by omega) (by omega)
  obtain ⟨p1, p2, p3⟩ := imn_int (A 11 t) (A 8 t - sBack A t)
  have hp : sPaid A t = imn (A 11 t) (A 8 t - sBack A t) := rfl
  rw [← hp, es] at p2 p3
  rw [← hp] at p1
  have ex : (A 8 t - sBack A t - sPaid A t).toInt = (A 8 t).toInt - (sBack A t).toInt - (sPaid A t).toInt := by rw [i_sub (by rw [es]; omega) (by rw [es]; omega), es]
  have hge := psZ_ge g7 8 (Nat.le_refl 8)
  -- the lender's share
  have hA1 : psZ (sA1 A t) 8 = psZ A 8 + (sBack A t).toInt ∧ ∀ p, p < 8 → 0 ≤ (sA1 A t 2 p).toInt := by
    unfold sA1
    by_cases c : 0 < sBack A t
    · rw [if_pos c, e13, ixn2 (by omega)]
      have c0 := i_lt.mp c
      rw [i_0] at c0
      have h1 := g7 lr hlr
      have h2 := hge.2 lr hlr
      have ea : (A 2 lr + sBack A t).toInt = (A 2 lr).toInt + (sBack A t).toInt := i_add (by omega) (by omega)
      refine ⟨?_, fun p hp => ?_⟩
      · rw [psZ_mU, if_pos hlr, ea]; omega
      · by_cases e : p = lr
        · subst e; rw [mU_eq, ea]; omega
        · rw [mU_i e]; exact g7 p hp
    · rw [if_neg c]
      have c0 := i_le.mp (Int32.not_lt.mp c)
      rw [i_0] at c0
      exact ⟨by omega, g7⟩
  obtain ⟨k1, k2⟩ := hA1
  have hge1 := psZ_ge k2 8 (Nat.le_refl 8)
  have h2r := sell_2 A t
  rw [e6, ixn2 (by omega)] at h2r
  have q1 := k2 ow how
  have q2 := hge1.2 ow how
  have eo : (sA1 A t 2 ow + (A 8 t - sBack A t - sPaid A t)).toInt = (sA1 A t 2 ow).toInt + ((A 8 t).toInt - (sBack A t).toInt - (sPaid A t).toInt) := by
    rw [i_add (by rw [ex]; omega) (by rw [ex]; omega), ex]
  have hps : psZ (fSell t A) 8 = psZ A 8 + (A 8 t).toInt - (sPaid A t).toInt := by
    rw [psZ_row h2r, psZ_mU, if_pos how, eo, k1]; omega
  have hat := atC_sell (A := A) (A' := fSell t A) (t := t) (fun i hi => sell_ne hi (by decide) (by decide)) h9 (by rw [sell_9]; decide) n
  rw [if_pos ht] at hat
  have e3 : (fSell t A 3 0).toInt = (A 3 0).toInt + (sPaid A t).toInt := by
    rw [sell_3, i_add (by omega) (by omega)]
  have e9 : ∀ i, fSell t A 9 i = if i = t then 11 else A 9 i := fun i => by
    by_cases e : i = t
    · subst e; rw [sell_9, if_pos rfl]
    · rw [sell_ne e (by decide) (by decide), if_neg e]
  refine ⟨⟨?_, ?_, fun c hc => ?_, ?_, fun i hi => ?_, fun i hi => ?_, ⟨fun p hp => ?_, ?_⟩, ⟨?_, ?_⟩, fun i hi => ?_, ?_⟩, fun i hi hc => ?_, fun i hi hc => ?_, ?_, ?_, sell_j rfl, sell_j rfl⟩
  · rw [sell_j rfl]; exact g1
  · rw [sell_j rfl]; exact g2
  · refine Int.le_trans (ldZ_mono (N := n) (A := A) (fun i hi => by have := (g2 i hi).1; omega) (fun i hi => ⟨by rw [sell_j rfl], fun q => ?_⟩) n (Nat.le_refl n)) (g3 c hc)
    rw [e9] at q
    by_cases e : i = t
    · rw [if_pos e] at q
      exact absurd (q ▸ nI_lt (b := 5) hc (by decide)) (by decide)
    · rw [if_neg e] at q; exact q
  · rw [sell_j rfl]; exact g4
  · by_cases e : i = t
    · subst e; rw [sell_11]; omega
    · rw [sell_ne e (by decide) (by decide)]; exact g5 i hi
  · by_cases e : i = t
    · subst e; rw [sell_12, i_0]; omega
    · rw [sell_ne e (by decide) (by decide)]; exact g6 i hi
  · rw [h2r]
    by_cases e : p = ow
    · subst e; rw [mU_eq, eo]; omega
    · rw [mU_i e]; exact k2 p hp
  · rw [hps]; omega
  · rw [e3]; omega
  · rw [e3]; omega
  · rw [sell_j (j := 18) rfl, e9]
    by_cases e : i = t
    · subst e
      rcases g10 i hi with h | h | h
      · exact Or.inl h
      · exact Or.inr (Or.inl h)
      · exact Or.inr (Or.inl (by rw [← h]; exact h9))
    · rw [if_neg e]; exact g10 i hi
  · rw [sell_j (j := 18) rfl]; exact g11
  · rw [e9, if_neg (fun e => hc (by rw [e]; exact h9))]
  · by_cases e : i = t
    · exact Or.inr (by rw [e9, if_pos e])
    · exact Or.inl ⟨by rw [e9, if_neg e], by rw [sell_ne e (by decide) (by decide)]; exact hc⟩
  · rw [hps]; omega
  · rw [e3]; omega
end XOW

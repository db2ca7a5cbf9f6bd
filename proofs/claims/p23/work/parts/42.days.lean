section XOD
/-! a day's end -/
theorem move_j {A : xS} {t j : Nat} (h9 : j ≠ 9) (h15 : j ≠ 15) : fMove A t j = A j := by
  unfold fMove
  rw [mU_j h15, mU_j h9]
theorem move_9 {A : xS} {t i : Nat} : fMove A t 9 i = if i = t then A 15 t else A 9 i := by
  unfold fMove
  rw [mU_j (by decide)]
  by_cases e : i = t
  · subst e; rw [mU_eq, if_pos rfl]
  · rw [mU_i e, if_neg e]
theorem jI.move {A : xS} {n D F m t : Nat} {L : List Nat} {left : Int32} (hI : pI A n L) (h : jI A n D F m) (ht : t ∈ L) (hd : fDrvT n A left t) : jI (fMove A t) n D F m ∧ rl n A (fMove A t) := by
  obtain ⟨g1, g2, g3, g4, g5, g6, g7, g9, g10, g11⟩ := h
  have hn := hI.1.2.1
  obtain ⟨htn, ci, hci, e15⟩ := hI.2.1.2.2 t ht
  have h9 := hI.2.2.2.2.1 t ht
  obtain ⟨d1, d2, d3⟩ := hd
  have e2 : psZ (fMove A t) 8 = psZ A 8 := psZ_row (move_j (by decide) (by decide)) 8
  have ea : atC (fMove A t) n = atC A n := atC_same (fun i => by
    rw [move_9]
    by_cases e : i = t
    · subst e
      rw [if_pos rfl, e15]
      exact ⟨fun _ => h9, fun _ => nI_lt (b := 5) hci (by decide)⟩
    · rw [if_neg e]) n
  refine ⟨⟨?_, ?_, fun c hc => ?_, ?_, ?_, ?_, ⟨?_, ?_⟩, ?_, fun i hi => ?_, ?_⟩, fun i hi hc => ?_, fun i hi hc => Or.inl ⟨?_, ?_⟩, ?_, ?_, move_j (by decide) (by decide), move_j (by decide) (by decide)⟩
  · rw [move_j (by decide) (by decide)]; exact g1
  · rw [move_j (by decide) (by decide)]; exact g2
  · by_cases e : c = ci
    · subst e
      have h1 := ldZ_at (c := nI c) (N := n) (A := A) (A' := fMove A t) (t := t) (fun i hi => by have := (g2 i hi).1; omega) (fun i hi => by rw [move_j (by decide) (by decide)]) (fun i hi hne => by rw [move_9, if_neg hne]) n (Nat.le_refl n)
      rw [if_pos htn] at h1
      rw [e15, ixn2 (by omega), g1 c hc] at d3
      have h2 := ldF_int (c := nI c) (A := A) (N := n) (by omega) g2 n (Nat.le_refl n)
      have h3 := ldZ_ge (c := nI c) (A := A) (N := n) g2 n (Nat.le_refl n)
      have h4 := g2 t htn
      have h5 := i_le.mp d3
      rw [i_add (by rw [h2]; omega) (by rw [h2]; omega), h2, show (10 : Int32).toInt = 10 by decide] at h5
      omega
    · refine Int.le_trans (ldZ_mono (N := n) (A := A) (fun i hi => by have := (g2 i hi).1; omega) (fun i hi => ⟨by rw [move_j (by decide) (by decide)], fun q => ?_⟩) n (Nat.le_refl n)) (g3 c hc)
      rw [move_9] at q
      by_cases e2 : i = t
      · rw [if_pos e2, e15] at q
        exact absurd ((nI_eq (by omega) (by omega)).mp q).symm e
      · rw [if_neg e2] at q; exact q
  · rw [move_j (by decide) (by decide)]; exact g4
  · rw [move_j (by decide) (by decide)]; exact g5
  · rw [move_j (by decide) (by decide)]; exact g6
  · rw [move_j (by decide) (by decide)]; exact g7.1
  · rw [e2, ea]; exact g7.2
  · rw [move_j (by decide) (by decide), ea]; exact g9
  · rw [move_j (j := 18) (by decide) (by decide), move_9]
    by_cases e : i = t
    · subst e
      rcases g10 i hi with h | h | h
      · exact Or.inl h
      · exact Or.inr (Or.inl h)
      · exact Or.inr (Or.inl (by rw [← h]; exact h9))
    · rw [if_neg e]; exact g10 i hi
  · rw [move_j (by decide) (by decide)]; exact g11
  · rw [move_9, if_neg (fun e => hc (by rw [e]; exact h9))]
  · rw [move_9, if_neg (fun e => by rw [e, d1] at hc; exact absurd hc (by decide))]
  · rw [move_j (by decide) (by decide)]; exact hc
  · rw [e2]; exact Int.le_refl _
  · rw [move_j (by decide) (by decide)]; exact Int.le_refl _
theorem owes_int {A : xS} {n t : Nat} (g2 : ∀ t, t < n → 1 ≤ (A 7 t).toInt ∧ (A 7 t).toInt ≤ 3) (ht : t < n) : 0 ≤ (owes A t).toInt ∧ (owes A t).toInt ≤ 6 := by
  have h := g2 t ht
  unfold owes
  split
  · decide
  · split
    · omega
    · have e2 : (2 : Int32).toInt = 2 := by decide
      rw [i_mul (by rw [e2]; omega) (by rw [e2]; omega), e2]; omega
theorem fOwe_11 {A : xS} {n F : Nat} (g2 : ∀ t, t < n → 1 ≤ (A 7 t).toInt ∧ (A 7 t).toInt ≤ 3) (g5 : ∀ t, t < n → 0 ≤ (A 11 t).toInt ∧ (A 11 t).toInt ≤ F) (hF : F ≤ 6000) : ∀ m, m ≤ n → ∀ i, i < n → 0 ≤ (fOwe m A 11 i).toInt ∧ (fOwe m A 11 i).toInt ≤ F + (if i < m then 6 else 0)
  | 0, _, i, hi => by
    have := g5 i hi
    rw [if_neg (Nat.not_lt_zero i)]
    show 0 ≤ (A 11 i).toInt ∧ (A 11 i).toInt ≤ _
    omega
  | m + 1, hm, i, hi => by
    have ih := fOwe_11 g2 g5 hF m (by omega) i hi
    rw [fOwe]
    by_cases e : i = m
    · subst e
      rw [if_neg (Nat.lt_irrefl _)] at ih
      have ho := owes_int (A := fOwe i A) (n := n) (by rw [fOwe_j (by decide)]; exact g2) hi
      rw [mU_eq, if_pos (Nat.lt_succ_self _), i_add (by omega) (by omega)]
      omega
    · rw [mU_i e]
      by_cases h2 : i < m
      · rw [if_pos h2] at ih; rw [if_pos (by omega)]; exact ih
      · rw [if_neg h2] at ih; rw [if_neg (by omega)]; exact ih
theorem jI.owe {A : xS} {n D F m : Nat} (h : jI A n D F m) (hF : F ≤ 6000) : jI (fOwe n A) n D (F + 6) m ∧ rl n A (fOwe n A) := by
  obtain ⟨g1, g2, g3, g4, g5, g6, ⟨g7, g8⟩, g9, g10, g11⟩ := h
  have ej : ∀ j, j ≠ 11 → fOwe n A j = A j := fun j hj => fOwe_j hj
  have ea : atC (fOwe n A) n = atC A n := atC_same (fun i => by rw [ej 9 (by decide)]) n
  refine ⟨⟨by rw [ej 0 (by decide)]; exact g1, by rw [ej 7 (by decide)]; exact g2, fun c hc => ?_, by rw [ej 8 (by decide)]; exact g4, fun i hi => ?_, by rw [ej 12 (by decide)]; exact g6, ⟨by rw [ej 2 (by decide)]; exact g7, by rw [psZ_row (ej 2 (by decide)), ea]; exact g8⟩, by rw [ej 3 (by decide), ea]; exact g9, by rw [ej 18 (by decide), ej 9 (by decide)]; exact g10, by rw [ej 18 (by decide)]; exact g11⟩,
    rl.same (ej 2 (by decide)) (ej 3 (by decide)) (ej 6 (by decide)) (ej 7 (by decide)) (ej 9 (by decide)) (ej 12 (by decide))⟩
  · rw [ldZ_same (N := n) (fun t _ => ⟨by rw [ej 7 (by decide)], by rw [ej 9 (by decide)]⟩) n (Nat.le_refl n)]
    exact g3 c hc
  · have := fOwe_11 g2 g5 hF n (Nat.le_refl n) i hi
    rw [if_pos hi] at this
    omega
theorem jI.tick {A : xS} {n D F m : Nat} (h : jI A n D F m) (hn : n ≤ 24) (hD : D + 1 ≤ 1000) : jI (fBeg n (mU A 4 0 (nI (D + 1)))) n (D + 1) F m ∧ rl n A (fBeg n (mU A 4 0 (nI (D + 1)))) := by
  obtain ⟨g1, g2, g3, g4, g5, g6, ⟨g7, g8⟩, g9, g10, g11⟩ := h
  have hB : mU A 4 0 (nI (D + 1)) 4 0 = nI (D + 1) := mU_eq _ _ _ _
  have ej : ∀ j, j ≠ 4 → j ≠ 18 → fBeg n (mU A 4 0 (nI (D + 1))) j = A j := fun j g1 g2 => by rw [fBeg_j g2, mU_j g1]
  have ea : atC (fBeg n (mU A 4 0 (nI (D + 1)))) n = atC A n := atC_same (fun i => by rw [ej 9 (by decide) (by decide)]) n
  refine ⟨⟨by rw [ej 0 (by decide) (by decide)]; exact g1, by rw [ej 7 (by decide) (by decide)]; exact g2, fun c hc => ?_, by rw [ej 8 (by decide) (by decide)]; exact g4, by rw [ej 11 (by decide) (by decide)]; exact g5, by rw [ej 12 (by decide) (by decide)]; exact g6, ⟨by rw [ej 2 (by decide) (by decide)]; exact g7, by rw [psZ_row (ej 2 (by decide) (by decide)), ea]; exact g8⟩, by rw [ej 3 (by decide) (by decide), ea]; exact g9, fun i hi => ?_, fun i hi => ?_⟩,
    rl.same (ej 2 (by decide) (by decide)) (ej 3 (by decide) (by decide)) (ej 6 (by decide) (by decide)) (ej 7 (by decide) (by decide)) (ej 9 (by decide) (by decide)) (ej 12 (by decide) (by decide))⟩
  · rw [ldZ_same (N := n) (fun t _ => ⟨by rw [ej 7 (by decide) (by decide)], by rw [ej 9 (by decide) (by decide)]⟩) n (Nat.le_refl n)]
    exact g3 c hc
  · refine Or.inr (Or.inr ?_)
    rw [fBeg_at hB hD n hn hi, mU_j (by decide), ej 9 (by decide) (by decide)]
  · rw [fBeg_ne hB hD n hn (fun q hq => by omega), mU_j (by decide)]
    exact g11 i hi
theorem jI.cal {A : xS} {n D F m : Nat} {L : List Nat} (hI : pI A n L) (hC : calI A n) (h : jI A n D F m) (hF : F ≤ 6000) (hm : m ≤ 1000000) : ∀ q, q ≤ n → jI (fCal q (0, A, L)).2.1 n D F m ∧ rl n A (fCal q (0, A, L)).2.1
  | 0, _ => ⟨h, rl.rf⟩
  | q + 1, hq => by
    obtain ⟨i1, i2⟩ := jI.cal hI hC h hF hm q (by omega)
    obtain ⟨b1, -, -⟩ := fCal_P (0 : Int32) hI hC q (by omega)
    rw [fCal]
    split
    · rename_i hc
      obtain ⟨j1, j2⟩ := i1.sell b1 (show q < n by omega) hc.1 hF hm
      exact ⟨j1, i2.tr j2⟩
    · exact ⟨i1, i2⟩
theorem jI.unf {A : xS} {n D F m : Nat} {L : List Nat} (hI : pI A n L) (hC : calS A n) (h : jI A n D F m) (hF : F ≤ 6000) (hm : m ≤ 1000000) : ∀ q, q ≤ n → jI (fUnf q (0, A, L)).2.1 n D F m ∧ rl n A (fUnf q (0, A, L)).2.1
  | 0, _ => ⟨h, rl.rf⟩
  | q + 1, hq => by
    obtain ⟨i1, i2⟩ := jI.unf hI hC h hF hm q (by omega)
    obtain ⟨b1, -⟩ := fUnf_P (0 : Int32) hI hC q (by omega)
    rw [fUnf]
    split
    · rename_i hc
      obtain ⟨j1, j2⟩ := i1.sell b1 (show q < n by omega) hc.1 hF hm
      exact ⟨j1, i2.tr j2⟩
    · exact ⟨i1, i2⟩
theorem jI.drv {n D F m : Nat} : ∀ (R : List Nat) (V : xV), pI V.2.1 n V.2.2 → jI V.2.1 n D F m → R.Nodup → (∀ q ∈ R, q ∈ V.2.2) → jI (fDrv n R V).2.1 n D F m ∧ rl n V.2.1 (fDrv n R V).2.1
  | [], V, _, h, _, _ => ⟨h, rl.rf⟩
  | t :: r, V, hI, h, hd, hs => by
    have h1 := List.nodup_cons.mp hd
    rw [fDrv]
    split
    · rename_i hc
      have ht := hs t List.mem_cons_self
      obtain ⟨j1, j2⟩ := h.move hI ht hc
      have g := jI.drv r (V.1 - V.2.1 7 t, fMove V.2.1 t, fFor t V.2.2) (hI.move ht) j1 h1.2 (fun q hq => fFor_in (hs q (List.mem_cons_of_mem _ hq)) (fun z => h1.1 (z ▸ hq)))
      exact ⟨g.1, j2.tr g.2⟩
    · exact jI.drv r V hI h h1.2 (fun q hq => hs q (List.mem_cons_of_mem _ hq))
theorem jI.day {A : xS} {n D m : Nat} {L : List Nat} (hI : pI A n L) (hC : calI A n) (hD : A 4 0 = nI D) (hD1 : D + 1 ≤ 990) (h : jI A n D (6 * D) m) (hm : m ≤ 1000000) : jI (fDay n (0, A, L)).2.1 n (D + 1) (6 * (D + 1)) m ∧ rl n A (fDay n (0, A, L)).2.1 := by
  obtain ⟨⟨a1, a2, a3⟩, b, c, d, -⟩ := fDay_P hI hC hD (by omega)
  obtain ⟨b1, b2, b3, -⟩ := b _ rfl
  obtain ⟨c1, c2, c3, -⟩ := c _ rfl
  obtain ⟨d1, d2, d3, -⟩ := d _ rfl
  obtain ⟨j1, r1⟩ := h.owe (by omega)
  obtain ⟨j2, r2⟩ := jI.cal (D := D) (F := 6 * D + 6) (m := m) a1 a2 j1 (by omega) hm n (Nat.le_refl n)
  obtain ⟨j3, r3⟩ := jI.unf (D := D) (F := 6 * D + 6) (m := m) b1 b2 j2 (by omega) hm n (Nat.le_refl n)
  obtain ⟨j4, r4⟩ := jI.drv (D := D) (F := 6 * D + 6) (m := m) (n := n) (fUnf n (0, (fCal n (0, fOwe n A, L)).2)).2.2 ((fUnf n (0, (fCal n (0, fOwe n A, L)).2)).2.1 1 0, (fUnf n (0, (fCal n (0, fOwe n A, L)).2)).2) c1 j3 c1.2.1.2.1 (fun q hq => hq)
  obtain ⟨j5, r5⟩ := j4.tick hI.1.2.1 (by omega)
  rw [fDay_eq]
  show jI (fBeg n (mU _ 4 0 (_ + 1))) n (D + 1) (6 * (D + 1)) m ∧ rl n A (fBeg n (mU _ 4 0 (_ + 1)))
  rw [d3, nI_1]
  exact ⟨j5, r1.tr (r2.tr (r3.tr (r4.tr r5)))⟩
theorem fCal_1 {n : Nat} (A : xS) (L : List Nat) : ∀ q, q ≤ 1000 → 0 ≤ (fCal q (0, A, L)).1.toInt ∧ (fCal q (0, A, L)).1.toInt ≤ q
  | 0, _ => ⟨by show 0 ≤ (0 : Int32).toInt; decide, by show (0 : Int32).toInt ≤ 0; decide⟩
  | q + 1, hq => by
    have ih := fCal_1 (n := n) A L q (by omega)
    have e1 : (1 : Int32).toInt = 1 := by decide
    rw [fCal]
    split
    · show 0 ≤ ((fCal q (0, A, L)).1 + 1).toInt ∧ ((fCal q (0, A, L)).1 + 1).toInt ≤ _
      rw [i_add (by rw [e1]; omega) (by rw [e1]; omega), e1]
      omega
    · omega
theorem fUnf_1 {n : Nat} (A : xS) (L : List Nat) : ∀ q, q ≤ 1000 → 0 ≤ (fUnf q (0, A, L)).1.toInt ∧ (fUnf q (0, A, L)).1.toInt ≤ q
  | 0, _ => ⟨by show 0 ≤ (0 : Int32).toInt; decide, by show (0 : Int32).toInt ≤ 0; decide⟩
  | q + 1, hq => by
    have ih := fUnf_1 (n := n) A L q (by omega)
    have e1 : (1 : Int32).toInt = 1 := by decide
    rw [fUnf]
    split
    · show 0 ≤ ((fUnf q (0, A, L)).1 + 1).toInt ∧ ((fUnf q (0, A, L)).1 + 1).toInt ≤ _
      rw [i_add (by rw [e1]; omega) (by rw [e1]; omega), e1]
      omega
    · omega
theorem day_1 {A : xS} {n D : Nat} {L : List Nat} (hI : pI A n L) (hC : calI A n) (hD : A 4 0 = nI D) (hD1 : D + 1 ≤ 990) : (∀ k, k < 24 * (D + 1) → (fDay n (0, A, L)).2.1 18 k = A 18 k) ∧ 0 ≤ (fDay n (0, A, L)).1.toInt ∧ (fDay n (0, A, L)).1.toInt ≤ 48 := by
  obtain ⟨⟨a1, a2, a3⟩, b, c, d, -⟩ := fDay_P hI hC hD (by omega)
  obtain ⟨b1, b2, b3, -⟩ := b _ rfl
  obtain ⟨c1, c2, c3, -⟩ := c _ rfl
  obtain ⟨d1, d2, d3, -⟩ := d _ rfl
  have hn := hI.1.2.1
  rw [fDay_eq]
  refine ⟨fun k hk => ?_, ?_⟩
  · show fBeg n (mU _ 4 0 (_ + 1)) 18 k = _
    rw [d3, nI_1, fBeg_ne (mU_eq _ _ _ _) (by omega) n hn (fun i hi => by omega), mU_j (by decide)]
    rw [(fDrv_I (n := n) (fUnf n (0, (fCal n (0, fOwe n A, L)).2)).2.2 ((fUnf n (0, (fCal n (0, fOwe n A, L)).2)).2.1 1 0, (fUnf n (0, (fCal n (0, fOwe n A, L)).2)).2) c1.2.1).1 18 rfl]
    show (fUnf n (0, (fCal n (0, fOwe n A, L)).2)).2.1 18 k = _
    rw [(fUnf_I (n := n) (0, (fCal n (0, fOwe n A, L)).2) n b1.2.1).1 18 rfl]
    show (fCal n (0, fOwe n A, L)).2.1 18 k = _
    rw [(fCal_I (n := n) (0, fOwe n A, L) n a1.2.1).1 18 rfl]
    show fOwe n A 18 k = _
    rw [fOwe_j (by decide)]
  · have h1 := fCal_1 (n := n) (fOwe n A) L n (by omega)
    have h2 : 0 ≤ (fUnf n (0, (fCal n (0, fOwe n A, L)).2)).1.toInt ∧ (fUnf n (0, (fCal n (0, fOwe n A, L)).2)).1.toInt ≤ n := fUnf_1 (n := n) (fCal n (0, fOwe n A, L)).2.1 (fCal n (0, fOwe n A, L)).2.2 n (by omega)
    show 0 ≤ ((fCal n (0, fOwe n A, L)).1 + (fUnf n (0, (fCal n (0, fOwe n A, L)).2)).1).toInt ∧ ((fCal n (0, fOwe n A, L)).1 + (fUnf n (0, (fCal n (0, fOwe n A, L)).2)).1).toInt ≤ 48
    rw [i_add (by omega) (by omega)]
    omega
theorem jI.days {A : xS} {n D m : Nat} {L : List Nat} (hF : fI A n L D) (h : jI A n D (6 * D) m) (hm : m ≤ 1000000) : ∀ k, D + k ≤ 990 → jI (fDays n k (0, mU A 19 0 0, L)).2.1 n (D + k) (6 * (D + k)) m ∧ rl n A (fDays n k (0, mU A 19 0 0, L)).2.1 ∧ (∀ i, i < 24 * (D + 1) → (fDays n k (0, mU A 19 0 0, L)).2.1 18 i = A 18 i) ∧ 0 ≤ (fDays n k (0, mU A 19 0 0, L)).1.toInt ∧ (fDays n k (0, mU A 19 0 0, L)).1.toInt ≤ 48 * k
  | 0, _ => ⟨h.same rfl rfl rfl rfl rfl rfl rfl rfl rfl, rl.same rfl rfl rfl rfl rfl rfl, fun _ _ => rfl, by show 0 ≤ (0 : Int32).toInt; decide, by show (0 : Int32).toInt ≤ 0; decide⟩
  | k + 1, hk => by
    obtain ⟨i1, i2, i3, i4, i5⟩ := jI.days hF h hm k (by omega)
    obtain ⟨f1, f2, f3, f4⟩ := fDays_P hF k (by omega)
    obtain ⟨j1, j2⟩ := jI.day f1 f2 f3 (by omega) i1 hm
    obtain ⟨k1, k2, k3⟩ := day_1 f1 f2 f3 (by omega)
    refine ⟨j1, i2.tr j2, fun i hi => ?_, ?_⟩
    · show (fDay n (0, (fDays n k (0, mU A 19 0 0, L)).2)).2.1 18 i = _
      exact (k1 i (by omega)).trans (i3 i hi)
    · show 0 ≤ ((fDays n k (0, mU A 19 0 0, L)).1 + (fDay n (0, (fDays n k (0, mU A 19 0 0, L)).2)).1).toInt ∧ ((fDays n k (0, mU A 19 0 0, L)).1 + (fDay n (0, (fDays n k (0, mU A 19 0 0, L)).2)).1).toInt ≤ _
      have hk2 : ((fDay n (0, (fDays n k (0, mU A 19 0 0, L)).2)).1).toInt ≤ 48 := k3
      have hk1 : 0 ≤ ((fDay n (0, (fDays n k (0, mU A 19 0 0, L)).2)).1).toInt := k2
      rw [i_add (by omega) (by omega)]
      omega
end XOD

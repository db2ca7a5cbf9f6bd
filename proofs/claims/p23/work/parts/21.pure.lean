section XPU
theorem fFor_nd {t : Nat} {L : List Nat} (h : L.Nodup) : (fFor t L).Nodup := List.Pairwise.filter _ h
theorem fFor_id {t : Nat} {L : List Nat} (h : t ∉ L) : fFor t L = L := by
  unfold fFor
  refine List.filter_eq_self.mpr (fun q hq => ?_)
  have : q ≠ t := fun z => h (z ▸ hq)
  simp [this]
theorem fFor_cons_eq {t : Nat} {L : List Nat} : fFor t (t :: L) = fFor t L := by simp [fFor]
theorem fFor_cons_ne {t q : Nat} {L : List Nat} (h : q ≠ t) : fFor t (q :: L) = q :: fFor t L := by simp [fFor, h]
theorem fFor_app (t : Nat) (L L' : List Nat) : fFor t (L ++ L') = fFor t L ++ fFor t L' := by simp [fFor]
theorem fFor_len1 {t : Nat} : ∀ {L : List Nat}, L.Nodup → L.length ≤ (fFor t L).length + 1
  | [], _ => by simp
  | q :: r, h => by
    have h1 := List.nodup_cons.mp h
    by_cases e : q = t
    · subst e
      rw [fFor_cons_eq, fFor_id h1.1]
      simp
    · rw [fFor_cons_ne e]
      have := fFor_len1 (t := t) h1.2
      simp only [List.length_cons]
      omega
theorem nd_len : ∀ (n : Nat) (L : List Nat), L.Nodup → (∀ q ∈ L, q < n) → L.length ≤ n
  | 0, L, _, h => by
    cases L with
    | nil => simp
    | cons q r => exact absurd (h q List.mem_cons_self) (Nat.not_lt_zero q)
  | n + 1, L, hd, h => by
    have h1 := nd_len n (fFor n L) (fFor_nd hd) (fun q hq => by
      have h2 := fFor_mem hq
      have := h q h2.1
      have := h2.2
      omega)
    have := fFor_len1 (t := n) hd
    omega
theorem fFor_lt {n t : Nat} {L : List Nat} (hd : L.Nodup) (h : ∀ q ∈ L, q < n) (ht : t < n) : (fFor t L).length + 1 ≤ n := by
  have h1 := nd_len n (t :: fFor t L) (List.nodup_cons.mpr ⟨fun z => (fFor_mem z).2 rfl, fFor_nd hd⟩) (fun q hq => by
    rcases List.mem_cons.mp hq with h2 | h2
    · omega
    · exact h q (fFor_mem h2).1)
  simpa using h1
theorem fFor_mid {t : Nat} {P R : List Nat} (h : (P ++ t :: R).Nodup) : fFor t (P ++ t :: R) = P ++ R := by
  have h1 := List.nodup_append.mp h
  have h2 := List.nodup_cons.mp h1.2.1
  rw [fFor_app, fFor_cons_eq, fFor_id (fun z => h1.2.2 t z t List.mem_cons_self rfl), fFor_id h2.1]
/-! rows that no day's end changes -/
def stb (j : Nat) : Bool := !(j == 2 || j == 3 || j == 9 || j == 11 || j == 12 || j == 14 || j == 15)
theorem stb_ne {j : Nat} (h : stb j = true) : j ≠ 2 ∧ j ≠ 3 ∧ j ≠ 9 ∧ j ≠ 11 ∧ j ≠ 12 ∧ j ≠ 14 ∧ j ≠ 15 := by
  simp only [stb, Bool.not_eq_true', Bool.or_eq_false_iff, beq_eq_false_iff_ne] at h
  omega
def sameR (A B : xS) : Prop := ∀ j, stb j = true → B j = A j
theorem sameR.rf {A : xS} : sameR A A := fun _ _ => rfl
theorem sameR.tr {A B C : xS} (h : sameR A B) (h2 : sameR B C) : sameR A C := fun j hj => (h2 j hj).trans (h j hj)
theorem sameR_aI {A B : xS} {n : Nat} (h : sameR A B) (hI : aI A n) : aI B n := by
  unfold aI at hI ⊢
  rw [h 5 rfl, h 4 rfl, h 6 rfl, h 13 rfl]
  exact hI
theorem sameR_mU {A : xS} {j i : Nat} {v : Int32} (hj : stb j = false) : sameR A (mU A j i v) := fun k hk => mU_j (fun z => by rw [z, hj] at hk; cases hk)
theorem sameR_sA1 (A : xS) (t : Nat) : sameR A (sA1 A t) := by
  unfold sA1
  split
  · exact sameR_mU rfl
  · exact sameR.rf
theorem sA1_j {A : xS} {t j : Nat} (h : j ≠ 2) : sA1 A t j = A j := by
  unfold sA1
  split
  · exact mU_j h
  · rfl
theorem sameR_sell (A : xS) (t : Nat) : sameR A (fSell t A) := by
  unfold fSell sA3 sA2
  exact (((((((sameR_sA1 A t).tr (sameR_mU rfl)).tr (sameR_mU rfl)).tr (sameR_mU rfl)).tr (sameR_mU rfl)).tr (sameR_mU rfl)).tr (sameR_mU rfl)).tr (sameR_mU rfl)
theorem sell_15 {A : xS} {t q : Nat} (h : q ≠ t) : fSell t A 15 q = A 15 q := by
  unfold fSell
  rw [mU_i h]
  unfold sA3 sA2
  rw [mU_j (by decide), mU_j (by decide), mU_j (by decide), mU_j (by decide), mU_j (by decide), mU_j (by decide), sA1_j (by decide)]
theorem lI_for {A B : xS} {n t : Nat} {L : List Nat} (h : lI A n L) (hB : ∀ q, q ≠ t → B 15 q = A 15 q) : lI B n (fFor t L) :=
  ⟨Nat.le_trans (fFor_len t L) h.1, fFor_nd h.2.1, fun q hq => by
    have h1 := fFor_mem hq
    rw [hB q h1.2]
    exact h.2.2 q h1.1⟩
theorem lI_same {A B : xS} {n : Nat} {L : List Nat} (h : lI A n L) (hB : B 15 = A 15) : lI B n L := by
  unfold lI
  rw [hB]
  exact h
theorem lI_sell {A : xS} {n t : Nat} {L : List Nat} (h : lI A n L) : lI (fSell t A) n (fFor t L) := lI_for h (fun _ hq => sell_15 hq)
theorem move_15 {A : xS} {t q : Nat} (h : q ≠ t) : fMove A t 15 q = A 15 q := by
  unfold fMove
  rw [mU_i h, mU_j (by decide)]
theorem sameR_move (A : xS) (t : Nat) : sameR A (fMove A t) := (sameR_mU rfl).tr (sameR_mU rfl)
theorem lI_move {A : xS} {n t : Nat} {L : List Nat} (h : lI A n L) : lI (fMove A t) n (fFor t L) := lI_for h (fun _ hq => move_15 hq)
theorem fOwe_j {A : xS} {t j : Nat} (h : j ≠ 11) : fOwe t A j = A j := by
  induction t with
  | zero => rfl
  | succ t ih => rw [fOwe, mU_j h, ih]
theorem sameR_owe (A : xS) (t : Nat) : sameR A (fOwe t A) := fun j hj => fOwe_j (stb_ne hj).2.2.2.1
theorem fCal_I {n : Nat} (V : xV) (t : Nat) (h : lI V.2.1 n V.2.2) : sameR V.2.1 (fCal t V).2.1 ∧ lI (fCal t V).2.1 n (fCal t V).2.2 := by
  induction t with
  | zero => exact ⟨sameR.rf, h⟩
  | succ t ih =>
    rw [fCal]
    split
    · exact ⟨ih.1.tr (sameR_sell _ t), lI_sell ih.2⟩
    · exact ih
theorem fUnf_I {n : Nat} (V : xV) (t : Nat) (h : lI V.2.1 n V.2.2) : sameR V.2.1 (fUnf t V).2.1 ∧ lI (fUnf t V).2.1 n (fUnf t V).2.2 := by
  induction t with
  | zero => exact ⟨sameR.rf, h⟩
  | succ t ih =>
    rw [fUnf]
    split
    · exact ⟨ih.1.tr (sameR_sell _ t), lI_sell ih.2⟩
    · exact ih
theorem fDrv_I {n : Nat} (R : List Nat) (V : xV) (h : lI V.2.1 n V.2.2) : sameR V.2.1 (fDrv n R V).2.1 ∧ lI (fDrv n R V).2.1 n (fDrv n R V).2.2 := by
  induction R generalizing V with
  | nil => exact ⟨sameR.rf, h⟩
  | cons t r ih =>
    rw [fDrv]
    split
    · have := ih (V.1 - V.2.1 7 t, fMove V.2.1 t, fFor t V.2.2) (lI_move h)
      exact ⟨(sameR_move _ t).tr this.1, this.2⟩
    · exact ih V h
theorem fBeg_j {A : xS} {t j : Nat} (h : j ≠ 18) : fBeg t A j = A j := by
  induction t with
  | zero => rfl
  | succ t ih => rw [fBeg, mU_j h, ih]
def aId (A : xS) (n d : Nat) : Prop := aI A n ∧ A 4 0 = nI d
theorem fDay_I {n d : Nat} (V : xV) (ha : aI V.2.1 n) (hd : V.2.1 4 0 = nI d) (hd1 : d + 1 ≤ 1000) (h : lI V.2.1 n V.2.2) : aI (fDay n V).2.1 n ∧ (fDay n V).2.1 4 0 = nI (d + 1) ∧ lI (fDay n V).2.1 n (fDay n V).2.2 := by
  have h1 : lI (fOwe n V.2.1) n V.2.2 := lI_same h (fOwe_j (by decide))
  have h2 := fCal_I (n := n) (V.1, fOwe n V.2.1, V.2.2) n h1
  have h3 := fUnf_I (n := n) (fCal n (V.1, fOwe n V.2.1, V.2.2)) n h2.2
  have h4 := fDrv_I (n := n) (fUnf n (fCal n (V.1, fOwe n V.2.1, V.2.2))).2.2 ((fUnf n (fCal n (V.1, fOwe n V.2.1, V.2.2))).2.1 1 0, (fUnf n (fCal n (V.1, fOwe n V.2.1, V.2.2))).2.1, (fUnf n (fCal n (V.1, fOwe n V.2.1, V.2.2))).2.2) h3.2
  have hs := (((sameR_owe V.2.1 n).tr h2.1).tr h3.1).tr h4.1
  have e4 : (fDay n V).2.1 4 0 = nI (d + 1) := by
    show fBeg n (mU _ 4 0 _) 4 0 = _
    rw [fBeg_j (by decide), mU_eq, hs 4 rfl, hd, nI_1]
  refine ⟨?_, e4, ?_⟩
  · obtain ⟨g1, g2, g3, g4, g5⟩ := sameR_aI hs ha
    refine ⟨?_, g2, ⟨d + 1, hd1, e4⟩, ?_, ?_⟩
    · show fBeg n (mU _ 4 0 _) 5 0 = _
      rw [fBeg_j (by decide), mU_j (by decide)]; exact g1
    · show ∀ t, t < 24 → ∃ o, o < 8 ∧ fBeg n (mU _ 4 0 _) 6 t = nI o
      rw [fBeg_j (by decide), mU_j (by decide)]; exact g4
    · show ∀ t, t < 24 → ∃ o, o < 8 ∧ fBeg n (mU _ 4 0 _) 13 t = nI o
      rw [fBeg_j (by decide), mU_j (by decide)]; exact g5
  · refine lI_same h4.2 ?_
    show fBeg n (mU _ 4 0 _) 15 = _
    rw [fBeg_j (by decide), mU_j (by decide)]
theorem fDays_I {n d : Nat} (V : xV) (ha : aI V.2.1 n) (hd : V.2.1 4 0 = nI d) (h : lI V.2.1 n V.2.2) (k : Nat) (hk : d + k ≤ 1000) : aI (fDays n k V).2.1 n ∧ (fDays n k V).2.1 4 0 = nI (d + k) ∧ lI (fDays n k V).2.1 n (fDays n k V).2.2 := by
  induction k with
  | zero => exact ⟨ha, hd, h⟩
  | succ k ih =>
    obtain ⟨i1, i2, i3⟩ := ih (by omega)
    exact fDay_I (0, (fDays n k V).2) i1 i2 (by omega) i3
end XPU

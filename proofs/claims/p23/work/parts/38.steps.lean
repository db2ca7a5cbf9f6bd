section XST
def fI (A : xS) (n : Nat) (L : List Nat) (D : Nat) : Prop := pI A n L ∧ calI A n ∧ A 4 0 = nI D ∧ D ≤ 1000
theorem fI_thr {A : xS} {n D : Nat} {L : List Nat} (h : fI A n L D) (x : Int32) : fI (mU A 19 0 x) n L D := h
theorem pI_at {A A' : xS} {n t : Nat} {L L' : List Nat} (h : pI A n L) (ht : t < n) (hs : ∀ j, j = 5 ∨ j = 4 ∨ j = 6 ∨ j = 18 → A' j = A j) (h13 : ∃ o, o < 8 ∧ A' 13 t = nI o) (hne : ∀ i, i ≠ t → ∀ j, j = 8 ∨ j = 9 ∨ j = 11 ∨ j = 12 ∨ j = 13 ∨ j = 14 ∨ j = 15 → A' j i = A j i)
    (hL' : lI A' n L') (hLt : ∀ q, q ≠ t → (q ∈ L' ↔ q ∈ L)) (a15 : t ∉ L' → A' 15 t = -1) (a9 : 0 ≤ A' 9 t) (aL : t ∈ L' → A' 9 t < 5) (a12 : A' 12 t = 0 ∨ (0 < A' 12 t ∧ A' 9 t < 5)) (a14 : A' 12 t = 0 → A' 14 t = -1) (a8 : 0 ≤ A' 8 t) : pI A' n L' := by
  obtain ⟨⟨g1, g2, g3, g4, g5⟩, h2, h3, h4, h5, h6, h7, h8, h9⟩ := h
  refine ⟨⟨by rw [hs 5 (by omega)]; exact g1, g2, by rw [hs 4 (by omega)]; exact g3, by rw [hs 6 (by omega)]; exact g4, fun q hq => ?_⟩, hL', fun q hq hL => ?_, fun q hq => ?_, fun q hq => ?_, fun q hq => ?_, fun q hq => ?_, fun q hq => ?_, fun q hq hq2 => ?_⟩
  · by_cases e : q = t
    · subst e; exact h13
    · rw [hne q e 13 (by omega)]; exact g5 q hq
  · by_cases e : q = t
    · subst e; exact a15 hL
    · rw [hne q e 15 (by omega)]; exact h3 q hq (fun z => hL ((hLt q e).mpr z))
  · by_cases e : q = t
    · subst e; exact a9
    · rw [hne q e 9 (by omega)]; exact h4 q hq
  · by_cases e : q = t
    · subst e; exact aL hq
    · rw [hne q e 9 (by omega)]; exact h5 q ((hLt q e).mp hq)
  · by_cases e : q = t
    · subst e; exact a12
    · rw [hne q e 12 (by omega), hne q e 9 (by omega)]; exact h6 q hq
  · by_cases e : q = t
    · subst e; exact a14
    · rw [hne q e 12 (by omega), hne q e 14 (by omega)]; exact h7 q hq
  · by_cases e : q = t
    · subst e; exact a8
    · rw [hne q e 8 (by omega)]; exact h8 q hq
  · have e : q ≠ t := by omega
    rw [hne q e 11 (by omega), hne q e 12 (by omega), hs 18 (by omega)]
    exact h9 q hq hq2
theorem calI_at {A A' : xS} {n t : Nat} (h : calI A n) (h4 : A' 4 = A 4) (hne : ∀ i, i ≠ t → A' 14 i = A 14 i) (c : A' 14 t = -1 ∨ A' 4 0 ≤ A' 14 t) : calI A' n := fun q hq => by
  by_cases e : q = t
  · subst e; exact c
  · rw [hne q e, h4]; exact h q hq
theorem fin_cases {k : Int32} {A : xS} {L : List Nat} {b : xR} {P : xS → List Nat → Prop} (h1 : k = 0 → P b.2.1 b.2.2) (h2 : P (mU A 19 0 k) L) : P (fin k A L b).2.1 (fin k A L b).2.2 := by
  by_cases h : k = 0
  · rw [fin_ok h]; exact h1 h
  · rw [fin_no rfl h]; exact h2
theorem sub_0 {p q : Prop} [Decidable p] [Decidable q] {x y z : Int32} (h : (if p then x else y) = z) (hx : ¬ x = z) : ¬ p ∧ y = z := by
  by_cases e : p
  · rw [if_pos e] at h; exact absurd h hx
  · rw [if_neg e] at h; exact ⟨e, h⟩
variable {A : xS} {n D : Nat} {L : List Nat}
theorem st_setRoom (h : fI A n L D) (c r : Int32) : fI (gSetRoom A L c r).2.1 n (gSetRoom A L c r).2.2 D := fin_cases (P := fun A' L' => fI A' n L' D) (fun _ => h) (fI_thr h _)
theorem st_setVan (h : fI A n L D) (r : Int32) : fI (gSetVan A L r).2.1 n (gSetVan A L r).2.2 D := fin_cases (P := fun A' L' => fI A' n L' D) (fun _ => h) (fI_thr h _)
theorem st_T1 (j : Nat) (h : fI A n L D) (x : Int32) : fI (gT1 j A L x).2.1 n (gT1 j A L x).2.2 D := fin_cases (P := fun A' L' => fI A' n L' D) (fun _ => h) (fI_thr h _)
theorem st_whereOn (h : fI A n L D) (x v : Int32) : fI (gWhereOn A L x v).2.1 n (gWhereOn A L x v).2.2 D := fin_cases (P := fun A' L' => fI A' n L' D) (fun _ => h) (fI_thr h _)
theorem st_load (h : fI A n L D) (c : Int32) : fI (gLoad A L c).2.1 n (gLoad A L c).2.2 D := fin_cases (P := fun A' L' => fI A' n L' D) (fun _ => h) (fI_thr h _)
theorem st_purse (h : fI A n L D) (x : Int32) : fI (gPurse A L x).2.1 n (gPurse A L x).2.2 D := fin_cases (P := fun A' L' => fI A' n L' D) (fun _ => h) (fI_thr h _)
theorem st_wish (h : fI A n L D) (x : Int32) : fI (gWish A L x).2.1 n (gWish A L x).2.2 D := fin_cases (P := fun A' L' => fI A' n L' D) (fun _ => h) (fI_thr h _)
theorem lI_row {A A' : xS} (h : lI A n L) (h15 : ∀ q, q ∈ L → A' 15 q = A 15 q) : lI A' n L := ⟨h.1, h.2.1, fun q hq => by rw [h15 q hq]; exact h.2.2 q hq⟩
theorem st_fetch (h : fI A n L D) (x : Int32) : fI (gFetch A L x).2.1 n (gFetch A L x).2.2 D := by
  refine fin_cases (P := fun A' L' => fI A' n L' D) (fun hk => ?_) (fI_thr h _)
  dsimp only
  obtain ⟨h1, hk⟩ := sub_0 (q := ¬ kT A x) hk (by decide)
  obtain ⟨h2, -⟩ := sub_0 (q := kT A x) hk (by decide)
  obtain ⟨t, htn, ht, rfl⟩ := aI_kT h.1.1 (Decidable.not_not.mp h1)
  rw [ixn ht] at h2 ⊢
  have hl : A 12 t = 0 := (h.1.2.2.2.2.2.1 t htn).elim id (fun z => absurd (Or.inr z.1) h2)
  have hne : ∀ i, i ≠ t → ∀ j, j = 8 ∨ j = 9 ∨ j = 11 ∨ j = 12 ∨ j = 13 ∨ j = 14 ∨ j = 15 → bFetch (mU A 19 0 0) t j i = A j i := fun i hi j hj => by
    unfold bFetch
    rw [mU_i hi, mU_j (by omega), mU_i hi, mU_j (by omega)]
  have e9 : bFetch (mU A 19 0 0) t 9 t = 10 := by
    unfold bFetch
    rw [mU_j (by decide), mU_j (by decide), mU_eq]
  refine ⟨pI_at h.1 htn (fun j hj => by unfold bFetch; rw [mU_j (by omega), mU_j (by omega), mU_j (by omega), mU_j (by omega)]) (h.1.1.2.2.2.2 t ht) hne (lI_for h.1.2.1 (fun q hq => hne q hq 15 (by omega))) (fun q hq => ⟨fun z => (fFor_mem z).1, fun z => fFor_in z hq⟩) (fun _ => by unfold bFetch; rw [mU_eq]) (by rw [e9]; decide) (fun z => absurd rfl (fFor_mem z).2) (Or.inl hl) (fun _ => h.1.2.2.2.2.2.2.1 t htn hl) (h.1.2.2.2.2.2.2.2.1 t htn), calI_at (t := t) h.2.1 rfl (fun i hi => hne i hi 14 (by omega)) (Or.inl (h.1.2.2.2.2.2.2.1 t htn hl)), h.2.2⟩
theorem st_want (h : fI A n L D) (x c : Int32) : fI (gWant A L x c).2.1 n (gWant A L x c).2.2 D := by
  refine fin_cases (P := fun A' L' => fI A' n L' D) (fun hk => ?_) (fI_thr h _)
  dsimp only
  obtain ⟨h1, hk⟩ := sub_0 (q := ¬ kT A x) hk (by decide)
  obtain ⟨h2, hk⟩ := sub_0 (q := kT A x) hk (by decide)
  obtain ⟨h3, -⟩ := sub_0 (q := kT A x) hk (by decide)
  obtain ⟨t, htn, ht, rfl⟩ := aI_kT h.1.1 (Decidable.not_not.mp h1)
  obtain ⟨ci, hci, rfl⟩ := rIn_nat (M := 4) (n := 4) (by decide) (Decidable.not_not.mp h2)
  rw [ixn ht] at h3 ⊢
  have hat : A 9 t < 5 := Decidable.not_not.mp (fun z => h3 (Or.inl z))
  have hne : ∀ i, i ≠ t → ∀ j, j = 8 ∨ j = 9 ∨ j = 11 ∨ j = 12 ∨ j = 13 ∨ j = 14 ∨ j = 15 → mU (mU (mU A 19 0 0) 15 t (-1)) 15 t (nI ci) j i = A j i := fun i hi j hj => by
    rw [mU_i hi, mU_i hi, mU_j (by omega)]
  have hnin : t ∉ fFor t L := fun z => (fFor_mem z).2 rfl
  refine ⟨pI_at h.1 htn (fun j hj => by rw [mU_j (by omega), mU_j (by omega), mU_j (by omega)]) (h.1.1.2.2.2.2 t ht) hne ?_ (fun q hq => ?_) (fun z => absurd (List.mem_append_right _ List.mem_cons_self) z) (h.1.2.2.2.1 t htn) (fun _ => hat) (h.1.2.2.2.2.2.1 t htn) (h.1.2.2.2.2.2.2.1 t htn) (h.1.2.2.2.2.2.2.2.1 t htn), h.2⟩
  · refine ⟨?_, ?_, fun q hq => ?_⟩
    · rw [List.length_append]
      exact fFor_lt h.1.2.1.2.1 (fun q hq => (h.1.2.1.2.2 q hq).1) htn
    · refine List.nodup_append.mpr ⟨fFor_nd h.1.2.1.2.1, by simp, fun a ha b hb => ?_⟩
      rw [List.mem_singleton.mp hb]
      exact (fFor_mem ha).2
    · rcases List.mem_append.mp hq with hq | hq
      · have hm := fFor_mem hq
        rw [hne q hm.2 15 (by omega)]
        exact h.1.2.1.2.2 q hm.1
      · rw [List.mem_singleton.mp hq, mU_eq]
        exact ⟨htn, ci, by omega, rfl⟩
  · constructor
    · intro z
      rcases List.mem_append.mp z with z | z
      · exact (fFor_mem z).1
      · exact absurd (List.mem_singleton.mp z) hq
    · intro z
      exact List.mem_append_left _ (fFor_in z hq)
theorem st_value (h : fI A n L D) (x v : Int32) : fI (gValue A L x v).2.1 n (gValue A L x v).2.2 D := by
  refine fin_cases (P := fun A' L' => fI A' n L' D) (fun hk => ?_) (fI_thr h _)
  dsimp only
  obtain ⟨h1, hk⟩ := sub_0 (q := ¬ kT A x) hk (by decide)
  obtain ⟨h2, hk⟩ := sub_0 (q := kT A x) hk (by decide)
  obtain ⟨t, htn, ht, rfl⟩ := aI_kT h.1.1 (Decidable.not_not.mp h1)
  rw [ixn ht]
  have hne : ∀ i, i ≠ t → ∀ j, j = 8 ∨ j = 9 ∨ j = 11 ∨ j = 12 ∨ j = 13 ∨ j = 14 ∨ j = 15 → mU (mU A 19 0 0) 8 t v j i = A j i := fun i hi j hj => by
    rw [mU_i hi, mU_j (by omega)]
  exact ⟨pI_at h.1 htn (fun j hj => by rw [mU_j (by omega), mU_j (by omega)]) (h.1.1.2.2.2.2 t ht) hne h.1.2.1 (fun q hq => Iff.rfl) (h.1.2.2.1 t htn) (h.1.2.2.2.1 t htn) (h.1.2.2.2.2.1 t) (h.1.2.2.2.2.2.1 t htn) (h.1.2.2.2.2.2.2.1 t htn) (by rw [mU_eq]; exact (Decidable.not_not.mp h2).1), h.2⟩
theorem st_doubt (h : fI A n L D) (x : Int32) : fI (gDoubt A L x).2.1 n (gDoubt A L x).2.2 D := by
  refine fin_cases (P := fun A' L' => fI A' n L' D) (fun hk => ?_) (fI_thr h _)
  dsimp only
  obtain ⟨h1, hk⟩ := sub_0 (q := ¬ kT A x) hk (by decide)
  obtain ⟨h2, hk⟩ := sub_0 (q := kT A x) hk (by decide)
  obtain ⟨t, htn, ht, rfl⟩ := aI_kT h.1.1 (Decidable.not_not.mp h1)
  rw [ixn ht] at h2 ⊢
  have hl : ¬ A 12 t = 0 := fun z => h2 (Or.inl z)
  have hne : ∀ i, i ≠ t → ∀ j, j = 8 ∨ j = 9 ∨ j = 11 ∨ j = 12 ∨ j = 13 ∨ j = 14 ∨ j = 15 → mU (mU A 19 0 0) 14 t (A 4 0 + 3) j i = A j i := fun i hi j hj => by
    rw [mU_i hi, mU_j (by omega)]
  refine ⟨pI_at h.1 htn (fun j hj => by rw [mU_j (by omega), mU_j (by omega)]) (h.1.1.2.2.2.2 t ht) hne h.1.2.1 (fun q hq => Iff.rfl) (h.1.2.2.1 t htn) (h.1.2.2.2.1 t htn) (h.1.2.2.2.2.1 t) (h.1.2.2.2.2.2.1 t htn) (fun z => absurd z hl) (h.1.2.2.2.2.2.2.2.1 t htn), calI_at (t := t) h.2.1 rfl (fun i hi => hne i hi 14 (by omega)) (Or.inr ?_), h.2.2⟩
  rw [mU_eq]
  show A 4 0 ≤ A 4 0 + 3
  rw [h.2.2.1, show (3 : Int32) = nI 3 from rfl, nI_add]
  have := h.2.2.2
  exact nI_le (by omega) (by omega)
theorem st_repay (h : fI A n L D) (x : Int32) : fI (gRepay A L x).2.1 n (gRepay A L x).2.2 D := by
  refine fin_cases (P := fun A' L' => fI A' n L' D) (fun hk => ?_) (fI_thr h _)
  dsimp only
  obtain ⟨h1, hk⟩ := sub_0 (q := ¬ kT A x) hk (by decide)
  obtain ⟨t, htn, ht, rfl⟩ := aI_kT h.1.1 (Decidable.not_not.mp h1)
  rw [ixn ht]
  have hne : ∀ i, i ≠ t → ∀ j, j = 8 ∨ j = 9 ∨ j = 11 ∨ j = 12 ∨ j = 13 ∨ j = 14 ∨ j = 15 → bRepay (mU A 19 0 0) t j i = A j i := fun i hi j hj => by
    unfold bRepay
    rw [mU_i hi, mU_i hi, mU_j (by omega), mU_j (by omega)]
  have e12 : bRepay (mU A 19 0 0) t 12 t = 0 := by unfold bRepay; rw [mU_j (by decide), mU_eq]
  have e14 : bRepay (mU A 19 0 0) t 14 t = -1 := by unfold bRepay; rw [mU_eq]
  exact ⟨pI_at h.1 htn (fun j hj => by unfold bRepay; rw [mU_j (by omega), mU_j (by omega), mU_j (by omega), mU_j (by omega)]) (h.1.1.2.2.2.2 t ht) hne h.1.2.1 (fun q hq => Iff.rfl) (h.1.2.2.1 t htn) (h.1.2.2.2.1 t htn) (h.1.2.2.2.2.1 t) (Or.inl e12) (fun _ => e14) (h.1.2.2.2.2.2.2.2.1 t htn), calI_at (t := t) h.2.1 rfl (fun i hi => hne i hi 14 (by omega)) (Or.inl e14), h.2.2⟩
theorem st_lend (h : fI A n L D) (x l z : Int32) : fI (gLend A L x l z).2.1 n (gLend A L x l z).2.2 D := by
  refine fin_cases (P := fun A' L' => fI A' n L' D) (fun hk => ?_) (fI_thr h _)
  dsimp only
  obtain ⟨h1, hk⟩ := sub_0 (q := ¬ kT A x) hk (by decide)
  obtain ⟨h2, hk⟩ := sub_0 (q := kT A x) hk (by decide)
  obtain ⟨h3, -⟩ := sub_0 (q := kT A x) hk (by decide)
  obtain ⟨t, htn, ht, rfl⟩ := aI_kT h.1.1 (Decidable.not_not.mp h1)
  rw [ixn ht] at h3 ⊢
  have hR := Decidable.not_not.mp h2
  obtain ⟨lo, hlo, rfl⟩ := rIn_nat (M := 7) (n := 7) (by decide) hR.1
  have hat : A 9 t < 5 := Decidable.not_not.mp (fun z => h3 (Or.inl z))
  have hz : 0 < z := by
    have := hR.2.1
    rw [Int32.lt_iff_toInt_lt]
    rw [Int32.le_iff_toInt_le] at this
    have h1 : ((1 : Int32)).toInt = 1 := by decide
    have h0 : ((0 : Int32)).toInt = 0 := by decide
    omega
  have hne : ∀ i, i ≠ t → ∀ j, j = 8 ∨ j = 9 ∨ j = 11 ∨ j = 12 ∨ j = 13 ∨ j = 14 ∨ j = 15 → bLend (mU A 19 0 0) t (nI lo) z j i = A j i := fun i hi j hj => by
    unfold bLend
    rw [mU_j (by omega), mU_i hi, mU_i hi, mU_i hi, mU_j (by omega)]
  have e12 : bLend (mU A 19 0 0) t (nI lo) z 12 t = z := by unfold bLend; rw [mU_j (by decide), mU_j (by decide), mU_j (by decide), mU_eq]
  have e13 : bLend (mU A 19 0 0) t (nI lo) z 13 t = nI lo := by unfold bLend; rw [mU_j (by decide), mU_j (by decide), mU_eq]
  have e14 : bLend (mU A 19 0 0) t (nI lo) z 14 t = -1 := by unfold bLend; rw [mU_j (by decide), mU_eq]
  exact ⟨pI_at h.1 htn (fun j hj => by unfold bLend; rw [mU_j (by omega), mU_j (by omega), mU_j (by omega), mU_j (by omega), mU_j (by omega)]) ⟨lo, by omega, e13⟩ hne h.1.2.1 (fun q hq => Iff.rfl) (h.1.2.2.1 t htn) (h.1.2.2.2.1 t htn) (h.1.2.2.2.2.1 t) (Or.inr ⟨by rw [e12]; exact hz, hat⟩) (fun _ => e14) (h.1.2.2.2.2.2.2.2.1 t htn), calI_at (t := t) h.2.1 rfl (fun i hi => hne i hi 14 (by omega)) (Or.inl e14), h.2.2⟩
theorem st_leave (h : fI A n L D) (ow z c : Int32) (hk : kLeave A ow z c = 0) : fI (gLeave A L ow z c).2.1 (n + 1) (gLeave A L ow z c).2.2 D := by
  unfold gLeave
  rw [fin_ok hk, h.1.1.1, ixn2 (by have := h.1.1.2.1; omega)]
  dsimp only
  obtain ⟨h2, hk⟩ := sub_0 (q := kT A z) hk (by decide)
  obtain ⟨h3, -⟩ := sub_0 (q := kT A z) hk (by decide)
  have hR := Decidable.not_not.mp h2
  obtain ⟨oi, hoi, rfl⟩ := rIn_nat (M := 7) (n := 7) (by decide) hR.1
  obtain ⟨ci, hci, rfl⟩ := rIn_nat (M := 4) (n := 4) (by decide) hR.2.2
  obtain ⟨zi, hzi, rfl⟩ := rIn_nat (M := 3) (n := 3) (by decide) ⟨Int32.le_trans (by decide) hR.2.1.1, hR.2.1.2⟩
  have hlt : n < 24 := by
    have hn := h.1.1.2.1
    rcases Nat.lt_or_ge n 24 with h9 | h9
    · exact h9
    · exact absurd (Or.inl (h.1.1.1.trans (by rw [show n = 24 by omega]; rfl))) h3
  obtain ⟨⟨⟨g1, g2, g3, g4, g5⟩, k2, k3, k4, k5, k6, k7, k8, k9⟩, hC, hD⟩ := h
  have e6 : bLeave (mU A 19 0 0) n (nI oi) (nI zi) (nI ci) 6 n = nI oi := by simp [bLeave, mU]
  have e8 : bLeave (mU A 19 0 0) n (nI oi) (nI zi) (nI ci) 8 n = 20 * nI zi := by simp [bLeave, mU]
  have e9 : bLeave (mU A 19 0 0) n (nI oi) (nI zi) (nI ci) 9 n = nI ci := by simp [bLeave, mU]
  have e14 : bLeave (mU A 19 0 0) n (nI oi) (nI zi) (nI ci) 14 n = -1 := by simp [bLeave, mU]
  have e15 : bLeave (mU A 19 0 0) n (nI oi) (nI zi) (nI ci) 15 n = -1 := by simp [bLeave, mU]
  have e12 : bLeave (mU A 19 0 0) n (nI oi) (nI zi) (nI ci) 12 n = 0 := by rw [leave_j (by omega)]; exact (k9 n (Nat.le_refl n) hlt).2.1
  have ne : ∀ i j, i ≠ n → j ≠ 5 → j ≠ 19 → bLeave (mU A 19 0 0) n (nI oi) (nI zi) (nI ci) j i = A j i := fun i j a b c => leave_ne a b c
  have hLn : n ∉ L := fun z => Nat.lt_irrefl n (k2.2.2 n z).1
  refine ⟨⟨⟨?_, by omega, ?_, fun t ht => ?_, ?_⟩, ⟨Nat.le_succ_of_le k2.1, k2.2.1, fun q hq => ?_⟩, fun t ht hL => ?_, fun t ht => ?_, fun t ht => ?_, fun t ht => ?_, fun t ht => ?_, fun t ht => ?_, fun t ht ht2 => ?_⟩, fun t ht => ?_, ?_⟩
  · unfold bLeave
    rw [mU_eq]
    show A 5 0 + 1 = _
    rw [g1, nI_1]
  · rw [leave_j (by omega)]; exact g3
  · by_cases e : t = n
    · subst e; rw [e6]; exact ⟨oi, by omega, rfl⟩
    · rw [ne t 6 e (by decide) (by decide)]; exact g4 t ht
  · rw [leave_j (by omega)]; exact g5
  · rw [ne q 15 (fun z => hLn (z ▸ hq)) (by decide) (by decide)]
    exact ⟨Nat.lt_succ_of_lt (k2.2.2 q hq).1, (k2.2.2 q hq).2⟩
  · by_cases e : t = n
    · subst e; exact e15
    · rw [ne t 15 e (by decide) (by decide)]; exact k3 t (by omega) hL
  · by_cases e : t = n
    · subst e; rw [e9]; exact nI_pos' (by omega)
    · rw [ne t 9 e (by decide) (by decide)]; exact k4 t (by omega)
  · rw [ne t 9 (fun z => hLn (z ▸ ht)) (by decide) (by decide)]; exact k5 t ht
  · by_cases e : t = n
    · subst e; exact Or.inl e12
    · rw [ne t 12 e (by decide) (by decide), ne t 9 e (by decide) (by decide)]; exact k6 t (by omega)
  · by_cases e : t = n
    · subst e; intro _; exact e14
    · rw [ne t 12 e (by decide) (by decide), ne t 14 e (by decide) (by decide)]; exact k7 t (by omega)
  · by_cases e : t = n
    · subst e; rw [e8, show (20 : Int32) = nI 20 from rfl, nI_mul]; exact nI_pos' (by omega)
    · rw [ne t 8 e (by decide) (by decide)]; exact k8 t (by omega)
  · rw [ne t 11 (by omega) (by decide) (by decide), ne t 12 (by omega) (by decide) (by decide), leave_j (j := 18) (by omega)]
    exact k9 t (by omega) ht2
  · by_cases e : t = n
    · subst e; exact Or.inl e14
    · rw [ne t 14 e (by decide) (by decide), leave_j (j := 4) (by omega)]; exact hC t (by omega)
  · rw [leave_j (j := 4) (by omega)]; exact hD
theorem st_leave0 (h : fI A n L D) (ow z c : Int32) (hk : ¬ kLeave A ow z c = 0) : fI (gLeave A L ow z c).2.1 n (gLeave A L ow z c).2.2 D := by
  unfold gLeave
  rw [fin_no rfl hk]
  exact h
theorem fDays_P (h : fI A n L D) : ∀ k, D + k ≤ 1000 → fI (fDays n k (0, mU A 19 0 0, L)).2.1 n (fDays n k (0, mU A 19 0 0, L)).2.2 (D + k)
  | 0, _ => h
  | k + 1, hk => by
    obtain ⟨i1, i2, i3, i4⟩ := fDays_P h k (by omega)
    obtain ⟨-, -, -, -, j5⟩ := fDay_P i1 i2 i3 (by omega)
    obtain ⟨j1, j2, j3, -⟩ := j5 _ rfl
    exact ⟨j1, j2, j3, hk⟩
theorem kPass_0 (h : fI A n L D) {v : Int32} (hk : kPass A v = 0) : ∃ dd, dd ≤ 40 ∧ v = nI dd ∧ D + dd ≤ 1000 := by
  obtain ⟨h1, hk⟩ := sub_0 (q := kT A v) hk (by decide)
  obtain ⟨h2, -⟩ := sub_0 (q := kT A v) hk (by decide)
  have hR := Decidable.not_not.mp h1
  obtain ⟨dd, hdd, rfl⟩ := rIn_nat (M := 40) (n := 40) (by decide) ⟨Int32.le_trans (by decide) hR.1, hR.2⟩
  refine ⟨dd, hdd, rfl, ?_⟩
  have h9 : A 4 0 + nI dd ≤ 1000 := Int32.not_lt.mp h2
  have := h.2.2.2
  rw [h.2.2.1, nI_add] at h9
  exact (nI_leI (b := 1000) (by omega) (by omega)).mp h9
theorem st_pass (h : fI A n L D) (v : Int32) (hk : kPass A v = 0) : fI (gPass A L v).2.1 n (gPass A L v).2.2 (D + ix v) := by
  obtain ⟨dd, hdd, rfl, hs⟩ := kPass_0 h hk
  unfold gPass
  rw [fin_ok hk, h.1.1.1, ixn2 (t := n) (by have := h.1.1.2.1; omega), ixn2 (t := dd) (by omega)]
  exact fDays_P h dd hs
theorem st_pass0 (h : fI A n L D) (v : Int32) (hk : ¬ kPass A v = 0) : fI (gPass A L v).2.1 n (gPass A L v).2.2 D := by
  unfold gPass
  rw [fin_no rfl hk]
  exact h
/-! what was thrown -/
theorem fin_19 {k : Int32} {A : xS} {L : List Nat} {b : xR} (h : k = 0 → b.2.1 19 0 = 0) : (fin k A L b).2.1 19 0 = k := by
  by_cases e : k = 0
  · rw [fin_ok e, h e, e]
  · rw [fin_no rfl e]
    exact mU_eq A 19 0 k
theorem fDay_19 (n : Nat) (V : xV) (h : lI V.2.1 n V.2.2) : (fDay n V).2.1 19 0 = V.2.1 19 0 := by
  have h1 : lI (fOwe n V.2.1) n V.2.2 := lI_same h (fOwe_j (by decide))
  have h2 := fCal_I (n := n) (V.1, fOwe n V.2.1, V.2.2) n h1
  have h3 := fUnf_I (n := n) (fCal n (V.1, fOwe n V.2.1, V.2.2)) n h2.2
  have h4 := fDrv_I (n := n) (fUnf n (fCal n (V.1, fOwe n V.2.1, V.2.2))).2.2 ((fUnf n (fCal n (V.1, fOwe n V.2.1, V.2.2))).2.1 1 0, (fUnf n (fCal n (V.1, fOwe n V.2.1, V.2.2))).2.1, (fUnf n (fCal n (V.1, fOwe n V.2.1, V.2.2))).2.2) h3.2
  have hs := (((sameR_owe V.2.1 n).tr h2.1).tr h3.1).tr h4.1
  show fBeg n (mU _ 4 0 _) 19 0 = _
  rw [fBeg_j (by decide), mU_j (by decide)]
  exact congrFun (hs 19 rfl) 0
theorem fDays_19 (h : fI A n L D) : ∀ k, D + k ≤ 1000 → (fDays n k (0, mU A 19 0 0, L)).2.1 19 0 = 0
  | 0, _ => mU_eq A 19 0 0
  | k + 1, hk => by
    have ih := fDays_19 h k (by omega)
    have hp := fDays_P h k (by omega)
    show (fDay n (0, (fDays n k (0, mU A 19 0 0, L)).2)).2.1 19 0 = 0
    exact (fDay_19 n (0, (fDays n k (0, mU A 19 0 0, L)).2) hp.1.2.1).trans ih
theorem pass_19 (h : fI A n L D) (v : Int32) : (gPass A L v).2.1 19 0 = kPass A v := by
  refine fin_19 (fun hk => ?_)
  obtain ⟨dd, hdd, rfl, hs⟩ := kPass_0 h hk
  rw [h.1.1.1, ixn2 (t := n) (by have := h.1.1.2.1; omega), ixn2 (t := dd) (by omega)]
  exact fDays_19 h dd hs
end XST

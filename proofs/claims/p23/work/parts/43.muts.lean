section XOM
/-! what each single call does to what this law speaks of -/
def rs (n : Nat) (A A' : xS) : Prop := (∀ t, t < n → ¬ A 9 t < 5 → A' 9 t = A 9 t) ∧ psZ A 8 ≤ psZ A' 8 ∧ (A 3 0).toInt ≤ (A' 3 0).toInt ∧ ∀ t, t < n → A' 6 t = A 6 t ∧ A' 7 t = A 7 t
theorem rl.rs {n : Nat} {A A' : xS} (h : rl n A A') : rs n A A' := by
  obtain ⟨h1, h2, h3, h4, h5, h6⟩ := h
  exact ⟨h1, h3, h4, fun t _ => ⟨by rw [h5], by rw [h6]⟩⟩
theorem rs.rf {n : Nat} {A : xS} : rs n A A := rl.rf.rs
theorem rs.tr {n : Nat} {A A1 A2 : xS} (h : rs n A A1) (g : rs n A1 A2) : rs n A A2 := by
  obtain ⟨h1, h2, h3, h4⟩ := h
  obtain ⟨g1, g2, g3, g4⟩ := g
  refine ⟨fun t ht hc => ?_, by omega, by omega, fun t ht => ⟨(g4 t ht).1.trans (h4 t ht).1, (g4 t ht).2.trans (h4 t ht).2⟩⟩
  have e := h1 t ht hc
  rw [g1 t ht (by rw [e]; exact hc), e]
theorem jI.mono {A : xS} {n D F m m' : Nat} (h : jI A n D F m) (hm : m ≤ m') : jI A n D F m' := by
  obtain ⟨g1, g2, g3, g4, g5, g6, ⟨g7, g8⟩, g9⟩ := h
  exact ⟨g1, g2, g3, g4, g5, g6, ⟨g7, by omega⟩, g9⟩
variable {A : xS} {n D F m : Nat} {L : List Nat}
theorem jI.thr (h : jI A n D F m) : jI (mU A 19 0 0) n D F m := h.same rfl rfl rfl rfl rfl rfl rfl rfl rfl
theorem jI.want (h : jI A n D F m) (t : Nat) (c : Int32) : jI (mU (mU (mU A 19 0 0) 15 t (-1)) 15 t c) n D F m ∧ rs n A (mU (mU (mU A 19 0 0) 15 t (-1)) 15 t c) := ⟨h.same rfl rfl rfl rfl rfl rfl rfl rfl rfl, rl.rs (rl.same rfl rfl rfl rfl rfl rfl)⟩
theorem jI.doubt (h : jI A n D F m) (t : Nat) (c : Int32) : jI (mU (mU A 19 0 0) 14 t c) n D F m ∧ rs n A (mU (mU A 19 0 0) 14 t c) := ⟨h.same rfl rfl rfl rfl rfl rfl rfl rfl rfl, rl.rs (rl.same rfl rfl rfl rfl rfl rfl)⟩
theorem jI.value (h : jI A n D F m) (t : Nat) {v : Int32} (hv : 0 ≤ v.toInt ∧ v.toInt ≤ 300) : jI (mU (mU A 19 0 0) 8 t v) n D F m ∧ rs n A (mU (mU A 19 0 0) 8 t v) := by
  obtain ⟨g1, g2, g3, g4, g5, g6, g7, g9, g10, g11⟩ := h
  have ea : atC (mU (mU A 19 0 0) 8 t v) n = atC A n := atC_same (A := A) (A' := mU (mU A 19 0 0) 8 t v) (fun i => Iff.rfl) n
  refine ⟨⟨g1, g2, fun c hc => ?_, fun i hi => ?_, g5, g6, ⟨g7.1, ?_⟩, ?_, g10, g11⟩, rl.rs (rl.same rfl rfl rfl rfl rfl rfl)⟩
  · rw [ldZ_same (A := A) (A' := mU (mU A 19 0 0) 8 t v) (N := n) (fun t _ => ⟨rfl, rfl⟩) n (Nat.le_refl n)]
    exact g3 c hc
  · by_cases e : i = t
    · subst e; rw [mU_eq]; exact hv
    · rw [mU_i e]; exact g4 i hi
  · rw [ea, psZ_row (A := A) (A' := mU (mU A 19 0 0) 8 t v) rfl]; exact g7.2
  · rw [ea]; exact g9
theorem jI.lend (hI : pI A n L) (h : jI A n D F m) {t : Nat} (ht : t < n) {l z : Int32} (hz : 1 ≤ z.toInt ∧ z.toInt ≤ 20) (hm : m ≤ 1000000) : jI (bLend (mU A 19 0 0) t l z) n D F (m + 20) ∧ rs n A (bLend (mU A 19 0 0) t l z) ∧ psI (bLend (mU A 19 0 0) t l z) 8 = psI A 8 + z := by
  obtain ⟨ow, how, e6⟩ := hI.1.2.2.2.1 t (by have := hI.1.2.1; omega)
  have h0 : bLend (mU A 19 0 0) t l z = mU (mU (mU (mU (mU A 19 0 0) 12 t z) 13 t l) 14 t (-1)) 2 ow (A 2 ow + z) := by
    unfold bLend
    rw [show mU A 19 0 0 6 t = nI ow from e6, ixn2 (by omega)]
    rfl
  have h2 : bLend (mU A 19 0 0) t l z 2 = mU A 2 ow (A 2 ow + z) 2 := by
    rw [h0, mU_row, mU_row]
    rfl
  obtain ⟨g1, g2, g3, g4, g5, g6, ⟨g7, g8⟩, g9, g10, g11⟩ := h
  have hj : ∀ j, j ≠ 2 → j ≠ 12 → j ≠ 13 → j ≠ 14 → j ≠ 19 → bLend (mU A 19 0 0) t l z j = A j := fun j a b c d e => by rw [h0, mU_j a, mU_j d, mU_j c, mU_j b, mU_j e]
  have ea : atC (bLend (mU A 19 0 0) t l z) n = atC A n := atC_same (fun i => by rw [hj 9 (by decide) (by decide) (by decide) (by decide) (by decide)]) n
  have hge := psZ_ge g7 8 (Nat.le_refl 8)
  have h5 := g7 ow how
  have h6 := hge.2 ow how
  have ez : (A 2 ow + z).toInt = (A 2 ow).toInt + z.toInt := i_add (by omega) (by omega)
  have hps : psZ (bLend (mU A 19 0 0) t l z) 8 = psZ A 8 + z.toInt := by
    rw [psZ_row h2, psZ_mU, if_pos how, ez]; omega
  refine ⟨⟨?_, ?_, fun c hc => ?_, ?_, ?_, fun i hi => ?_, ⟨fun p hp => ?_, ?_⟩, ?_, ?_, ?_⟩, ⟨fun i hi hc => ?_, ?_, ?_, fun i hi => ⟨?_, ?_⟩⟩, ?_⟩
  · rw [hj 0 (by decide) (by decide) (by decide) (by decide) (by decide)]; exact g1
  · rw [hj 7 (by decide) (by decide) (by decide) (by decide) (by decide)]; exact g2
  · rw [ldZ_same (A := A) (N := n) (fun t _ => ⟨by rw [hj 7 (by decide) (by decide) (by decide) (by decide) (by decide)], by rw [hj 9 (by decide) (by decide) (by decide) (by decide) (by decide)]⟩) n (Nat.le_refl n)]
    exact g3 c hc
  · rw [hj 8 (by decide) (by decide) (by decide) (by decide) (by decide)]; exact g4
  · rw [hj 11 (by decide) (by decide) (by decide) (by decide) (by decide)]; exact g5
  · rw [h0, mU_j (by decide), mU_j (by decide), mU_j (by decide)]
    by_cases e : i = t
    · subst e; rw [mU_eq]; omega
    · rw [mU_i e]; exact g6 i hi
  · rw [h2]
    by_cases e : p = ow
    · subst e; rw [mU_eq, ez]; omega
    · rw [mU_i e]; exact g7 p hp
  · rw [hps, ea]; omega
  · rw [hj 3 (by decide) (by decide) (by decide) (by decide) (by decide), ea]; exact g9
  · rw [hj 18 (by decide) (by decide) (by decide) (by decide) (by decide), hj 9 (by decide) (by decide) (by decide) (by decide) (by decide)]; exact g10
  · rw [hj 18 (by decide) (by decide) (by decide) (by decide) (by decide)]; exact g11
  · rw [hj 9 (by decide) (by decide) (by decide) (by decide) (by decide)]
  · rw [hps]; omega
  · rw [hj 3 (by decide) (by decide) (by decide) (by decide) (by decide)]; exact Int.le_refl _
  · rw [hj 6 (by decide) (by decide) (by decide) (by decide) (by decide)]
  · rw [hj 7 (by decide) (by decide) (by decide) (by decide) (by decide)]
  · rw [psI_row h2, psI_mU, if_pos how]
theorem jI.repay (hI : pI A n L) (h : jI A n D F m) {t : Nat} (ht : t < n) (hm : m ≤ 1000000) : jI (bRepay (mU A 19 0 0) t) n D F (m + 20) ∧ rs n A (bRepay (mU A 19 0 0) t) ∧ psI (bRepay (mU A 19 0 0) t) 8 = psI A 8 + A 12 t := by
  obtain ⟨ow, how, e13⟩ := hI.1.2.2.2.2 t (by have := hI.1.2.1; omega)
  have h0 : bRepay (mU A 19 0 0) t = mU (mU (mU (mU A 19 0 0) 2 ow (A 2 ow + A 12 t)) 12 t 0) 14 t (-1) := by
    unfold bRepay
    rw [show mU A 19 0 0 13 t = nI ow from e13, ixn2 (by omega)]
    rfl
  have h2 : bRepay (mU A 19 0 0) t 2 = mU A 2 ow (A 2 ow + A 12 t) 2 := by
    rw [h0, mU_j (by decide), mU_j (by decide), mU_row, mU_row]
    rfl
  obtain ⟨g1, g2, g3, g4, g5, g6, ⟨g7, g8⟩, g9, g10, g11⟩ := h
  have hj : ∀ j, j ≠ 2 → j ≠ 12 → j ≠ 14 → j ≠ 19 → bRepay (mU A 19 0 0) t j = A j := fun j a b c e => by rw [h0, mU_j c, mU_j b, mU_j a, mU_j e]
  have ea : atC (bRepay (mU A 19 0 0) t) n = atC A n := atC_same (fun i => by rw [hj 9 (by decide) (by decide) (by decide) (by decide)]) n
  have hge := psZ_ge g7 8 (Nat.le_refl 8)
  have h5 := g7 ow how
  have h6 := hge.2 ow how
  have hz := g6 t ht
  have ez : (A 2 ow + A 12 t).toInt = (A 2 ow).toInt + (A 12 t).toInt := i_add (by omega) (by omega)
  have hps : psZ (bRepay (mU A 19 0 0) t) 8 = psZ A 8 + (A 12 t).toInt := by
    rw [psZ_row h2, psZ_mU, if_pos how, ez]; omega
  refine ⟨⟨?_, ?_, fun c hc => ?_, ?_, ?_, fun i hi => ?_, ⟨fun p hp => ?_, ?_⟩, ?_, ?_, ?_⟩, ⟨fun i hi hc => ?_, ?_, ?_, fun i hi => ⟨?_, ?_⟩⟩, ?_⟩
  · rw [hj 0 (by decide) (by decide) (by decide) (by decide)]; exact g1
  · rw [hj 7 (by decide) (by decide) (by decide) (by decide)]; exact g2
  · rw [ldZ_same (A := A) (N := n) (fun t _ => ⟨by rw [hj 7 (by decide) (by decide) (by decide) (by decide)], by rw [hj 9 (by decide) (by decide) (by decide) (by decide)]⟩) n (Nat.le_refl n)]
    exact g3 c hc
  · rw [hj 8 (by decide) (by decide) (by decide) (by decide)]; exact g4
  · rw [hj 11 (by decide) (by decide) (by decide) (by decide)]; exact g5
  · rw [h0, mU_j (by decide)]
    by_cases e : i = t
    · subst e; rw [mU_eq]; decide
    · rw [mU_i e]; exact g6 i hi
  · rw [h2]
    by_cases e : p = ow
    · subst e; rw [mU_eq, ez]; omega
    · rw [mU_i e]; exact g7 p hp
  · rw [hps, ea]; omega
  · rw [hj 3 (by decide) (by decide) (by decide) (by decide), ea]; exact g9
  · rw [hj 18 (by decide) (by decide) (by decide) (by decide), hj 9 (by decide) (by decide) (by decide) (by decide)]; exact g10
  · rw [hj 18 (by decide) (by decide) (by decide) (by decide)]; exact g11
  · rw [hj 9 (by decide) (by decide) (by decide) (by decide)]
  · rw [hps]; omega
  · rw [hj 3 (by decide) (by decide) (by decide) (by decide)]; exact Int.le_refl _
  · rw [hj 6 (by decide) (by decide) (by decide) (by decide)]
  · rw [hj 7 (by decide) (by decide) (by decide) (by decide)]
  · rw [psI_row h2, psI_mU, if_pos how]
theorem fetch_9 (A : xS) (t i : Nat) : bFetch (mU A 19 0 0) t 9 i = if i = t then 10 else A 9 i := by
  unfold bFetch
  rw [mU_j (by decide), mU_j (by decide)]
  by_cases e : i = t
  · subst e; rw [mU_eq, if_pos rfl]
  · rw [mU_i e, if_neg e]; rfl
theorem fetch_j {A : xS} {t j : Nat} (h9 : j ≠ 9) (h3 : j ≠ 3) (h15 : j ≠ 15) (h19 : j ≠ 19) : bFetch (mU A 19 0 0) t j = A j := by
  unfold bFetch
  rw [mU_j h15, mU_j h3, mU_j h9, mU_j h19]
theorem fetch_3 (A : xS) (t : Nat) : bFetch (mU A 19 0 0) t 3 0 = A 3 0 + A 11 t := by
  unfold bFetch
  rw [mU_j (by decide), mU_eq]
  rfl
theorem jI.fetch (h : jI A n D F m) {t : Nat} (ht : t < n) (h9 : A 9 t < 5) (hF : F ≤ 6000) (hn : n ≤ 24) : jI (bFetch (mU A 19 0 0) t) n D F m ∧ rs n A (bFetch (mU A 19 0 0) t) := by
  obtain ⟨g1, g2, g3, g4, g5, g6, ⟨g7, g8⟩, ⟨g9, g9b⟩, g10, g11⟩ := h
  have f1 := g5 t ht
  have hat := atC_sell (A := A) (A' := bFetch (mU A 19 0 0) t) (t := t) (fun i hi => by rw [fetch_9, if_neg hi]) h9 (by rw [fetch_9, if_pos rfl]; decide) n
  rw [if_pos ht] at hat
  have e3 : (bFetch (mU A 19 0 0) t 3 0).toInt = (A 3 0).toInt + (A 11 t).toInt := by
    rw [fetch_3, i_add (by omega) (by omega)]
  have e2 : psZ (bFetch (mU A 19 0 0) t) 8 = psZ A 8 := psZ_row (fetch_j (by decide) (by decide) (by decide) (by decide)) 8
  refine ⟨⟨?_, ?_, fun c hc => ?_, ?_, ?_, ?_, ⟨?_, ?_⟩, ⟨?_, ?_⟩, fun i hi => ?_, ?_⟩, fun i hi hc => ?_, ?_, ?_, fun i hi => ⟨?_, ?_⟩⟩
  · rw [fetch_j (by decide) (by decide) (by decide) (by decide)]; exact g1
  · rw [fetch_j (by decide) (by decide) (by decide) (by decide)]; exact g2
  · refine Int.le_trans (ldZ_mono (N := n) (A := A) (fun i hi => by have := (g2 i hi).1; omega) (fun i hi => ⟨by rw [fetch_j (by decide) (by decide) (by decide) (by decide)], fun q => ?_⟩) n (Nat.le_refl n)) (g3 c hc)
    rw [fetch_9] at q
    by_cases e : i = t
    · rw [if_pos e] at q
      exact absurd (q ▸ nI_lt (b := 5) hc (by decide)) (by decide)
    · rw [if_neg e] at q; exact q
  · rw [fetch_j (by decide) (by decide) (by decide) (by decide)]; exact g4
  · rw [fetch_j (by decide) (by decide) (by decide) (by decide)]; exact g5
  · rw [fetch_j (by decide) (by decide) (by decide) (by decide)]; exact g6
  · rw [fetch_j (by decide) (by decide) (by decide) (by decide)]; exact g7
  · rw [e2]; omega
  · rw [e3]; omega
  · rw [e3]; omega
  · rw [fetch_j (j := 18) (by decide) (by decide) (by decide) (by decide), fetch_9]
    by_cases e : i = t
    · subst e
      rcases g10 i hi with h | h | h
      · exact Or.inl h
      · exact Or.inr (Or.inl h)
      · exact Or.inr (Or.inl (by rw [← h]; exact h9))
    · rw [if_neg e]; exact g10 i hi
  · rw [fetch_j (by decide) (by decide) (by decide) (by decide)]; exact g11
  · rw [fetch_9, if_neg (fun e => hc (by rw [e]; exact h9))]
  · rw [e2]; exact Int.le_refl _
  · rw [e3]; omega
  · rw [fetch_j (by decide) (by decide) (by decide) (by decide)]
  · rw [fetch_j (by decide) (by decide) (by decide) (by decide)]
/-! a thing left -/
theorem lv_7 (A : xS) (n i : Nat) (ow z c : Int32) : bLeave (mU A 19 0 0) n ow z c 7 i = if i = n then z else A 7 i := by
  by_cases e : i = n
  · subst e
    unfold bLeave
    rw [if_pos rfl, mU_j (by decide), mU_j (by decide), mU_j (by decide), mU_j (by decide), mU_j (by decide), mU_j (by decide), mU_eq]
  · rw [leave_ne e (by decide) (by decide), if_neg e]
theorem lv_9 (A : xS) (n i : Nat) (ow z c : Int32) : bLeave (mU A 19 0 0) n ow z c 9 i = if i = n then c else A 9 i := by
  by_cases e : i = n
  · subst e
    unfold bLeave
    rw [if_pos rfl, mU_j (by decide), mU_j (by decide), mU_j (by decide), mU_j (by decide), mU_eq]
  · rw [leave_ne e (by decide) (by decide), if_neg e]
theorem lv_8 (A : xS) (n i : Nat) (ow z c : Int32) : bLeave (mU A 19 0 0) n ow z c 8 i = if i = n then 20 * z else A 8 i := by
  by_cases e : i = n
  · subst e
    unfold bLeave
    rw [if_pos rfl, mU_j (by decide), mU_j (by decide), mU_j (by decide), mU_j (by decide), mU_j (by decide), mU_eq]
  · rw [leave_ne e (by decide) (by decide), if_neg e]
theorem lv_6 (A : xS) (n i : Nat) (ow z c : Int32) : bLeave (mU A 19 0 0) n ow z c 6 i = if i = n then ow else A 6 i := by
  by_cases e : i = n
  · subst e
    unfold bLeave
    rw [if_pos rfl, mU_j (by decide), mU_j (by decide), mU_j (by decide), mU_j (by decide), mU_j (by decide), mU_j (by decide), mU_j (by decide), mU_eq]
  · rw [leave_ne e (by decide) (by decide), if_neg e]
theorem jI.leave (hI : pI A n L) (h : jI A n D F m) (hn : n < 24) (hD : D ≤ 1000) {ow z c : Int32} {ci : Nat} (hci : ci < 5) (ec : c = nI ci) (hz : 1 ≤ z.toInt ∧ z.toInt ≤ 3) (hld : ldZ A (nI ci) n + z.toInt ≤ 10) : jI (bLeave (mU A 19 0 0) n ow z c) (n + 1) D F (m + 300) ∧ rs n A (bLeave (mU A 19 0 0) n ow z c) := by
  obtain ⟨g1, g2, g3, g4, g5, g6, ⟨g7, g8⟩, ⟨g9, g9b⟩, g10, g11⟩ := h
  obtain ⟨n1, n2, n3⟩ := hI.2.2.2.2.2.2.2.2 n (Nat.le_refl n) hn
  have ej : ∀ j, j = 0 ∨ j = 1 ∨ j = 2 ∨ j = 3 ∨ j = 4 ∨ j = 11 ∨ j = 12 ∨ j = 13 ∨ j = 18 → bLeave (mU A 19 0 0) n ow z c j = A j := fun j hj => leave_j hj
  have e2 : psZ (bLeave (mU A 19 0 0) n ow z c) 8 = psZ A 8 := psZ_row (ej 2 (by decide)) 8
  have at1 : ∀ q, q ≤ n → atC (bLeave (mU A 19 0 0) n ow z c) q = atC A q := by
    intro q
    induction q with
    | zero => intro _; rfl
    | succ q ih =>
      intro hq
      rw [atC, atC, ih (by omega), lv_9, if_neg (show ¬ q = n by omega)]
  have ea : atC (bLeave (mU A 19 0 0) n ow z c) (n + 1) ≤ atC A n + 1 := by
    rw [atC, at1 n (Nat.le_refl n)]
    split <;> omega
  have e20 : (20 * z).toInt = 20 * z.toInt := by
    have : (20 : Int32).toInt = 20 := by decide
    rw [i_mul (by rw [this]; omega) (by rw [this]; omega), this]
  refine ⟨⟨?_, fun i hi => ?_, fun c' hc => ?_, fun i hi => ?_, fun i hi => ?_, fun i hi => ?_, ⟨?_, ?_⟩, ⟨?_, ?_⟩, fun i hi => ?_, ?_⟩, fun i hi hc => ?_, ?_, ?_, fun i hi => ⟨?_, ?_⟩⟩
  · rw [ej 0 (by decide)]; exact g1
  · rw [lv_7]
    by_cases e : i = n
    · rw [if_pos e]; exact hz
    · rw [if_neg e]; exact g2 i (by omega)
  · rw [ldZ, lv_7, lv_9, if_pos rfl, if_pos rfl, ldZ_same (A := A) (N := n) (fun t ht => ⟨by rw [lv_7, if_neg (by omega)], by rw [lv_9, if_neg (by omega)]⟩) n (Nat.le_refl n)]
    by_cases e : c = nI c'
    · have : c' = ci := (nI_eq (by omega) (by omega)).mp (e.symm.trans ec)
      subst this
      rw [if_pos e]; exact hld
    · rw [if_neg e]; have := g3 c' hc; omega
  · rw [lv_8]
    by_cases e : i = n
    · rw [if_pos e, e20]; omega
    · rw [if_neg e]; exact g4 i (by omega)
  · rw [ej 11 (by decide)]
    by_cases e : i = n
    · rw [e, n1, i_0]; omega
    · exact g5 i (by omega)
  · rw [ej 12 (by decide)]
    by_cases e : i = n
    · rw [e, n2, i_0]; omega
    · exact g6 i (by omega)
  · rw [ej 2 (by decide)]; exact g7
  · rw [e2]; omega
  · rw [ej 3 (by decide)]; exact g9
  · rw [ej 3 (by decide)]; omega
  · rw [ej 18 (by decide), lv_9]
    by_cases e : i = n
    · rw [e, n3 D hD]; exact Or.inl rfl
    · rw [if_neg e]; exact g10 i (by omega)
  · rw [ej 18 (by decide)]; exact g11
  · rw [lv_9, if_neg (by omega)]
  · rw [e2]; exact Int.le_refl _
  · rw [ej 3 (by decide)]; exact Int.le_refl _
  · rw [lv_6, if_neg (by omega)]
  · rw [lv_7, if_neg (by omega)]
end XOM

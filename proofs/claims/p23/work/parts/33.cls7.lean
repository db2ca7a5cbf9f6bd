section XC7
theorem cEq_thr (A : xS) (n : Nat) (v : Int32) : cEq n (cB A) (cB (mU A 19 0 v)) := ⟨rfl, rfl, ⟨rfl, rfl, rfl⟩, fun _ _ => ⟨rfl, rfl, rfl, rfl, rfl, rfl, rfl, rfl, rfl, rfl⟩⟩
theorem mU_cg {B B' : xS} {j i j' i' : Nat} {v : Int32} (h : B' j' i' = B j' i') : mU B' j i v j' i' = mU B j i v j' i' := by
  unfold mU
  rw [h]
theorem cEq_mU {B B' : xS} {n j i : Nat} {v : Int32} (h : cEq n B B') : cEq n (mU B j i v) (mU B' j i v) := by
  obtain ⟨h1, h2, ⟨h3, h4, h5⟩, h6⟩ := h
  refine ⟨funext fun i' => mU_cg (by rw [h1]), funext fun i' => mU_cg (by rw [h2]), ⟨mU_cg h3, mU_cg h4, mU_cg h5⟩, fun t ht => ?_⟩
  obtain ⟨g1, g2, g3, g4, g5, g6, g7, g8, g9, g10⟩ := h6 t ht
  exact ⟨mU_cg g1, mU_cg g2, mU_cg g3, mU_cg g4, mU_cg g5, mU_cg g6, mU_cg g7, mU_cg g8, mU_cg g9, mU_cg g10⟩
theorem cEq.tr {B B' B2 : xS} {n : Nat} (h : cEq n B B') (h2 : cEq n B' B2) : cEq n B B2 := by
  obtain ⟨h1, h12, ⟨h3, h4, h5⟩, h6⟩ := h
  obtain ⟨k1, k2, ⟨k3, k4, k5⟩, k6⟩ := h2
  refine ⟨k1.trans h1, k2.trans h12, ⟨k3.trans h3, k4.trans h4, k5.trans h5⟩, fun t ht => ?_⟩
  obtain ⟨g1, g2, g3, g4, g5, g6, g7, g8, g9, g10⟩ := h6 t ht
  obtain ⟨f1, f2, f3, f4, f5, f6, f7, f8, f9, f10⟩ := k6 t ht
  exact ⟨f1.trans g1, f2.trans g2, f3.trans g3, f4.trans g4, f5.trans g5, f6.trans g6, f7.trans g7, f8.trans g8, f9.trans g9, f10.trans g10⟩
theorem cEq_of {B B' : xS} {n : Nat} (h : B' = B) : cEq n B B' := by
  subst h
  exact ⟨rfl, rfl, ⟨rfl, rfl, rfl⟩, fun _ _ => ⟨rfl, rfl, rfl, rfl, rfl, rfl, rfl, rfl, rfl, rfl⟩⟩
theorem cEq_1 {A : xS} {n j i : Nat} {v x : Int32} (h : j ≠ 12) (h2 : j ≠ 13) : cEq n (mU (cB A) j i v) (cB (mU (mU A 19 0 x) j i v)) := by
  rw [cB_mU h h2]
  exact cEq_mU (cEq_thr A n x)
variable {l : Launch} {G : xG}
set_option maxRecDepth 100000 in
theorem tc_fetch {ca th : Nat → Nat} {A : xS} {n : Nat} {L : List Nat} {T : Nat → xTg} {w : xW} (h : CRaw G w ca th (cB A) n L T) (hfl : l.stackTraces = false) {x : Int32} {D : Nat} (hI : pI A n L) (hT : tgI A n D T) (hD : A 4 0 = nI D) (hD1 : D ≤ 1000) : xMetX l G yX2_fetch cX2_fetch 4 (some .int) ({ frames := 8, cells := 60, slots := 400, locals := 320 } : Room) [.ref (ca 0), .int x] w embI (fun r w' => (kFetch A x = 0 ∧ r = (gFetch A L x).1) ∧ cQ G ca th (gFetch A L x).2.1 n (gFetch A L x).2.2 D w w') (fun E w' => ((E = "java/lang/IndexOutOfBoundsException" ∧ kFetch A x = 1) ∨ (E = "java/lang/IllegalStateException" ∧ kFetch A x = 2)) ∧ cP G ca th (cB A) n L T w w') := by
  refine xMetX_of (by decide) (Nat.le_of_ble_eq_true rfl) ?_
  intro p e s m below meth c Γ hout
  have hn := hI.1.2.1
  have hn5 := hI.1.1
  have hlL : L.length ≤ 24 := Nat.le_trans hI.2.1.1 hn
  have hL : ∀ q ∈ L, q < n := fun q hq => (hI.2.1.2.2 q hq).1
  refine c_in h ?_
  refine x_aload_n Γ dX2_fetch_0 rfl rfl ?_
  refine x_iload_n Γ dX2_fetch_1 rfl rfl ?_
  refine x_invVX (emb := embA) (ci := 3) (rm := ({ frames := 6, cells := 1, slots := 6, locals := 100 } : Room)) Γ [.int x] (fun w1 r w2 => (∃ t, t < n ∧ x = nI t ∧ r = th t) ∧ cP G ca th (cB A) n L T w1 w2) (fun w1 E w2 => (E = "java/lang/IndexOutOfBoundsException" ∧ ¬ rIn 0 (nI n - 1) x) ∧ cP G ca th (cB A) n L T w1 w2) rfl (fun w1 h1 => t_thingNumbered h1.1 hfl hn) hout (fun w1 E w2 h1 h2 => by obtain ⟨⟨h3, h4⟩, h5⟩ := h2; exact ⟨Or.inl (⟨h3, by unfold kFetch; exact if_pos (show ¬ rIn 0 (A 5 0 - 1) x by rw [hn5]; exact h4)⟩), h5.1, h1.2.tr h5.2⟩) ⟨Nat.le_of_ble_eq_true rfl, Nat.le_of_ble_eq_true rfl⟩ c_self rfl k_375 k_1 k_372 k_374 s_6 hd_X2_thingNumbered ⟨Nat.le_of_ble_eq_true rfl, Nat.le_of_ble_eq_true rfl⟩ ⟨Nat.le_of_ble_eq_true rfl, Nat.le_of_ble_eq_true rfl⟩ (Nat.le_of_ble_eq_true rfl) dX2_fetch_2 (fun r => ?_)
  refine c_then (B' := cB A) (L' := L) (T' := T) (fun hq9 => ?_)
  obtain ⟨t, htn, rfl, rfl⟩ := hq9
  have ht : t < 24 := by omega
  have hT1 := aI_toT hI.1 htn
  refine x_astore_n Γ dX2_fetch_5 rfl rfl (by decide) ?_
  refine x_aload_n Γ dX2_fetch_6 rfl rfl ?_
  refine x_invVN (emb := embI) (ci := 2) (rm := ({ frames := 1, cells := 0, slots := 0, locals := 40 } : Room)) Γ [] (fun w1 r w2 => bq (rIn 0 4 ((cB A) 9 t)) r ∧ w2 = w1) rfl (fun w1 h1 => by obtain ⟨b9, g1, g2⟩ := h1.1.2.2.2.2.2 t htn; exact t_isAtC g1 rfl) (c_thing htn) rfl k_395 k_14 k_392 k_394 s_7 hd_X1_isAtCounter ⟨Nat.le_of_ble_eq_true rfl, Nat.le_of_ble_eq_true rfl⟩ ⟨Nat.le_of_ble_eq_true rfl, Nat.le_of_ble_eq_true rfl⟩ (Nat.le_of_ble_eq_true rfl) dX2_fetch_7 (fun r => ?_)
  refine m_same (fun q7 => ?_)
  refine x_if_eq (tgt := 20) Γ dX2_fetch_10 (by decide) (fun c10 => ?_) (fun c10 => ?_)
  · have hk : kFetch A (nI t) = 2 := by
      unfold kFetch
      rw [if_neg (not_not_intro hT1), ixn ht, if_pos (by first | exact Or.inl (show ¬ A 9 t < 5 from fun z => q7.eq c10 ⟨hI.2.2.2.1 t htn, (lt_le (by decide)).mp z⟩) | exact Or.inr (q14.ne c17))]
    exact x_throw Γ hfl (by decide) k_221 k_13 (show (96, "it is not at a counter, or has a loan") ∈ xStr by simp [xStr]) at_ISE dX2_fetch_20 dX2_fetch_23 dX2_fetch_24 dX2_fetch_26 dX2_fetch_29 hout ⟨Nat.le_of_ble_eq_true rfl, Nat.le_of_ble_eq_true rfl⟩ ⟨Nat.le_of_ble_eq_true rfl, Nat.le_of_ble_eq_true rfl⟩ (fun w9 h9 => ⟨Or.inr (⟨rfl, hk⟩), h9⟩) ⟨Nat.le_of_ble_eq_true rfl, Nat.le_of_ble_eq_true rfl⟩
  · refine x_aload_n Γ dX2_fetch_13 rfl rfl ?_
    refine x_invVN (emb := embI) (ci := 2) (rm := ({ frames := 0, cells := 0, slots := 0, locals := 0 } : Room)) Γ [] (fun w1 r w2 => bq (0 < (cB A) 12 t) r ∧ w2 = w1) rfl (fun w1 h1 => by obtain ⟨b9, g1, g2⟩ := h1.1.2.2.2.2.2 t htn; exact t_hasLoan g1 rfl) (c_thing htn) rfl k_400 k_14 k_397 k_399 s_8 hd_X1_hasLoan ⟨Nat.le_of_ble_eq_true rfl, Nat.le_of_ble_eq_true rfl⟩ ⟨Nat.le_of_ble_eq_true rfl, Nat.le_of_ble_eq_true rfl⟩ (Nat.le_of_ble_eq_true rfl) dX2_fetch_14 (fun r => ?_)
    refine m_same (fun q14 => ?_)
    refine x_if_eq (tgt := 30) Γ dX2_fetch_17 (by decide) (fun c17 => ?_) (fun c17 => ?_)
    · have hk : kFetch A (nI t) = 0 := by
        unfold kFetch
        rw [if_neg (not_not_intro hT1), ixn ht, if_neg (fun z => z.elim (fun z => z (show A 9 t < 5 from (lt_le (by decide)).mpr (q7.ne c10).2)) (fun z => q14.eq c17 z))]
      refine x_aload_n Γ dX2_fetch_30 rfl rfl ?_
      refine c_getT Γ 8 htn (fun _ => rfl) (by decide) k_277 dX2_fetch_31 ?_
      refine x_istore_n Γ dX2_fetch_34 rfl rfl (by decide) ?_
      refine x_aload_n Γ dX2_fetch_35 rfl rfl ?_
      refine x_aload_n Γ dX2_fetch_36 rfl rfl ?_
      refine x_iload_n Γ dX2_fetch_37 rfl rfl ?_
      refine x_bipush (v := 10) Γ dX2_fetch_38 (by decide) ?_
      refine x_invV (emb := embV) (ci := 3) (rm := ({ frames := 4, cells := 1, slots := 3, locals := 150 } : Room)) Γ [.ref (th t), .int (cB A 11 t), .int 10] (fun w1 _ w2 => cP G ca th (fGa (cB A) t (cB A 11 t) 10) n (fDE (mU (mU (mU (cB A) 3 0 (cB A 3 0 + cB A 11 t)) 11 t (cB A 11 t)) 15 t (-1)) L) (tUp T t (10, cB A 4 0 + 1)) w1 w2) rfl (fun w1 h1 => t_giveAway h1.1 htn hn hL hlL) c_self rfl k_405 k_1 k_402 k_404 s_9 hd_X2_giveAway ⟨Nat.le_of_ble_eq_true rfl, Nat.le_of_ble_eq_true rfl⟩ ⟨Nat.le_of_ble_eq_true rfl, Nat.le_of_ble_eq_true rfl⟩ (Nat.le_of_ble_eq_true rfl) dX2_fetch_40 (fun _ => ?_)
      refine c_then0 (B' := fGa (cB A) t (cB A 11 t) 10) (L' := fDE (mU (mU (mU (cB A) 3 0 (cB A 3 0 + cB A 11 t)) 11 t (cB A 11 t)) 15 t (-1)) L) (T' := tUp T t (10, cB A 4 0 + 1)) ?_
      refine x_iload_n Γ dX2_fetch_43 rfl rfl ?_
      have m9 : ∀ i, bFetch (mU A 19 0 0) t 9 i = if i = t then 10 else A 9 i := fun i => by
        unfold bFetch
        rw [mU_j (by decide), mU_j (by decide)]
        by_cases e : i = t
        · subst e; rw [mU_eq, if_pos rfl]
        · rw [mU_i e, if_neg e]; rfl
      have hce : cEq n (fGa (cB A) t (cB A 11 t) 10) (cB (bFetch (mU A 19 0 0) t)) := by
        unfold bFetch fGa
        rw [cB_mU (by decide) (by decide), cB_mU (by decide) (by decide), cB_mU (by decide) (by decide)]
        have e0 := cEq_thr A n 0
        rw [mU_id (A := mU (cB A) 3 0 (cB A 3 0 + cB A 11 t)) (j := 11) (i := t) (v := cB A 11 t) rfl]
        refine ⟨?_, ?_, ⟨?_, ?_, ?_⟩, fun i hi => ⟨?_, ?_, ?_, ?_, ?_, ?_, ?_, ?_, ?_, ?_⟩⟩
        all_goals first | rfl | (simp [mU, cB])
      have e15 : fDE (mU (mU (mU (cB A) 3 0 (cB A 3 0 + cB A 11 t)) 11 t (cB A 11 t)) 15 t (-1)) L = fFor t L := fDE_for (mU_eq _ _ _ _) (fun q hq hqt => by rw [mU_i hqt, mU_j (by decide), mU_j (by decide), cB_j (by decide)]; obtain ⟨-, ci, hci, hg⟩ := hI.2.1.2.2 q hq; rw [hg]; exact nI_nm1 (by omega))
      have e4 : cB A 4 0 + 1 = nI (D + 1) := by rw [show cB A 4 0 = A 4 0 from rfl, hD, nI_1]
      rw [e15, e4]
      refine x_ends ?_
      refine x_iret Γ rfl rfl (fun w2 e2 => ?_) ⟨Nat.le_of_ble_eq_true rfl, Nat.le_of_ble_eq_true rfl⟩ dX2_fetch_44
      unfold gFetch
      rw [fin_ok hk, ixn ht]
      exact ⟨⟨hk, rfl⟩, ⟨_, hT.move hD1 (fun i hi => (m9 i).trans (if_neg hi)) ((m9 t).trans (if_pos rfl)) rfl, e2.1.congr (hce)⟩, e2.2⟩
    · have hk : kFetch A (nI t) = 2 := by
        unfold kFetch
        rw [if_neg (not_not_intro hT1), ixn ht, if_pos (by first | exact Or.inl (show ¬ A 9 t < 5 from fun z => q7.eq c10 ⟨hI.2.2.2.1 t htn, (lt_le (by decide)).mp z⟩) | exact Or.inr (q14.ne c17))]
      exact x_throw Γ hfl (by decide) k_221 k_13 (show (96, "it is not at a counter, or has a loan") ∈ xStr by simp [xStr]) at_ISE dX2_fetch_20 dX2_fetch_23 dX2_fetch_24 dX2_fetch_26 dX2_fetch_29 hout ⟨Nat.le_of_ble_eq_true rfl, Nat.le_of_ble_eq_true rfl⟩ ⟨Nat.le_of_ble_eq_true rfl, Nat.le_of_ble_eq_true rfl⟩ (fun w9 h9 => ⟨Or.inr (⟨rfl, hk⟩), h9⟩) ⟨Nat.le_of_ble_eq_true rfl, Nat.le_of_ble_eq_true rfl⟩
set_option maxRecDepth 100000 in
theorem tc_where {ca th : Nat → Nat} {A : xS} {n : Nat} {L : List Nat} {T : Nat → xTg} {w : xW} (h : CRaw G w ca th (cB A) n L T) (hfl : l.stackTraces = false) {x : Int32} {D : Nat} (hI : pI A n L) (hT : tgI A n D T) (hD : A 4 0 = nI D) (hD1 : D ≤ 1000) : xMetX l G yX2_where cX2_where 2 (some .int) ({ frames := 8, cells := 60, slots := 400, locals := 320 } : Room) [.ref (ca 0), .int x] w embI (fun r w' => (kT1 A x = 0 ∧ r = (gT1 9 A L x).1) ∧ cQ G ca th (gT1 9 A L x).2.1 n (gT1 9 A L x).2.2 D w w') (fun E w' => ((E = "java/lang/IndexOutOfBoundsException" ∧ kT1 A x = 1)) ∧ cP G ca th (cB A) n L T w w') := by
  refine xMetX_of (by decide) (Nat.le_of_ble_eq_true rfl) ?_
  intro p e s m below meth c Γ hout
  have hn := hI.1.2.1
  have hn5 := hI.1.1
  have hlL : L.length ≤ 24 := Nat.le_trans hI.2.1.1 hn
  have hL : ∀ q ∈ L, q < n := fun q hq => (hI.2.1.2.2 q hq).1
  refine c_in h ?_
  refine x_aload_n Γ dX2_where_0 rfl rfl ?_
  refine x_iload_n Γ dX2_where_1 rfl rfl ?_
  refine x_invVX (emb := embA) (ci := 3) (rm := ({ frames := 6, cells := 1, slots := 6, locals := 100 } : Room)) Γ [.int x] (fun w1 r w2 => (∃ t, t < n ∧ x = nI t ∧ r = th t) ∧ cP G ca th (cB A) n L T w1 w2) (fun w1 E w2 => (E = "java/lang/IndexOutOfBoundsException" ∧ ¬ rIn 0 (nI n - 1) x) ∧ cP G ca th (cB A) n L T w1 w2) rfl (fun w1 h1 => t_thingNumbered h1.1 hfl hn) hout (fun w1 E w2 h1 h2 => by obtain ⟨⟨h3, h4⟩, h5⟩ := h2; exact ⟨⟨h3, by unfold kT1; exact if_neg (show ¬ rIn 0 (A 5 0 - 1) x by rw [hn5]; exact h4)⟩, h5.1, h1.2.tr h5.2⟩) ⟨Nat.le_of_ble_eq_true rfl, Nat.le_of_ble_eq_true rfl⟩ c_self rfl k_375 k_1 k_372 k_374 s_6 hd_X2_thingNumbered ⟨Nat.le_of_ble_eq_true rfl, Nat.le_of_ble_eq_true rfl⟩ ⟨Nat.le_of_ble_eq_true rfl, Nat.le_of_ble_eq_true rfl⟩ (Nat.le_of_ble_eq_true rfl) dX2_where_2 (fun r => ?_)
  refine c_then (B' := cB A) (L' := L) (T' := T) (fun hq9 => ?_)
  obtain ⟨t, htn, rfl, rfl⟩ := hq9
  have ht : t < 24 := by omega
  have hT1 := aI_toT hI.1 htn
  refine c_getT Γ 5 htn (fun _ => rfl) (by decide) k_272 dX2_where_5 ?_
  have hk : kT1 A (nI t) = 0 := if_pos hT1
  refine x_ends ?_
  refine x_iret Γ rfl rfl (fun w2 e2 => ?_) ⟨Nat.le_of_ble_eq_true rfl, Nat.le_of_ble_eq_true rfl⟩ dX2_where_8
  unfold gT1
  rw [fin_ok hk, ixn ht]
  exact ⟨⟨hk, rfl⟩, ⟨T, hT.same rfl rfl, e2.1.congr (cEq_thr A n 0)⟩, e2.2⟩
set_option maxRecDepth 100000 in
theorem tc_fees {ca th : Nat → Nat} {A : xS} {n : Nat} {L : List Nat} {T : Nat → xTg} {w : xW} (h : CRaw G w ca th (cB A) n L T) (hfl : l.stackTraces = false) {x : Int32} {D : Nat} (hI : pI A n L) (hT : tgI A n D T) (hD : A 4 0 = nI D) (hD1 : D ≤ 1000) : xMetX l G yX2_fees cX2_fees 2 (some .int) ({ frames := 8, cells := 60, slots := 400, locals := 320 } : Room) [.ref (ca 0), .int x] w embI (fun r w' => (kT1 A x = 0 ∧ r = (gT1 11 A L x).1) ∧ cQ G ca th (gT1 11 A L x).2.1 n (gT1 11 A L x).2.2 D w w') (fun E w' => ((E = "java/lang/IndexOutOfBoundsException" ∧ kT1 A x = 1)) ∧ cP G ca th (cB A) n L T w w') := by
  refine xMetX_of (by decide) (Nat.le_of_ble_eq_true rfl) ?_
  intro p e s m below meth c Γ hout
  have hn := hI.1.2.1
  have hn5 := hI.1.1
  have hlL : L.length ≤ 24 := Nat.le_trans hI.2.1.1 hn
  have hL : ∀ q ∈ L, q < n := fun q hq => (hI.2.1.2.2 q hq).1
  refine c_in h ?_
  refine x_aload_n Γ dX2_fees_0 rfl rfl ?_
  refine x_iload_n Γ dX2_fees_1 rfl rfl ?_
  refine x_invVX (emb := embA) (ci := 3) (rm := ({ frames := 6, cells := 1, slots := 6, locals := 100 } : Room)) Γ [.int x] (fun w1 r w2 => (∃ t, t < n ∧ x = nI t ∧ r = th t) ∧ cP G ca th (cB A) n L T w1 w2) (fun w1 E w2 => (E = "java/lang/IndexOutOfBoundsException" ∧ ¬ rIn 0 (nI n - 1) x) ∧ cP G ca th (cB A) n L T w1 w2) rfl (fun w1 h1 => t_thingNumbered h1.1 hfl hn) hout (fun w1 E w2 h1 h2 => by obtain ⟨⟨h3, h4⟩, h5⟩ := h2; exact ⟨⟨h3, by unfold kT1; exact if_neg (show ¬ rIn 0 (A 5 0 - 1) x by rw [hn5]; exact h4)⟩, h5.1, h1.2.tr h5.2⟩) ⟨Nat.le_of_ble_eq_true rfl, Nat.le_of_ble_eq_true rfl⟩ c_self rfl k_375 k_1 k_372 k_374 s_6 hd_X2_thingNumbered ⟨Nat.le_of_ble_eq_true rfl, Nat.le_of_ble_eq_true rfl⟩ ⟨Nat.le_of_ble_eq_true rfl, Nat.le_of_ble_eq_true rfl⟩ (Nat.le_of_ble_eq_true rfl) dX2_fees_2 (fun r => ?_)
  refine c_then (B' := cB A) (L' := L) (T' := T) (fun hq9 => ?_)
  obtain ⟨t, htn, rfl, rfl⟩ := hq9
  have ht : t < 24 := by omega
  have hT1 := aI_toT hI.1 htn
  refine c_getT Γ 8 htn (fun _ => rfl) (by decide) k_277 dX2_fees_5 ?_
  have hk : kT1 A (nI t) = 0 := if_pos hT1
  refine x_ends ?_
  refine x_iret Γ rfl rfl (fun w2 e2 => ?_) ⟨Nat.le_of_ble_eq_true rfl, Nat.le_of_ble_eq_true rfl⟩ dX2_fees_8
  unfold gT1
  rw [fin_ok hk, ixn ht]
  exact ⟨⟨hk, rfl⟩, ⟨T, hT.same rfl rfl, e2.1.congr (cEq_thr A n 0)⟩, e2.2⟩
set_option maxRecDepth 100000 in
theorem tc_loan {ca th : Nat → Nat} {A : xS} {n : Nat} {L : List Nat} {T : Nat → xTg} {w : xW} (h : CRaw G w ca th (cB A) n L T) (hfl : l.stackTraces = false) {x : Int32} {D : Nat} (hI : pI A n L) (hT : tgI A n D T) (hD : A 4 0 = nI D) (hD1 : D ≤ 1000) : xMetX l G yX2_loan cX2_loan 2 (some .int) ({ frames := 8, cells := 60, slots := 400, locals := 320 } : Room) [.ref (ca 0), .int x] w embI (fun r w' => (kT1 A x = 0 ∧ r = (gT1 12 A L x).1) ∧ cQ G ca th (gT1 12 A L x).2.1 n (gT1 12 A L x).2.2 D w w') (fun E w' => ((E = "java/lang/IndexOutOfBoundsException" ∧ kT1 A x = 1)) ∧ cP G ca th (cB A) n L T w w') := by
  refine xMetX_of (by decide) (Nat.le_of_ble_eq_true rfl) ?_
  intro p e s m below meth c Γ hout
  have hn := hI.1.2.1
  have hn5 := hI.1.1
  have hlL : L.length ≤ 24 := Nat.le_trans hI.2.1.1 hn
  have hL : ∀ q ∈ L, q < n := fun q hq => (hI.2.1.2.2 q hq).1
  refine c_in h ?_
  refine x_aload_n Γ dX2_loan_0 rfl rfl ?_
  refine x_iload_n Γ dX2_loan_1 rfl rfl ?_
  refine x_invVX (emb := embA) (ci := 3) (rm := ({ frames := 6, cells := 1, slots := 6, locals := 100 } : Room)) Γ [.int x] (fun w1 r w2 => (∃ t, t < n ∧ x = nI t ∧ r = th t) ∧ cP G ca th (cB A) n L T w1 w2) (fun w1 E w2 => (E = "java/lang/IndexOutOfBoundsException" ∧ ¬ rIn 0 (nI n - 1) x) ∧ cP G ca th (cB A) n L T w1 w2) rfl (fun w1 h1 => t_thingNumbered h1.1 hfl hn) hout (fun w1 E w2 h1 h2 => by obtain ⟨⟨h3, h4⟩, h5⟩ := h2; exact ⟨⟨h3, by unfold kT1; exact if_neg (show ¬ rIn 0 (A 5 0 - 1) x by rw [hn5]; exact h4)⟩, h5.1, h1.2.tr h5.2⟩) ⟨Nat.le_of_ble_eq_true rfl, Nat.le_of_ble_eq_true rfl⟩ c_self rfl k_375 k_1 k_372 k_374 s_6 hd_X2_thingNumbered ⟨Nat.le_of_ble_eq_true rfl, Nat.le_of_ble_eq_true rfl⟩ ⟨Nat.le_of_ble_eq_true rfl, Nat.le_of_ble_eq_true rfl⟩ (Nat.le_of_ble_eq_true rfl) dX2_loan_2 (fun r => ?_)
  refine c_then (B' := cB A) (L' := L) (T' := T) (fun hq9 => ?_)
  obtain ⟨t, htn, rfl, rfl⟩ := hq9
  have ht : t < 24 := by omega
  have hT1 := aI_toT hI.1 htn
  refine c_getT Γ 9 htn (fun _ => rfl) (by decide) k_279 dX2_loan_5 ?_
  have hk : kT1 A (nI t) = 0 := if_pos hT1
  refine x_ends ?_
  refine x_iret Γ rfl rfl (fun w2 e2 => ?_) ⟨Nat.le_of_ble_eq_true rfl, Nat.le_of_ble_eq_true rfl⟩ dX2_loan_8
  unfold gT1
  rw [fin_ok hk, ixn ht]
  exact ⟨⟨hk, rfl⟩, ⟨T, hT.same rfl rfl, e2.1.congr (cEq_thr A n 0)⟩, e2.2⟩
set_option maxRecDepth 100000 in
theorem tc_value {ca th : Nat → Nat} {A : xS} {n : Nat} {L : List Nat} {T : Nat → xTg} {w : xW} (h : CRaw G w ca th (cB A) n L T) (hfl : l.stackTraces = false) {x v : Int32} {D : Nat} (hI : pI A n L) (hT : tgI A n D T) (hD : A 4 0 = nI D) (hD1 : D ≤ 1000) : xMetX l G yX2_value cX2_value 5 (some .int) ({ frames := 8, cells := 60, slots := 400, locals := 320 } : Room) [.ref (ca 0), .int x, .int v] w embI (fun r w' => (kValue A x v = 0 ∧ r = (gValue A L x v).1) ∧ cQ G ca th (gValue A L x v).2.1 n (gValue A L x v).2.2 D w w') (fun E w' => ((E = "java/lang/IndexOutOfBoundsException" ∧ kValue A x v = 1) ∨ (E = "java/lang/IllegalArgumentException" ∧ kValue A x v = 2) ∨ (E = "java/lang/IllegalStateException" ∧ kValue A x v = 3)) ∧ cP G ca th (cB A) n L T w w') := by
  refine xMetX_of (by decide) (Nat.le_of_ble_eq_true rfl) ?_
  intro p e s m below meth c Γ hout
  have hn := hI.1.2.1
  have hn5 := hI.1.1
  have hlL : L.length ≤ 24 := Nat.le_trans hI.2.1.1 hn
  have hL : ∀ q ∈ L, q < n := fun q hq => (hI.2.1.2.2 q hq).1
  refine c_in h ?_
  refine x_aload_n Γ dX2_value_0 rfl rfl ?_
  refine x_iload_n Γ dX2_value_1 rfl rfl ?_
  refine x_invVX (emb := embA) (ci := 3) (rm := ({ frames := 6, cells := 1, slots := 6, locals := 100 } : Room)) Γ [.int x] (fun w1 r w2 => (∃ t, t < n ∧ x = nI t ∧ r = th t) ∧ cP G ca th (cB A) n L T w1 w2) (fun w1 E w2 => (E = "java/lang/IndexOutOfBoundsException" ∧ ¬ rIn 0 (nI n - 1) x) ∧ cP G ca th (cB A) n L T w1 w2) rfl (fun w1 h1 => t_thingNumbered h1.1 hfl hn) hout (fun w1 E w2 h1 h2 => by obtain ⟨⟨h3, h4⟩, h5⟩ := h2; exact ⟨Or.inl (⟨h3, by unfold kValue; exact if_pos (show ¬ rIn 0 (A 5 0 - 1) x by rw [hn5]; exact h4)⟩), h5.1, h1.2.tr h5.2⟩) ⟨Nat.le_of_ble_eq_true rfl, Nat.le_of_ble_eq_true rfl⟩ c_self rfl k_375 k_1 k_372 k_374 s_6 hd_X2_thingNumbered ⟨Nat.le_of_ble_eq_true rfl, Nat.le_of_ble_eq_true rfl⟩ ⟨Nat.le_of_ble_eq_true rfl, Nat.le_of_ble_eq_true rfl⟩ (Nat.le_of_ble_eq_true rfl) dX2_value_2 (fun r => ?_)
  refine c_then (B' := cB A) (L' := L) (T' := T) (fun hq9 => ?_)
  obtain ⟨t, htn, rfl, rfl⟩ := hq9
  have ht : t < 24 := by omega
  have hT1 := aI_toT hI.1 htn
  refine x_astore_n Γ dX2_value_5 rfl rfl (by decide) ?_
  refine x_iload_n Γ dX2_value_6 rfl rfl ?_
  refine x_if_lt (tgt := 17) Γ dX2_value_7 (by decide) (fun c7 => ?_) (fun c7 => ?_)
  · have hk : kValue A (nI t) v = 2 := by
      unfold kValue
      rw [if_neg (not_not_intro hT1), if_pos (fun z => by first | exact absurd c7 (Int32.not_lt.mpr z.1) | exact c14 z.2)]
    exact x_throw Γ hfl (by decide) k_110 k_10 (show (118, "worth is out of range") ∈ xStr by simp [xStr]) at_IAE dX2_value_17 dX2_value_20 dX2_value_21 dX2_value_23 dX2_value_26 hout ⟨Nat.le_of_ble_eq_true rfl, Nat.le_of_ble_eq_true rfl⟩ ⟨Nat.le_of_ble_eq_true rfl, Nat.le_of_ble_eq_true rfl⟩ (fun w9 h9 => ⟨Or.inr (Or.inl (⟨rfl, hk⟩)), h9⟩) ⟨Nat.le_of_ble_eq_true rfl, Nat.le_of_ble_eq_true rfl⟩
  · refine x_iload_n Γ dX2_value_10 rfl rfl ?_
    refine x_sipush (v := 10000) Γ dX2_value_11 (by decide) ?_
    refine x_icmp_le (tgt := 27) Γ dX2_value_14 (by decide) (fun c14 => ?_) (fun c14 => ?_)
    · have hR : rIn 0 10000 v := ⟨Int32.not_lt.mp c7, c14⟩
      refine x_aload_n Γ dX2_value_27 rfl rfl ?_
      refine x_invVN (emb := embI) (ci := 2) (rm := ({ frames := 1, cells := 0, slots := 0, locals := 40 } : Room)) Γ [] (fun w1 r w2 => bq (rIn 0 4 ((cB A) 9 t)) r ∧ w2 = w1) rfl (fun w1 h1 => by obtain ⟨b9, g1, g2⟩ := h1.1.2.2.2.2.2 t htn; exact t_isAtC g1 rfl) (c_thing htn) rfl k_395 k_14 k_392 k_394 s_7 hd_X1_isAtCounter ⟨Nat.le_of_ble_eq_true rfl, Nat.le_of_ble_eq_true rfl⟩ ⟨Nat.le_of_ble_eq_true rfl, Nat.le_of_ble_eq_true rfl⟩ (Nat.le_of_ble_eq_true rfl) dX2_value_28 (fun r => ?_)
      refine m_same (fun q28 => ?_)
      refine x_if_ne (tgt := 44) Γ dX2_value_31 (by decide) (fun c31 => ?_) (fun c31 => ?_)
      · have hk : kValue A (nI t) v = 0 := by
          unfold kValue
          rw [if_neg (not_not_intro hT1), if_neg (not_not_intro hR), ixn ht, if_neg (not_not_intro (show A 9 t < 5 from (lt_le (by decide)).mpr (q28.ne c31).2))]
        refine x_aload_n Γ dX2_value_44 rfl rfl ?_
        refine c_getT Γ 4 htn (fun _ => rfl) (by decide) k_270 dX2_value_45 ?_
        refine x_istore Γ dX2_value_48 rfl (by decide) ?_
        refine x_aload_n Γ dX2_value_50 rfl rfl ?_
        refine x_iload_n Γ dX2_value_51 rfl rfl ?_
        refine c_putT Γ 4 8 htn (fun _ => by simp [tFs, mU]) (by decide) (by decide) k_270 rfl rfl dX2_value_52 ?_
        refine x_iload Γ dX2_value_55 rfl ?_
        refine x_ends ?_
        refine x_iret Γ rfl rfl (fun w2 e2 => ?_) ⟨Nat.le_of_ble_eq_true rfl, Nat.le_of_ble_eq_true rfl⟩ dX2_value_57
        unfold gValue
        rw [fin_ok hk, ixn ht]
        exact ⟨⟨hk, rfl⟩, ⟨T, hT.same rfl rfl, e2.1.congr (cEq_1 (by decide) (by decide))⟩, e2.2⟩
      · have hk : kValue A (nI t) v = 3 := by
          unfold kValue
          rw [if_neg (not_not_intro hT1), if_neg (not_not_intro hR), ixn ht, if_pos (show ¬ A 9 t < 5 from fun z => q28.eq c31 ⟨hI.2.2.2.1 t htn, (lt_le (by decide)).mp z⟩)]
        exact x_throw Γ hfl (by decide) k_221 k_13 (show (120, "it is not at a counter") ∈ xStr by simp [xStr]) at_ISE dX2_value_34 dX2_value_37 dX2_value_38 dX2_value_40 dX2_value_43 hout ⟨Nat.le_of_ble_eq_true rfl, Nat.le_of_ble_eq_true rfl⟩ ⟨Nat.le_of_ble_eq_true rfl, Nat.le_of_ble_eq_true rfl⟩ (fun w9 h9 => ⟨Or.inr (Or.inr (⟨rfl, hk⟩)), h9⟩) ⟨Nat.le_of_ble_eq_true rfl, Nat.le_of_ble_eq_true rfl⟩
    · have hk : kValue A (nI t) v = 2 := by
        unfold kValue
        rw [if_neg (not_not_intro hT1), if_pos (fun z => by first | exact absurd c7 (Int32.not_lt.mpr z.1) | exact c14 z.2)]
      exact x_throw Γ hfl (by decide) k_110 k_10 (show (118, "worth is out of range") ∈ xStr by simp [xStr]) at_IAE dX2_value_17 dX2_value_20 dX2_value_21 dX2_value_23 dX2_value_26 hout ⟨Nat.le_of_ble_eq_true rfl, Nat.le_of_ble_eq_true rfl⟩ ⟨Nat.le_of_ble_eq_true rfl, Nat.le_of_ble_eq_true rfl⟩ (fun w9 h9 => ⟨Or.inr (Or.inl (⟨rfl, hk⟩)), h9⟩) ⟨Nat.le_of_ble_eq_true rfl, Nat.le_of_ble_eq_true rfl⟩
set_option maxRecDepth 100000 in
theorem tc_repay {ca th : Nat → Nat} {A : xS} {n : Nat} {L : List Nat} {T : Nat → xTg} {w : xW} (h : CRaw G w ca th (cB A) n L T) (hfl : l.stackTraces = false) {x : Int32} {D : Nat} (hI : pI A n L) (hT : tgI A n D T) (hD : A 4 0 = nI D) (hD1 : D ≤ 1000) : xMetX l G yX2_repay cX2_repay 4 (some .int) ({ frames := 8, cells := 60, slots := 400, locals := 320 } : Room) [.ref (ca 0), .int x] w embI (fun r w' => (kRepay A x = 0 ∧ r = (gRepay A L x).1) ∧ cQ G ca th (gRepay A L x).2.1 n (gRepay A L x).2.2 D w w') (fun E w' => ((E = "java/lang/IndexOutOfBoundsException" ∧ kRepay A x = 1) ∨ (E = "java/lang/IllegalStateException" ∧ kRepay A x = 2)) ∧ cP G ca th (cB A) n L T w w') := by
  refine xMetX_of (by decide) (Nat.le_of_ble_eq_true rfl) ?_
  intro p e s m below meth c Γ hout
  have hn := hI.1.2.1
  have hn5 := hI.1.1
  have hlL : L.length ≤ 24 := Nat.le_trans hI.2.1.1 hn
  have hL : ∀ q ∈ L, q < n := fun q hq => (hI.2.1.2.2 q hq).1
  refine c_in h ?_
  refine x_aload_n Γ dX2_repay_0 rfl rfl ?_
  refine x_iload_n Γ dX2_repay_1 rfl rfl ?_
  refine x_invVX (emb := embA) (ci := 3) (rm := ({ frames := 6, cells := 1, slots := 6, locals := 100 } : Room)) Γ [.int x] (fun w1 r w2 => (∃ t, t < n ∧ x = nI t ∧ r = th t) ∧ cP G ca th (cB A) n L T w1 w2) (fun w1 E w2 => (E = "java/lang/IndexOutOfBoundsException" ∧ ¬ rIn 0 (nI n - 1) x) ∧ cP G ca th (cB A) n L T w1 w2) rfl (fun w1 h1 => t_thingNumbered h1.1 hfl hn) hout (fun w1 E w2 h1 h2 => by obtain ⟨⟨h3, h4⟩, h5⟩ := h2; exact ⟨Or.inl (⟨h3, by unfold kRepay; exact if_pos (show ¬ rIn 0 (A 5 0 - 1) x by rw [hn5]; exact h4)⟩), h5.1, h1.2.tr h5.2⟩) ⟨Nat.le_of_ble_eq_true rfl, Nat.le_of_ble_eq_true rfl⟩ c_self rfl k_375 k_1 k_372 k_374 s_6 hd_X2_thingNumbered ⟨Nat.le_of_ble_eq_true rfl, Nat.le_of_ble_eq_true rfl⟩ ⟨Nat.le_of_ble_eq_true rfl, Nat.le_of_ble_eq_true rfl⟩ (Nat.le_of_ble_eq_true rfl) dX2_repay_2 (fun r => ?_)
  refine c_then (B' := cB A) (L' := L) (T' := T) (fun hq9 => ?_)
  obtain ⟨t, htn, rfl, rfl⟩ := hq9
  have ht : t < 24 := by omega
  have hT1 := aI_toT hI.1 htn
  refine x_astore_n Γ dX2_repay_5 rfl rfl (by decide) ?_
  refine x_aload_n Γ dX2_repay_6 rfl rfl ?_
  refine x_invVN (emb := embI) (ci := 2) (rm := ({ frames := 0, cells := 0, slots := 0, locals := 0 } : Room)) Γ [] (fun w1 r w2 => bq (0 < (cB A) 12 t) r ∧ w2 = w1) rfl (fun w1 h1 => by obtain ⟨b9, g1, g2⟩ := h1.1.2.2.2.2.2 t htn; exact t_hasLoan g1 rfl) (c_thing htn) rfl k_400 k_14 k_397 k_399 s_8 hd_X1_hasLoan ⟨Nat.le_of_ble_eq_true rfl, Nat.le_of_ble_eq_true rfl⟩ ⟨Nat.le_of_ble_eq_true rfl, Nat.le_of_ble_eq_true rfl⟩ (Nat.le_of_ble_eq_true rfl) dX2_repay_7 (fun r => ?_)
  refine m_same (fun q7 => ?_)
  refine x_if_ne (tgt := 23) Γ dX2_repay_10 (by decide) (fun c10 => ?_) (fun c10 => ?_)
  · have hlo : 0 < A 12 t := q7.ne c10
    have hk : kRepay A (nI t) = 0 := by
      unfold kRepay
      rw [if_neg (not_not_intro hT1), ixn ht, if_neg (fun z => by rw [z] at hlo; exact absurd hlo (by decide))]
    obtain ⟨lr, hlr, hl9⟩ := hI.1.2.2.2.2 t ht
    have e13 : cB A 13 t = nI lr := by
      show (if 0 < A 12 t then A 13 t else -1) = _
      rw [if_pos hlo, hl9]
    refine x_aload_n Γ dX2_repay_23 rfl rfl ?_
    refine c_getT Γ 9 htn (fun _ => rfl) (by decide) k_279 dX2_repay_24 ?_
    refine x_istore_n Γ dX2_repay_27 rfl rfl (by decide) ?_
    refine x_aload_n Γ dX2_repay_28 rfl rfl ?_
    refine x_aload_n Γ dX2_repay_29 rfl rfl ?_
    refine c_getT Γ 10 htn (fun _ => rfl) (by decide) k_281 dX2_repay_30 ?_
    refine x_iload_n Γ dX2_repay_33 rfl rfl ?_
    rw [e13]
    refine x_invV (emb := embV) (ci := 3) (rm := ({ frames := 1, cells := 0, slots := 0, locals := 40 } : Room)) Γ [.int (nI lr), .int (cB A 12 t)] (fun w1 _ w2 => cP G ca th (mU (cB A) 2 lr (cB A 2 lr + cB A 12 t)) n (L) (T) w1 w2) rfl (fun w1 h1 => by have h9 := t_putPurse (l := l) (x := nI lr) (z := cB A 12 t) h1.1; rw [fPut_in hlr] at h9; exact h9) c_self rfl k_457 k_1 k_454 k_456 s_14 hd_X2_putIntoPurse ⟨Nat.le_of_ble_eq_true rfl, Nat.le_of_ble_eq_true rfl⟩ ⟨Nat.le_of_ble_eq_true rfl, Nat.le_of_ble_eq_true rfl⟩ (Nat.le_of_ble_eq_true rfl) dX2_repay_34 (fun _ => ?_)
    refine c_then0 (B' := mU (cB A) 2 lr (cB A 2 lr + cB A 12 t)) (L' := L) (T' := T) ?_
    refine x_aload_n Γ dX2_repay_37 rfl rfl ?_
    refine x_invVN (emb := embV) (ci := 2) (rm := ({ frames := 0, cells := 0, slots := 0, locals := 0 } : Room)) Γ [] (fun w1 _ w2 => cP G ca th (mU (mU (mU (mU (cB A) 2 lr (cB A 2 lr + cB A 12 t)) 13 t (-1)) 12 t 0) 14 t (-1)) n (L) (T) w1 w2) rfl (fun w1 h1 => t_cendLoan h1.1 htn) (c_thing htn) rfl k_469 k_14 k_466 k_468 s_15 hd_X1_endLoan ⟨Nat.le_of_ble_eq_true rfl, Nat.le_of_ble_eq_true rfl⟩ ⟨Nat.le_of_ble_eq_true rfl, Nat.le_of_ble_eq_true rfl⟩ (Nat.le_of_ble_eq_true rfl) dX2_repay_38 (fun _ => ?_)
    refine c_then0 (B' := mU (mU (mU (mU (cB A) 2 lr (cB A 2 lr + cB A 12 t)) 13 t (-1)) 12 t 0) 14 t (-1)) (L' := L) (T' := T) ?_
    refine x_iload_n Γ dX2_repay_41 rfl rfl ?_
    have hce : cEq n (mU (mU (mU (mU (cB A) 2 lr (cB A 2 lr + cB A 12 t)) 13 t (-1)) 12 t 0) 14 t (-1)) (cB (bRepay (mU A 19 0 0) t)) := by
      unfold bRepay
      rw [show mU A 19 0 0 13 t = nI lr from hl9, ixn (by omega)]
      refine ⟨?_, ?_, ⟨?_, ?_, ?_⟩, fun i hi => ⟨?_, ?_, ?_, ?_, ?_, ?_, ?_, ?_, ?_, ?_⟩⟩
      all_goals first | rfl | (simp [mU, cB]; done) | (by_cases e : i = t <;> simp [mU, cB, e])
    refine x_ends ?_
    refine x_iret Γ rfl rfl (fun w2 e2 => ?_) ⟨Nat.le_of_ble_eq_true rfl, Nat.le_of_ble_eq_true rfl⟩ dX2_repay_42
    unfold gRepay
    rw [fin_ok hk, ixn ht]
    exact ⟨⟨hk, rfl⟩, ⟨T, hT.same rfl rfl, e2.1.congr (hce)⟩, e2.2⟩
  · have hk : kRepay A (nI t) = 2 := by
      unfold kRepay
      rw [if_neg (not_not_intro hT1), ixn ht, if_pos ((hI.2.2.2.2.2.1 t htn).elim id (fun z => absurd z.1 (q7.eq c10)))]
    exact x_throw Γ hfl (by decide) k_221 k_13 (show (139, "it has no loan") ∈ xStr by simp [xStr]) at_ISE dX2_repay_13 dX2_repay_16 dX2_repay_17 dX2_repay_19 dX2_repay_22 hout ⟨Nat.le_of_ble_eq_true rfl, Nat.le_of_ble_eq_true rfl⟩ ⟨Nat.le_of_ble_eq_true rfl, Nat.le_of_ble_eq_true rfl⟩ (fun w9 h9 => ⟨Or.inr (⟨rfl, hk⟩), h9⟩) ⟨Nat.le_of_ble_eq_true rfl, Nat.le_of_ble_eq_true rfl⟩
set_option maxRecDepth 100000 in
theorem tc_doubt {ca th : Nat → Nat} {A : xS} {n : Nat} {L : List Nat} {T : Nat → xTg} {w : xW} (h : CRaw G w ca th (cB A) n L T) (hfl : l.stackTraces = false) {x : Int32} {D : Nat} (hI : pI A n L) (hT : tgI A n D T) (hD : A 4 0 = nI D) (hD1 : D ≤ 1000) : xMetX l G yX2_doubt cX2_doubt 3 (some .int) ({ frames := 8, cells := 60, slots := 400, locals := 320 } : Room) [.ref (ca 0), .int x] w embI (fun r w' => (kDoubt A x = 0 ∧ r = (gDoubt A L x).1) ∧ cQ G ca th (gDoubt A L x).2.1 n (gDoubt A L x).2.2 D w w') (fun E w' => ((E = "java/lang/IndexOutOfBoundsException" ∧ kDoubt A x = 1) ∨ (E = "java/lang/IllegalStateException" ∧ kDoubt A x = 2)) ∧ cP G ca th (cB A) n L T w w') := by
  refine xMetX_of (by decide) (Nat.le_of_ble_eq_true rfl) ?_
  intro p e s m below meth c Γ hout
  have hn := hI.1.2.1
  have hn5 := hI.1.1
  have hlL : L.length ≤ 24 := Nat.le_trans hI.2.1.1 hn
  have hL : ∀ q ∈ L, q < n := fun q hq => (hI.2.1.2.2 q hq).1
  refine c_in h ?_
  refine x_aload_n Γ dX2_doubt_0 rfl rfl ?_
  refine x_iload_n Γ dX2_doubt_1 rfl rfl ?_
  refine x_invVX (emb := embA) (ci := 3) (rm := ({ frames := 6, cells := 1, slots := 6, locals := 100 } : Room)) Γ [.int x] (fun w1 r w2 => (∃ t, t < n ∧ x = nI t ∧ r = th t) ∧ cP G ca th (cB A) n L T w1 w2) (fun w1 E w2 => (E = "java/lang/IndexOutOfBoundsException" ∧ ¬ rIn 0 (nI n - 1) x) ∧ cP G ca th (cB A) n L T w1 w2) rfl (fun w1 h1 => t_thingNumbered h1.1 hfl hn) hout (fun w1 E w2 h1 h2 => by obtain ⟨⟨h3, h4⟩, h5⟩ := h2; exact ⟨Or.inl (⟨h3, by unfold kDoubt; exact if_pos (show ¬ rIn 0 (A 5 0 - 1) x by rw [hn5]; exact h4)⟩), h5.1, h1.2.tr h5.2⟩) ⟨Nat.le_of_ble_eq_true rfl, Nat.le_of_ble_eq_true rfl⟩ c_self rfl k_375 k_1 k_372 k_374 s_6 hd_X2_thingNumbered ⟨Nat.le_of_ble_eq_true rfl, Nat.le_of_ble_eq_true rfl⟩ ⟨Nat.le_of_ble_eq_true rfl, Nat.le_of_ble_eq_true rfl⟩ (Nat.le_of_ble_eq_true rfl) dX2_doubt_2 (fun r => ?_)
  refine c_then (B' := cB A) (L' := L) (T' := T) (fun hq9 => ?_)
  obtain ⟨t, htn, rfl, rfl⟩ := hq9
  have ht : t < 24 := by omega
  have hT1 := aI_toT hI.1 htn
  refine x_astore_n Γ dX2_doubt_5 rfl rfl (by decide) ?_
  refine x_aload_n Γ dX2_doubt_6 rfl rfl ?_
  refine x_invVN (emb := embI) (ci := 2) (rm := ({ frames := 0, cells := 0, slots := 0, locals := 0 } : Room)) Γ [] (fun w1 r w2 => bq (0 < (cB A) 12 t) r ∧ w2 = w1) rfl (fun w1 h1 => by obtain ⟨b9, g1, g2⟩ := h1.1.2.2.2.2.2 t htn; exact t_hasLoan g1 rfl) (c_thing htn) rfl k_400 k_14 k_397 k_399 s_8 hd_X1_hasLoan ⟨Nat.le_of_ble_eq_true rfl, Nat.le_of_ble_eq_true rfl⟩ ⟨Nat.le_of_ble_eq_true rfl, Nat.le_of_ble_eq_true rfl⟩ (Nat.le_of_ble_eq_true rfl) dX2_doubt_7 (fun r => ?_)
  refine m_same (fun q7 => ?_)
  refine x_if_eq (tgt := 20) Γ dX2_doubt_10 (by decide) (fun c10 => ?_) (fun c10 => ?_)
  · have hk : kDoubt A (nI t) = 2 := by
      unfold kDoubt
      rw [if_neg (not_not_intro hT1), ixn ht, if_pos (by first | exact Or.inl ((hI.2.2.2.2.2.1 t htn).elim id (fun z => absurd z.1 (q7.eq c10))) | exact Or.inr (q14.ne c17))]
    exact x_throw Γ hfl (by decide) k_221 k_13 (show (153, "it has no loan, or that was doubted") ∈ xStr by simp [xStr]) at_ISE dX2_doubt_20 dX2_doubt_23 dX2_doubt_24 dX2_doubt_26 dX2_doubt_29 hout ⟨Nat.le_of_ble_eq_true rfl, Nat.le_of_ble_eq_true rfl⟩ ⟨Nat.le_of_ble_eq_true rfl, Nat.le_of_ble_eq_true rfl⟩ (fun w9 h9 => ⟨Or.inr (⟨rfl, hk⟩), h9⟩) ⟨Nat.le_of_ble_eq_true rfl, Nat.le_of_ble_eq_true rfl⟩
  · refine x_aload_n Γ dX2_doubt_13 rfl rfl ?_
    refine x_invVN (emb := embI) (ci := 2) (rm := ({ frames := 0, cells := 0, slots := 0, locals := 0 } : Room)) Γ [] (fun w1 r w2 => bq (¬ (cB A) 14 t = -1) r ∧ w2 = w1) rfl (fun w1 h1 => by obtain ⟨b9, g1, g2⟩ := h1.1.2.2.2.2.2 t htn; exact t_isCalled g1 rfl) (c_thing htn) rfl k_480 k_14 k_477 k_479 s_16 hd_X1_isCalled ⟨Nat.le_of_ble_eq_true rfl, Nat.le_of_ble_eq_true rfl⟩ ⟨Nat.le_of_ble_eq_true rfl, Nat.le_of_ble_eq_true rfl⟩ (Nat.le_of_ble_eq_true rfl) dX2_doubt_14 (fun r => ?_)
    refine m_same (fun q14 => ?_)
    refine x_if_eq (tgt := 30) Γ dX2_doubt_17 (by decide) (fun c17 => ?_) (fun c17 => ?_)
    · have hlo : 0 < A 12 t := q7.ne c10
      have hk : kDoubt A (nI t) = 0 := by
        unfold kDoubt
        rw [if_neg (not_not_intro hT1), ixn ht, if_neg (fun z => z.elim (fun z => by rw [z] at hlo; exact absurd hlo (by decide)) (fun z => q14.eq c17 z))]
      refine x_aload_n Γ dX2_doubt_30 rfl rfl ?_
      refine x_aload_n Γ dX2_doubt_31 rfl rfl ?_
      refine c_this Γ 5 rfl (by decide) k_63 rfl dX2_doubt_32 ?_
      refine x_iconst (v := 3) Γ dX2_doubt_35 (by decide) ?_
      refine x_iadd Γ dX2_doubt_36 ?_
      refine c_putT Γ 11 14 htn (fun _ => by simp [tFs, mU]) (by decide) (by decide) k_283 rfl rfl dX2_doubt_37 ?_
      refine x_aload_n Γ dX2_doubt_40 rfl rfl ?_
      refine c_getT (v := .int (A 4 0 + 3)) Γ 11 htn (fun _ => by show some (Value.int (mU (cB A) 14 t (cB A 4 0 + 3) 14 t)) = _; rw [mU_eq]; rfl) (by decide) k_283 dX2_doubt_41 ?_
      refine x_ends ?_
      refine x_iret Γ rfl rfl (fun w2 e2 => ?_) ⟨Nat.le_of_ble_eq_true rfl, Nat.le_of_ble_eq_true rfl⟩ dX2_doubt_44
      unfold gDoubt
      rw [fin_ok hk, ixn ht]
      exact ⟨⟨hk, rfl⟩, ⟨T, hT.same rfl rfl, e2.1.congr (cEq_1 (by decide) (by decide))⟩, e2.2⟩
    · have hk : kDoubt A (nI t) = 2 := by
        unfold kDoubt
        rw [if_neg (not_not_intro hT1), ixn ht, if_pos (by first | exact Or.inl ((hI.2.2.2.2.2.1 t htn).elim id (fun z => absurd z.1 (q7.eq c10))) | exact Or.inr (q14.ne c17))]
      exact x_throw Γ hfl (by decide) k_221 k_13 (show (153, "it has no loan, or that was doubted") ∈ xStr by simp [xStr]) at_ISE dX2_doubt_20 dX2_doubt_23 dX2_doubt_24 dX2_doubt_26 dX2_doubt_29 hout ⟨Nat.le_of_ble_eq_true rfl, Nat.le_of_ble_eq_true rfl⟩ ⟨Nat.le_of_ble_eq_true rfl, Nat.le_of_ble_eq_true rfl⟩ (fun w9 h9 => ⟨Or.inr (⟨rfl, hk⟩), h9⟩) ⟨Nat.le_of_ble_eq_true rfl, Nat.le_of_ble_eq_true rfl⟩
set_option maxRecDepth 100000 in
theorem tc_load {ca th : Nat → Nat} {A : xS} {n : Nat} {L : List Nat} {T : Nat → xTg} {w : xW} (h : CRaw G w ca th (cB A) n L T) (hfl : l.stackTraces = false) {c0 : Int32} {D : Nat} (hI : pI A n L) (hT : tgI A n D T) (hD : A 4 0 = nI D) (hD1 : D ≤ 1000) : xMetX l G yX2_load cX2_load 2 (some .int) ({ frames := 8, cells := 60, slots := 400, locals := 320 } : Room) [.ref (ca 0), .int c0] w embI (fun r w' => (kLoad c0 = 0 ∧ r = (gLoad A L c0).1) ∧ cQ G ca th (gLoad A L c0).2.1 n (gLoad A L c0).2.2 D w w') (fun E w' => ((E = "java/lang/IllegalArgumentException" ∧ kLoad c0 = 1)) ∧ cP G ca th (cB A) n L T w w') := by
  refine xMetX_of (by decide) (Nat.le_of_ble_eq_true rfl) ?_
  intro p e s m below meth c Γ hout
  have hn := hI.1.2.1
  have hn5 := hI.1.1
  have hlL : L.length ≤ 24 := Nat.le_trans hI.2.1.1 hn
  have hL : ∀ q ∈ L, q < n := fun q hq => (hI.2.1.2.2 q hq).1
  refine c_in h ?_
  refine x_iload_n Γ dX2_load_0 rfl rfl ?_
  refine x_invS (emb := embI) (rm := ({ frames := 0, cells := 0, slots := 0, locals := 0 } : Room)) Γ [.int (c0)] (fun w1 r w2 => bq (rIn 0 4 (c0)) r ∧ w2 = w1) rfl (fun w1 h1 => t2_isCounter) k_106 k_1 k_104 k_105 hd_X2_isCounter ⟨Nat.le_of_ble_eq_true rfl, Nat.le_of_ble_eq_true rfl⟩ ⟨Nat.le_of_ble_eq_true rfl, Nat.le_of_ble_eq_true rfl⟩ (Nat.le_of_ble_eq_true rfl) dX2_load_1 (fun r => ?_)
  refine m_same (fun q1 => ?_)
  refine x_if_ne (tgt := 17) Γ dX2_load_4 (by decide) (fun c4 => ?_) (fun c4 => ?_)
  · have hk : kLoad c0 = 0 := if_pos (q1.ne c4)
    refine x_aload_n Γ dX2_load_17 rfl rfl ?_
    refine x_iload_n Γ dX2_load_18 rfl rfl ?_
    refine x_invV (emb := embI) (ci := 3) (rm := ({ frames := 3, cells := 0, slots := 0, locals := 80 } : Room)) Γ [.int c0] (fun w1 r w2 => r = ldF A c0 n ∧ cP G ca th (cB A) n (L) (T) w1 w2) rfl (fun w1 h1 => by have h9 := t_sizesAt (l := l) (x := c0) h1.1 hn; rw [ldF_cB] at h9; exact h9) c_self rfl k_205 k_1 k_202 k_204 s_2 hd_X2_sizesAt ⟨Nat.le_of_ble_eq_true rfl, Nat.le_of_ble_eq_true rfl⟩ ⟨Nat.le_of_ble_eq_true rfl, Nat.le_of_ble_eq_true rfl⟩ (Nat.le_of_ble_eq_true rfl) dX2_load_19 (fun r => ?_)
    refine c_then (B' := cB A) (L' := L) (T' := T) (fun e9 => ?_)
    subst e9
    refine x_ends ?_
    refine x_iret Γ rfl rfl (fun w2 e2 => ?_) ⟨Nat.le_of_ble_eq_true rfl, Nat.le_of_ble_eq_true rfl⟩ dX2_load_22
    unfold gLoad
    rw [fin_ok hk, hn5, ixn2 (by omega)]
    exact ⟨⟨hk, rfl⟩, ⟨T, hT.same rfl rfl, e2.1.congr (cEq_thr A n 0)⟩, e2.2⟩
  · have hk : kLoad c0 = 1 := by
      unfold kLoad
      exact if_neg (q1.eq c4)
    exact x_throw Γ hfl (by decide) k_110 k_10 (show (105, "counter is out of range") ∈ xStr by simp [xStr]) at_IAE dX2_load_7 dX2_load_10 dX2_load_11 dX2_load_13 dX2_load_16 hout ⟨Nat.le_of_ble_eq_true rfl, Nat.le_of_ble_eq_true rfl⟩ ⟨Nat.le_of_ble_eq_true rfl, Nat.le_of_ble_eq_true rfl⟩ (fun w9 h9 => ⟨⟨rfl, hk⟩, h9⟩) ⟨Nat.le_of_ble_eq_true rfl, Nat.le_of_ble_eq_true rfl⟩
set_option maxRecDepth 100000 in
theorem tc_purse {ca th : Nat → Nat} {A : xS} {n : Nat} {L : List Nat} {T : Nat → xTg} {w : xW} (h : CRaw G w ca th (cB A) n L T) (hfl : l.stackTraces = false) {x : Int32} {D : Nat} (hI : pI A n L) (hT : tgI A n D T) (hD : A 4 0 = nI D) (hD1 : D ≤ 1000) : xMetX l G yX2_purse cX2_purse 2 (some .int) ({ frames := 8, cells := 60, slots := 400, locals := 320 } : Room) [.ref (ca 0), .int x] w embI (fun r w' => (kPurse x = 0 ∧ r = (gPurse A L x).1) ∧ cQ G ca th (gPurse A L x).2.1 n (gPurse A L x).2.2 D w w') (fun E w' => ((E = "java/lang/IllegalArgumentException" ∧ kPurse x = 1)) ∧ cP G ca th (cB A) n L T w w') := by
  refine xMetX_of (by decide) (Nat.le_of_ble_eq_true rfl) ?_
  intro p e s m below meth c Γ hout
  have hn := hI.1.2.1
  have hn5 := hI.1.1
  have hlL : L.length ≤ 24 := Nat.le_trans hI.2.1.1 hn
  have hL : ∀ q ∈ L, q < n := fun q hq => (hI.2.1.2.2 q hq).1
  refine c_in h ?_
  refine x_iload_n Γ dX2_purse_0 rfl rfl ?_
  refine x_invS (emb := embI) (rm := ({ frames := 0, cells := 0, slots := 0, locals := 0 } : Room)) Γ [.int (x)] (fun w1 r w2 => bq (rIn 0 7 (x)) r ∧ w2 = w1) rfl (fun w1 h1 => t2_isPerson) k_196 k_1 k_194 k_195 hd_X2_isPerson ⟨Nat.le_of_ble_eq_true rfl, Nat.le_of_ble_eq_true rfl⟩ ⟨Nat.le_of_ble_eq_true rfl, Nat.le_of_ble_eq_true rfl⟩ (Nat.le_of_ble_eq_true rfl) dX2_purse_1 (fun r => ?_)
  refine m_same (fun q1 => ?_)
  refine x_if_ne (tgt := 17) Γ dX2_purse_4 (by decide) (fun c4 => ?_) (fun c4 => ?_)
  · have hk : kPurse x = 0 := if_pos (q1.ne c4)
    obtain ⟨i, hi, rfl⟩ := rIn_nat (M := 7) (n := 7) (by decide) (q1.ne c4)
    refine x_aload_n Γ dX2_purse_17 rfl rfl ?_
    refine c_this Γ 1 rfl (by decide) k_59 rfl dX2_purse_18 ?_
    refine x_iload_n Γ dX2_purse_21 rfl rfl ?_
    refine c_ald (jj := 2) Γ rfl (Or.inr ⟨rfl, rfl, by omega⟩) dX2_purse_22 ?_
    refine x_ends ?_
    refine x_iret Γ rfl rfl (fun w2 e2 => ?_) ⟨Nat.le_of_ble_eq_true rfl, Nat.le_of_ble_eq_true rfl⟩ dX2_purse_23
    unfold gPurse
    rw [fin_ok hk, ixn (t := i) (by omega)]
    exact ⟨⟨hk, rfl⟩, ⟨T, hT.same rfl rfl, e2.1.congr (cEq_thr A n 0)⟩, e2.2⟩
  · have hk : kPurse x = 1 := by
      unfold kPurse
      exact if_neg (q1.eq c4)
    exact x_throw Γ hfl (by decide) k_110 k_10 (show (174, "person is out of range") ∈ xStr by simp [xStr]) at_IAE dX2_purse_7 dX2_purse_10 dX2_purse_11 dX2_purse_13 dX2_purse_16 hout ⟨Nat.le_of_ble_eq_true rfl, Nat.le_of_ble_eq_true rfl⟩ ⟨Nat.le_of_ble_eq_true rfl, Nat.le_of_ble_eq_true rfl⟩ (fun w9 h9 => ⟨⟨rfl, hk⟩, h9⟩) ⟨Nat.le_of_ble_eq_true rfl, Nat.le_of_ble_eq_true rfl⟩
end XC7

section XC8
theorem getD_app (R : List Nat) (t j : Nat) (hj : j < R.length + 1) : (R ++ [t]).getD j 0 = if j = R.length then t else R.getD j 0 := by
  rw [List.getD_eq_getElem?_getD, List.getD_eq_getElem?_getD]
  by_cases e : j = R.length
  · subst e
    rw [if_pos rfl, List.getElem?_append_right (Nat.le_refl _), Nat.sub_self]
    rfl
  · rw [if_neg e, List.getElem?_append_left (by omega)]
variable {l : Launch} {G : xG}
set_option maxRecDepth 100000 in
theorem tc_day {ca th : Nat → Nat} {A : xS} {n : Nat} {L : List Nat} {T : Nat → xTg} {w : xW} (h : CRaw G w ca th (cB A) n L T) {D : Nat} (hI : pI A n L) (hT : tgI A n D T) (hD : A 4 0 = nI D) (hD1 : D ≤ 1000) : xMet l G yX2_day cX2_day 1 (some .int) ({ frames := 1, cells := 0, slots := 0, locals := 40 } : Room) [.ref (ca 0)] w embI (fun r w' => r = (g0 4 A L).1 ∧ cQ G ca th (g0 4 A L).2.1 n (g0 4 A L).2.2 D w w') := by
  refine xMet_of (by decide) (Nat.le_of_ble_eq_true rfl) ?_
  intro p e s m below meth c Γ hnm
  refine c_in h ?_
  refine x_aload_n Γ dX2_day_0 rfl rfl ?_
  refine c_this Γ 5 rfl (by decide) k_63 rfl dX2_day_1 ?_
  exact x_iret Γ rfl rfl (fun w2 e2 => ⟨rfl, ⟨_, hT.same rfl rfl, e2.1.congr (cEq_thr A n 0)⟩, e2.2⟩) ⟨Nat.le_of_ble_eq_true rfl, Nat.le_of_ble_eq_true rfl⟩ dX2_day_4
set_option maxRecDepth 100000 in
theorem tc_taken {ca th : Nat → Nat} {A : xS} {n : Nat} {L : List Nat} {T : Nat → xTg} {w : xW} (h : CRaw G w ca th (cB A) n L T) {D : Nat} (hI : pI A n L) (hT : tgI A n D T) (hD : A 4 0 = nI D) (hD1 : D ≤ 1000) : xMet l G yX2_taken cX2_taken 1 (some .int) ({ frames := 1, cells := 0, slots := 0, locals := 40 } : Room) [.ref (ca 0)] w embI (fun r w' => r = (g0 3 A L).1 ∧ cQ G ca th (g0 3 A L).2.1 n (g0 3 A L).2.2 D w w') := by
  refine xMet_of (by decide) (Nat.le_of_ble_eq_true rfl) ?_
  intro p e s m below meth c Γ hnm
  refine c_in h ?_
  refine x_aload_n Γ dX2_taken_0 rfl rfl ?_
  refine c_this Γ 6 rfl (by decide) k_64 rfl dX2_taken_1 ?_
  exact x_iret Γ rfl rfl (fun w2 e2 => ⟨rfl, ⟨_, hT.same rfl rfl, e2.1.congr (cEq_thr A n 0)⟩, e2.2⟩) ⟨Nat.le_of_ble_eq_true rfl, Nat.le_of_ble_eq_true rfl⟩ dX2_taken_4
set_option maxRecDepth 100000 in
theorem tc_things {ca th : Nat → Nat} {A : xS} {n : Nat} {L : List Nat} {T : Nat → xTg} {w : xW} (h : CRaw G w ca th (cB A) n L T) {D : Nat} (hI : pI A n L) (hT : tgI A n D T) (hD : A 4 0 = nI D) (hD1 : D ≤ 1000) : xMet l G yX2_things cX2_things 1 (some .int) ({ frames := 1, cells := 0, slots := 0, locals := 40 } : Room) [.ref (ca 0)] w embI (fun r w' => r = (g0 5 A L).1 ∧ cQ G ca th (g0 5 A L).2.1 n (g0 5 A L).2.2 D w w') := by
  refine xMet_of (by decide) (Nat.le_of_ble_eq_true rfl) ?_
  intro p e s m below meth c Γ hnm
  refine c_in h ?_
  refine x_aload_n Γ dX2_things_0 rfl rfl ?_
  refine c_this Γ 2 rfl (by decide) k_60 rfl dX2_things_1 ?_
  refine x_invV (emb := embI) (ci := 0) (rm := ({ frames := 0, cells := 0, slots := 0, locals := 0 } : Room)) Γ [] (fun w1 r w2 => r = nI n ∧ w2 = w1) rfl (fun w1 h1 => t_size h1.1.2.2.2.1) c_lst3 rfl k_91 k_4 k_88 k_89 k_90 hd_Jx4a65c_size_8abf5 ⟨Nat.le_of_ble_eq_true rfl, Nat.le_of_ble_eq_true rfl⟩ ⟨Nat.le_of_ble_eq_true rfl, Nat.le_of_ble_eq_true rfl⟩ (Nat.le_of_ble_eq_true rfl) dX2_things_4 (fun r => ?_)
  refine m_same (fun e9 => ?_)
  subst e9
  exact x_iret Γ rfl rfl (fun w2 e2 => ⟨hI.1.1.symm, ⟨_, hT.same rfl rfl, e2.1.congr (cEq_thr A n 0)⟩, e2.2⟩) ⟨Nat.le_of_ble_eq_true rfl, Nat.le_of_ble_eq_true rfl⟩ dX2_things_7
set_option maxRecDepth 100000 in
theorem tc_whereOn {ca th : Nat → Nat} {A : xS} {n : Nat} {L : List Nat} {T : Nat → xTg} {w : xW} (h : CRaw G w ca th (cB A) n L T) (hfl : l.stackTraces = false) {x v : Int32} {D : Nat} (hI : pI A n L) (hT : tgI A n D T) (hD : A 4 0 = nI D) (hD1 : D ≤ 1000) : xMetX l G yX2_whereOn cX2_whereOn 4 (some .int) ({ frames := 8, cells := 60, slots := 400, locals := 320 } : Room) [.ref (ca 0), .int x, .int v] w embI (fun r w' => (kWhereOn A x v = 0 ∧ r = (gWhereOn A L x v).1) ∧ cQ G ca th (gWhereOn A L x v).2.1 n (gWhereOn A L x v).2.2 D w w') (fun E w' => ((E = "java/lang/IndexOutOfBoundsException" ∧ kWhereOn A x v = 1) ∨ (E = "java/lang/IllegalArgumentException" ∧ kWhereOn A x v = 2)) ∧ cP G ca th (cB A) n L T w w') := by
  refine xMetX_of (by decide) (Nat.le_of_ble_eq_true rfl) ?_
  intro p e s m below meth c Γ hout
  have hn := hI.1.2.1
  have hn5 := hI.1.1
  have hlL : L.length ≤ 24 := Nat.le_trans hI.2.1.1 hn
  have hL : ∀ q ∈ L, q < n := fun q hq => (hI.2.1.2.2 q hq).1
  refine c_in h ?_
  refine x_aload_n Γ dX2_whereOn_0 rfl rfl ?_
  refine x_iload_n Γ dX2_whereOn_1 rfl rfl ?_
  refine x_invVX (emb := embA) (ci := 3) (rm := ({ frames := 6, cells := 1, slots := 6, locals := 100 } : Room)) Γ [.int x] (fun w1 r w2 => (∃ t, t < n ∧ x = nI t ∧ r = th t) ∧ cP G ca th (cB A) n L T w1 w2) (fun w1 E w2 => (E = "java/lang/IndexOutOfBoundsException" ∧ ¬ rIn 0 (nI n - 1) x) ∧ cP G ca th (cB A) n L T w1 w2) rfl (fun w1 h1 => t_thingNumbered h1.1 hfl hn) hout (fun w1 E w2 h1 h2 => by obtain ⟨⟨h3, h4⟩, h5⟩ := h2; exact ⟨Or.inl (⟨h3, by unfold kWhereOn; exact if_pos (show ¬ rIn 0 (A 5 0 - 1) x by rw [hn5]; exact h4)⟩), h5.1, h1.2.tr h5.2⟩) ⟨Nat.le_of_ble_eq_true rfl, Nat.le_of_ble_eq_true rfl⟩ c_self rfl k_375 k_1 k_372 k_374 s_6 hd_X2_thingNumbered ⟨Nat.le_of_ble_eq_true rfl, Nat.le_of_ble_eq_true rfl⟩ ⟨Nat.le_of_ble_eq_true rfl, Nat.le_of_ble_eq_true rfl⟩ (Nat.le_of_ble_eq_true rfl) dX2_whereOn_2 (fun r => ?_)
  refine c_then (B' := cB A) (L' := L) (T' := T) (fun hq9 => ?_)
  obtain ⟨t, htn, rfl, rfl⟩ := hq9
  have ht : t < 24 := by omega
  have hT1 := aI_toT hI.1 htn
  refine x_astore_n Γ dX2_whereOn_5 rfl rfl (by decide) ?_
  refine x_iload_n Γ dX2_whereOn_6 rfl rfl ?_
  refine x_if_lt (tgt := 18) Γ dX2_whereOn_7 (by decide) (fun c7 => ?_) (fun c7 => ?_)
  · have hk : kWhereOn A (nI t) v = 2 := by
      unfold kWhereOn
      rw [if_neg (not_not_intro hT1), if_pos (fun z => absurd c7 (Int32.not_lt.mpr z.1))]
    exact x_throw Γ hfl (by decide) k_110 k_10 (show (165, "day is out of range") ∈ xStr by simp [xStr]) at_IAE dX2_whereOn_18 dX2_whereOn_21 dX2_whereOn_22 dX2_whereOn_24 dX2_whereOn_27 hout ⟨Nat.le_of_ble_eq_true rfl, Nat.le_of_ble_eq_true rfl⟩ ⟨Nat.le_of_ble_eq_true rfl, Nat.le_of_ble_eq_true rfl⟩ (fun w9 h9 => ⟨Or.inr (⟨rfl, hk⟩), h9⟩) ⟨Nat.le_of_ble_eq_true rfl, Nat.le_of_ble_eq_true rfl⟩
  · refine x_iload_n Γ dX2_whereOn_10 rfl rfl ?_
    refine x_aload_n Γ dX2_whereOn_11 rfl rfl ?_
    refine c_this Γ 5 rfl (by decide) k_63 rfl dX2_whereOn_12 ?_
    refine x_icmp_le (tgt := 28) Γ dX2_whereOn_15 (by decide) (fun c15 => ?_) (fun c15 => ?_)
    · have hR : rIn 0 (A 4 0) v := ⟨Int32.not_lt.mp c7, c15⟩
      have hk : kWhereOn A (nI t) v = 0 := by
        unfold kWhereOn
        rw [if_neg (not_not_intro hT1), if_neg (not_not_intro hR)]
      obtain ⟨d, hdD, rfl⟩ : ∃ d, d ≤ D ∧ v = nI d := rIn_nat (nI_int (by omega)) (by rw [hD] at hR; exact hR)
      refine x_iload_n Γ dX2_whereOn_28 rfl rfl ?_
      refine x_aload_n Γ dX2_whereOn_29 rfl rfl ?_
      refine c_this Γ 5 rfl (by decide) k_63 rfl dX2_whereOn_30 ?_
      refine x_icmp_ne (tgt := 43) Γ dX2_whereOn_33 (by decide) (fun c33 => ?_) (fun c33 => ?_)
      · refine x_aload_n Γ dX2_whereOn_43 rfl rfl ?_
        refine x_iload_n Γ dX2_whereOn_44 rfl rfl ?_
        refine x_invVN (emb := embI) (ci := 2) (rm := ({ frames := 0, cells := 0, slots := 0, locals := 0 } : Room)) Γ [.int (nI d)] (fun w1 r w2 => r = lkp (nI d) (T t) ∧ w2 = w1) rfl (fun w1 h1 => by obtain ⟨b9, g1, g2⟩ := h1.1.2.2.2.2.2 t htn; exact t_placeAt g1 rfl g2) (c_thing htn) rfl k_534 k_14 k_531 k_533 s_23 hd_X1_placeAtBeginningOf ⟨Nat.le_of_ble_eq_true rfl, Nat.le_of_ble_eq_true rfl⟩ ⟨Nat.le_of_ble_eq_true rfl, Nat.le_of_ble_eq_true rfl⟩ (Nat.le_of_ble_eq_true rfl) dX2_whereOn_45 (fun r => ?_)
        refine m_same (fun e9 => ?_)
        subst e9
        refine x_ends ?_
        refine x_iret Γ rfl rfl (fun w2 e2 => ?_) ⟨Nat.le_of_ble_eq_true rfl, Nat.le_of_ble_eq_true rfl⟩ dX2_whereOn_48
        unfold gWhereOn
        rw [fin_ok hk, ixn ht, if_neg (show ¬ nI d = A 4 0 from c33), show (24 : Int32) * nI d + nI t = nI (24 * d + t) by rw [show (24 : Int32) = nI 24 from rfl, nI_mul, nI_add], ixn2 (by omega)]
        exact ⟨⟨hk, (hT t htn).2.2 d hdD⟩, ⟨T, hT.same rfl rfl, e2.1.congr (cEq_thr A n 0)⟩, e2.2⟩
      · refine x_aload_n Γ dX2_whereOn_36 rfl rfl ?_
        refine c_getT Γ 5 htn (fun _ => rfl) (by decide) k_272 dX2_whereOn_37 ?_
        refine x_goto (tgt := 48) Γ dX2_whereOn_40 (by decide) ?_
        refine x_ends ?_
        refine x_iret Γ rfl rfl (fun w2 e2 => ?_) ⟨Nat.le_of_ble_eq_true rfl, Nat.le_of_ble_eq_true rfl⟩ dX2_whereOn_48
        unfold gWhereOn
        rw [fin_ok hk, ixn ht, if_pos (show nI d = A 4 0 from c33)]
        exact ⟨⟨hk, rfl⟩, ⟨T, hT.same rfl rfl, e2.1.congr (cEq_thr A n 0)⟩, e2.2⟩
    · have hk : kWhereOn A (nI t) v = 2 := by
        unfold kWhereOn
        rw [if_neg (not_not_intro hT1), if_pos (fun z => c15 z.2)]
      exact x_throw Γ hfl (by decide) k_110 k_10 (show (165, "day is out of range") ∈ xStr by simp [xStr]) at_IAE dX2_whereOn_18 dX2_whereOn_21 dX2_whereOn_22 dX2_whereOn_24 dX2_whereOn_27 hout ⟨Nat.le_of_ble_eq_true rfl, Nat.le_of_ble_eq_true rfl⟩ ⟨Nat.le_of_ble_eq_true rfl, Nat.le_of_ble_eq_true rfl⟩ (fun w9 h9 => ⟨Or.inr (⟨rfl, hk⟩), h9⟩) ⟨Nat.le_of_ble_eq_true rfl, Nat.le_of_ble_eq_true rfl⟩
set_option maxRecDepth 100000 in
theorem tc_want {ca th : Nat → Nat} {A : xS} {n : Nat} {L : List Nat} {T : Nat → xTg} {w : xW} (h : CRaw G w ca th (cB A) n L T) (hfl : l.stackTraces = false) {x c0 : Int32} {D : Nat} (hI : pI A n L) (hT : tgI A n D T) (hD : A 4 0 = nI D) (hD1 : D ≤ 1000) : xMetX l G yX2_want cX2_want 4 (some .int) ({ frames := 8, cells := 60, slots := 400, locals := 320 } : Room) [.ref (ca 0), .int x, .int c0] w embI (fun r w' => (kWant A x c0 = 0 ∧ r = (gWant A L x c0).1) ∧ cQ G ca th (gWant A L x c0).2.1 n (gWant A L x c0).2.2 D w w') (fun E w' => ((E = "java/lang/IndexOutOfBoundsException" ∧ kWant A x c0 = 1) ∨ (E = "java/lang/IllegalArgumentException" ∧ kWant A x c0 = 2) ∨ (E = "java/lang/IllegalStateException" ∧ kWant A x c0 = 3)) ∧ cP G ca th (cB A) n L T w w') := by
  refine xMetX_of (by decide) (Nat.le_of_ble_eq_true rfl) ?_
  intro p e s m below meth c Γ hout
  have hn := hI.1.2.1
  have hn5 := hI.1.1
  have hlL : L.length ≤ 24 := Nat.le_trans hI.2.1.1 hn
  have hL : ∀ q ∈ L, q < n := fun q hq => (hI.2.1.2.2 q hq).1
  refine c_in h ?_
  refine x_aload_n Γ dX2_want_0 rfl rfl ?_
  refine x_iload_n Γ dX2_want_1 rfl rfl ?_
  refine x_invVX (emb := embA) (ci := 3) (rm := ({ frames := 6, cells := 1, slots := 6, locals := 100 } : Room)) Γ [.int x] (fun w1 r w2 => (∃ t, t < n ∧ x = nI t ∧ r = th t) ∧ cP G ca th (cB A) n L T w1 w2) (fun w1 E w2 => (E = "java/lang/IndexOutOfBoundsException" ∧ ¬ rIn 0 (nI n - 1) x) ∧ cP G ca th (cB A) n L T w1 w2) rfl (fun w1 h1 => t_thingNumbered h1.1 hfl hn) hout (fun w1 E w2 h1 h2 => by obtain ⟨⟨h3, h4⟩, h5⟩ := h2; exact ⟨Or.inl (⟨h3, by unfold kWant; exact if_pos (show ¬ rIn 0 (A 5 0 - 1) x by rw [hn5]; exact h4)⟩), h5.1, h1.2.tr h5.2⟩) ⟨Nat.le_of_ble_eq_true rfl, Nat.le_of_ble_eq_true rfl⟩ c_self rfl k_375 k_1 k_372 k_374 s_6 hd_X2_thingNumbered ⟨Nat.le_of_ble_eq_true rfl, Nat.le_of_ble_eq_true rfl⟩ ⟨Nat.le_of_ble_eq_true rfl, Nat.le_of_ble_eq_true rfl⟩ (Nat.le_of_ble_eq_true rfl) dX2_want_2 (fun r => ?_)
  refine c_then (B' := cB A) (L' := L) (T' := T) (fun hq9 => ?_)
  obtain ⟨t, htn, rfl, rfl⟩ := hq9
  have ht : t < 24 := by omega
  have hT1 := aI_toT hI.1 htn
  refine x_astore_n Γ dX2_want_5 rfl rfl (by decide) ?_
  refine x_iload_n Γ dX2_want_6 rfl rfl ?_
  refine x_invS (emb := embI) (rm := ({ frames := 0, cells := 0, slots := 0, locals := 0 } : Room)) Γ [.int (c0)] (fun w1 r w2 => bq (rIn 0 4 (c0)) r ∧ w2 = w1) rfl (fun w1 h1 => t2_isCounter) k_106 k_1 k_104 k_105 hd_X2_isCounter ⟨Nat.le_of_ble_eq_true rfl, Nat.le_of_ble_eq_true rfl⟩ ⟨Nat.le_of_ble_eq_true rfl, Nat.le_of_ble_eq_true rfl⟩ (Nat.le_of_ble_eq_true rfl) dX2_want_7 (fun r => ?_)
  refine m_same (fun q7 => ?_)
  refine x_if_ne (tgt := 23) Γ dX2_want_10 (by decide) (fun c10 => ?_) (fun c10 => ?_)
  · have hR : rIn 0 4 c0 := q7.ne c10
    refine x_aload_n Γ dX2_want_23 rfl rfl ?_
    refine x_invVN (emb := embI) (ci := 2) (rm := ({ frames := 1, cells := 0, slots := 0, locals := 40 } : Room)) Γ [] (fun w1 r w2 => bq (rIn 0 4 ((cB A) 9 t)) r ∧ w2 = w1) rfl (fun w1 h1 => by obtain ⟨b9, g1, g2⟩ := h1.1.2.2.2.2.2 t htn; exact t_isAtC g1 rfl) (c_thing htn) rfl k_395 k_14 k_392 k_394 s_7 hd_X1_isAtCounter ⟨Nat.le_of_ble_eq_true rfl, Nat.le_of_ble_eq_true rfl⟩ ⟨Nat.le_of_ble_eq_true rfl, Nat.le_of_ble_eq_true rfl⟩ (Nat.le_of_ble_eq_true rfl) dX2_want_24 (fun r => ?_)
    refine m_same (fun q24 => ?_)
    refine x_if_eq (tgt := 38) Γ dX2_want_27 (by decide) (fun c27 => ?_) (fun c27 => ?_)
    · have hk : kWant A (nI t) c0 = 3 := by
        unfold kWant
        rw [if_neg (not_not_intro hT1), if_neg (not_not_intro hR), ixn ht, if_pos (by first | exact Or.inl (show ¬ A 9 t < 5 from fun z => q24.eq c27 ⟨hI.2.2.2.1 t htn, (lt_le (by decide)).mp z⟩) | exact Or.inr c35)]
      exact x_throw Γ hfl (by decide) k_221 k_13 (show (110, "it is not at a counter, or is at this one") ∈ xStr by simp [xStr]) at_ISE dX2_want_38 dX2_want_41 dX2_want_42 dX2_want_44 dX2_want_47 hout ⟨Nat.le_of_ble_eq_true rfl, Nat.le_of_ble_eq_true rfl⟩ ⟨Nat.le_of_ble_eq_true rfl, Nat.le_of_ble_eq_true rfl⟩ (fun w9 h9 => ⟨Or.inr (Or.inr (⟨rfl, hk⟩)), h9⟩) ⟨Nat.le_of_ble_eq_true rfl, Nat.le_of_ble_eq_true rfl⟩
    · refine x_aload_n Γ dX2_want_30 rfl rfl ?_
      refine c_getT Γ 5 htn (fun _ => rfl) (by decide) k_272 dX2_want_31 ?_
      refine x_iload_n Γ dX2_want_34 rfl rfl ?_
      refine x_icmp_ne (tgt := 48) Γ dX2_want_35 (by decide) (fun c35 => ?_) (fun c35 => ?_)
      · have hk : kWant A (nI t) c0 = 0 := by
          unfold kWant
          rw [if_neg (not_not_intro hT1), if_neg (not_not_intro hR), ixn ht, if_neg (fun z => z.elim (fun z => z (show A 9 t < 5 from (lt_le (by decide)).mpr (q24.ne c27).2)) (fun z => c35 z))]
        refine x_aload_n Γ dX2_want_48 rfl rfl ?_
        refine x_iconst (v := (-1)) Γ dX2_want_49 (by decide) ?_
        refine c_putT Γ 7 15 htn (fun _ => by simp [tFs, mU]) (by decide) (by decide) k_275 rfl rfl dX2_want_50 ?_
        refine x_aload_n Γ dX2_want_53 rfl rfl ?_
        refine x_invV (emb := embV) (ci := 3) (rm := ({ frames := 3, cells := 0, slots := 0, locals := 110 } : Room)) Γ [] (fun w1 _ w2 => cP G ca th (mU (cB A) 15 t (-1)) n (fDE (mU (cB A) 15 t (-1)) L) (T) w1 w2) rfl (fun w1 h1 => t_dropEnded h1.1 hn hL hlL) c_self rfl k_409 k_1 k_406 k_408 s_10 hd_X2_dropEndedWishes ⟨Nat.le_of_ble_eq_true rfl, Nat.le_of_ble_eq_true rfl⟩ ⟨Nat.le_of_ble_eq_true rfl, Nat.le_of_ble_eq_true rfl⟩ (Nat.le_of_ble_eq_true rfl) dX2_want_54 (fun _ => ?_)
        refine c_then0 (B' := mU (cB A) 15 t (-1)) (L' := fDE (mU (cB A) 15 t (-1)) L) (T' := T) ?_
        have e15 : fDE (mU (cB A) 15 t (-1)) L = fFor t L := fDE_for (mU_eq _ _ _ _) (fun q hq hqt => by rw [mU_i hqt, cB_j (by decide)]; obtain ⟨-, ci, hci, hg⟩ := hI.2.1.2.2 q hq; rw [hg]; exact nI_nm1 (by omega))
        rw [e15]
        have hlf : (fFor t L).length ≤ 24 := Nat.le_trans (fFor_len t L) hlL
        refine x_aload_n Γ dX2_want_57 rfl rfl ?_
        refine x_iload_n Γ dX2_want_58 rfl rfl ?_
        refine c_putT Γ 7 15 htn (fun _ => by simp [tFs, mU]) (by decide) (by decide) k_275 rfl rfl dX2_want_59 ?_
        refine x_aload_n Γ dX2_want_62 rfl rfl ?_
        refine c_this Γ 3 rfl (by decide) k_61 rfl dX2_want_63 ?_
        refine x_aload_n Γ dX2_want_66 rfl rfl ?_
        refine x_invV (emb := embI) (ci := 0) (rm := ({ frames := 6, cells := 1, slots := 40, locals := 205 } : Room)) Γ [.ref (th t)] (fun w1 _ w2 => LstAt G w2 (ca 4) 105 ((fFor t L).length + 1) (fun i => if i = (fFor t L).length then th t else (fun j => th ((fFor t L).getD j 0)) i) ∧ KpL 105 w1 w2) rfl (fun w1 h1 => by obtain ⟨b9, g1, g2⟩ := h1.1.2.2.2.2.2 t htn; exact t_add h1.1.2.2.2.2.1 hlf (h1.1.hel (fun q hq => hL q (fFor_mem hq).1)) g1 ⟨by omega, by omega⟩) c_lst4 rfl k_312 k_4 k_309 k_310 k_311 hd_Jx4a65c_add_9ea2d ⟨Nat.le_of_ble_eq_true rfl, Nat.le_of_ble_eq_true rfl⟩ ⟨Nat.le_of_ble_eq_true rfl, Nat.le_of_ble_eq_true rfl⟩ (Nat.le_of_ble_eq_true rfl) dX2_want_67 (fun r => ?_)
        refine x_weak (P' := cP G ca th (mU (mU (cB A) 15 t (-1)) 15 t c0) n (fFor t L ++ [t]) T w) (fun w2 h2 => ?_) ?_
        · obtain ⟨w1, h1, h3, h4⟩ := h2
          have h9 := h1.1.wish (L' := fFor t L ++ [t]) ?_ h4
          · exact ⟨h9.1, h1.2.tr h9.2⟩
          · rw [List.length_append]
            refine h3.congr (fun i hi => ?_)
            rw [getD_app _ _ _ hi]
            split <;> rfl
        refine x_pop Γ dX2_want_70 rfl ?_
        refine x_aload_n Γ dX2_want_71 rfl rfl ?_
        refine c_this Γ 3 rfl (by decide) k_61 rfl dX2_want_72 ?_
        refine x_invV (emb := embI) (ci := 0) (rm := ({ frames := 0, cells := 0, slots := 0, locals := 0 } : Room)) Γ [] (fun w1 r w2 => r = nI (fFor t L ++ [t]).length ∧ w2 = w1) rfl (fun w1 h1 => t_size h1.1.2.2.2.2.1) c_lst4 rfl k_91 k_4 k_88 k_89 k_90 hd_Jx4a65c_size_8abf5 ⟨Nat.le_of_ble_eq_true rfl, Nat.le_of_ble_eq_true rfl⟩ ⟨Nat.le_of_ble_eq_true rfl, Nat.le_of_ble_eq_true rfl⟩ (Nat.le_of_ble_eq_true rfl) dX2_want_75 (fun r => ?_)
        refine m_same (fun e9 => ?_)
        subst e9
        rw [List.length_append, show [t].length = 1 from rfl]
        have hce : cEq n (mU (mU (cB A) 15 t (-1)) 15 t c0) (cB (mU (mU (mU A 19 0 0) 15 t (-1)) 15 t c0)) := by
          rw [cB_mU (by decide) (by decide), cB_mU (by decide) (by decide)]
          exact cEq_mU (cEq_mU (cEq_thr A n 0))
        refine x_ends ?_
        refine x_iret Γ rfl rfl (fun w2 e2 => ?_) ⟨Nat.le_of_ble_eq_true rfl, Nat.le_of_ble_eq_true rfl⟩ dX2_want_78
        unfold gWant
        rw [fin_ok hk, ixn ht]
        exact ⟨⟨hk, rfl⟩, ⟨T, hT.same rfl rfl, e2.1.congr (hce)⟩, e2.2⟩
      · have hk : kWant A (nI t) c0 = 3 := by
          unfold kWant
          rw [if_neg (not_not_intro hT1), if_neg (not_not_intro hR), ixn ht, if_pos (by first | exact Or.inl (show ¬ A 9 t < 5 from fun z => q24.eq c27 ⟨hI.2.2.2.1 t htn, (lt_le (by decide)).mp z⟩) | exact Or.inr (by first | exact c35 | exact Decidable.not_not.mp c35))]
        exact x_throw Γ hfl (by decide) k_221 k_13 (show (110, "it is not at a counter, or is at this one") ∈ xStr by simp [xStr]) at_ISE dX2_want_38 dX2_want_41 dX2_want_42 dX2_want_44 dX2_want_47 hout ⟨Nat.le_of_ble_eq_true rfl, Nat.le_of_ble_eq_true rfl⟩ ⟨Nat.le_of_ble_eq_true rfl, Nat.le_of_ble_eq_true rfl⟩ (fun w9 h9 => ⟨Or.inr (Or.inr (⟨rfl, hk⟩)), h9⟩) ⟨Nat.le_of_ble_eq_true rfl, Nat.le_of_ble_eq_true rfl⟩
  · have hk : kWant A (nI t) c0 = 2 := by
      unfold kWant
      rw [if_neg (not_not_intro hT1), if_pos (q7.eq c10)]
    exact x_throw Γ hfl (by decide) k_110 k_10 (show (105, "counter is out of range") ∈ xStr by simp [xStr]) at_IAE dX2_want_13 dX2_want_16 dX2_want_17 dX2_want_19 dX2_want_22 hout ⟨Nat.le_of_ble_eq_true rfl, Nat.le_of_ble_eq_true rfl⟩ ⟨Nat.le_of_ble_eq_true rfl, Nat.le_of_ble_eq_true rfl⟩ (fun w9 h9 => ⟨Or.inr (Or.inl (⟨rfl, hk⟩)), h9⟩) ⟨Nat.le_of_ble_eq_true rfl, Nat.le_of_ble_eq_true rfl⟩
set_option maxRecDepth 100000 in
theorem tc_lend {ca th : Nat → Nat} {A : xS} {n : Nat} {L : List Nat} {T : Nat → xTg} {w : xW} (h : CRaw G w ca th (cB A) n L T) (hfl : l.stackTraces = false) {x lr z : Int32} {D : Nat} (hI : pI A n L) (hT : tgI A n D T) (hD : A 4 0 = nI D) (hD1 : D ≤ 1000) : xMetX l G yX2_lend cX2_lend 5 none ({ frames := 8, cells := 60, slots := 400, locals := 320 } : Room) [.ref (ca 0), .int x, .int lr, .int z] w embV (fun _ w' => kLend A x lr z = 0 ∧ cQ G ca th (gLend A L x lr z).2.1 n (gLend A L x lr z).2.2 D w w') (fun E w' => ((E = "java/lang/IndexOutOfBoundsException" ∧ kLend A x lr z = 1) ∨ (E = "java/lang/IllegalArgumentException" ∧ kLend A x lr z = 2) ∨ (E = "java/lang/IllegalStateException" ∧ kLend A x lr z = 3)) ∧ cP G ca th (cB A) n L T w w') := by
  refine xMetX_of (by decide) (Nat.le_of_ble_eq_true rfl) ?_
  intro p e s m below meth c Γ hout
  have hn := hI.1.2.1
  have hn5 := hI.1.1
  have hlL : L.length ≤ 24 := Nat.le_trans hI.2.1.1 hn
  have hL : ∀ q ∈ L, q < n := fun q hq => (hI.2.1.2.2 q hq).1
  refine c_in h ?_
  refine x_aload_n Γ dX2_lend_0 rfl rfl ?_
  refine x_iload_n Γ dX2_lend_1 rfl rfl ?_
  refine x_invVX (emb := embA) (ci := 3) (rm := ({ frames := 6, cells := 1, slots := 6, locals := 100 } : Room)) Γ [.int x] (fun w1 r w2 => (∃ t, t < n ∧ x = nI t ∧ r = th t) ∧ cP G ca th (cB A) n L T w1 w2) (fun w1 E w2 => (E = "java/lang/IndexOutOfBoundsException" ∧ ¬ rIn 0 (nI n - 1) x) ∧ cP G ca th (cB A) n L T w1 w2) rfl (fun w1 h1 => t_thingNumbered h1.1 hfl hn) hout (fun w1 E w2 h1 h2 => by obtain ⟨⟨h3, h4⟩, h5⟩ := h2; exact ⟨Or.inl (⟨h3, by unfold kLend; exact if_pos (show ¬ rIn 0 (A 5 0 - 1) x by rw [hn5]; exact h4)⟩), h5.1, h1.2.tr h5.2⟩) ⟨Nat.le_of_ble_eq_true rfl, Nat.le_of_ble_eq_true rfl⟩ c_self rfl k_375 k_1 k_372 k_374 s_6 hd_X2_thingNumbered ⟨Nat.le_of_ble_eq_true rfl, Nat.le_of_ble_eq_true rfl⟩ ⟨Nat.le_of_ble_eq_true rfl, Nat.le_of_ble_eq_true rfl⟩ (Nat.le_of_ble_eq_true rfl) dX2_lend_2 (fun r => ?_)
  refine c_then (B' := cB A) (L' := L) (T' := T) (fun hq9 => ?_)
  obtain ⟨t, htn, rfl, rfl⟩ := hq9
  have ht : t < 24 := by omega
  have hT1 := aI_toT hI.1 htn
  refine x_astore Γ dX2_lend_5 rfl (by decide) ?_
  refine x_iload_n Γ dX2_lend_7 rfl rfl ?_
  refine x_invS (emb := embI) (rm := ({ frames := 0, cells := 0, slots := 0, locals := 0 } : Room)) Γ [.int (lr)] (fun w1 r w2 => bq (rIn 0 7 (lr)) r ∧ w2 = w1) rfl (fun w1 h1 => t2_isPerson) k_196 k_1 k_194 k_195 hd_X2_isPerson ⟨Nat.le_of_ble_eq_true rfl, Nat.le_of_ble_eq_true rfl⟩ ⟨Nat.le_of_ble_eq_true rfl, Nat.le_of_ble_eq_true rfl⟩ (Nat.le_of_ble_eq_true rfl) dX2_lend_8 (fun r => ?_)
  refine m_same (fun q8 => ?_)
  refine x_if_eq (tgt := 26) Γ dX2_lend_11 (by decide) (fun c11 => ?_) (fun c11 => ?_)
  · have hk : kLend A (nI t) lr z = 2 := by
      unfold kLend
      rw [if_neg (not_not_intro hT1), if_pos (fun y => q8.eq c11 y.1)]
    exact x_throw Γ hfl (by decide) k_110 k_10 (show (125, "lender or sum is out of range") ∈ xStr by simp [xStr]) at_IAE dX2_lend_26 dX2_lend_29 dX2_lend_30 dX2_lend_32 dX2_lend_35 hout ⟨Nat.le_of_ble_eq_true rfl, Nat.le_of_ble_eq_true rfl⟩ ⟨Nat.le_of_ble_eq_true rfl, Nat.le_of_ble_eq_true rfl⟩ (fun w9 h9 => ⟨Or.inr (Or.inl (⟨rfl, hk⟩)), h9⟩) ⟨Nat.le_of_ble_eq_true rfl, Nat.le_of_ble_eq_true rfl⟩
  · refine x_iload_n Γ dX2_lend_14 rfl rfl ?_
    refine x_iconst (v := 1) Γ dX2_lend_15 (by decide) ?_
    refine x_icmp_lt (tgt := 26) Γ dX2_lend_16 (by decide) (fun c16 => ?_) (fun c16 => ?_)
    · have hk : kLend A (nI t) lr z = 2 := by
        unfold kLend
        rw [if_neg (not_not_intro hT1), if_pos (fun y => absurd c16 (Int32.not_lt.mpr y.2.1))]
      exact x_throw Γ hfl (by decide) k_110 k_10 (show (125, "lender or sum is out of range") ∈ xStr by simp [xStr]) at_IAE dX2_lend_26 dX2_lend_29 dX2_lend_30 dX2_lend_32 dX2_lend_35 hout ⟨Nat.le_of_ble_eq_true rfl, Nat.le_of_ble_eq_true rfl⟩ ⟨Nat.le_of_ble_eq_true rfl, Nat.le_of_ble_eq_true rfl⟩ (fun w9 h9 => ⟨Or.inr (Or.inl (⟨rfl, hk⟩)), h9⟩) ⟨Nat.le_of_ble_eq_true rfl, Nat.le_of_ble_eq_true rfl⟩
    · refine x_iload_n Γ dX2_lend_19 rfl rfl ?_
      refine x_sipush (v := 5000) Γ dX2_lend_20 (by decide) ?_
      refine x_icmp_le (tgt := 36) Γ dX2_lend_23 (by decide) (fun c23 => ?_) (fun c23 => ?_)
      · have hR : rIn 0 7 lr ∧ rIn 1 5000 z := ⟨q8.ne c11, Int32.not_lt.mp c16, c23⟩
        refine x_aload Γ dX2_lend_36 rfl ?_
        refine x_invVN (emb := embI) (ci := 2) (rm := ({ frames := 1, cells := 0, slots := 0, locals := 40 } : Room)) Γ [] (fun w1 r w2 => bq (rIn 0 4 ((cB A) 9 t)) r ∧ w2 = w1) rfl (fun w1 h1 => by obtain ⟨b9, g1, g2⟩ := h1.1.2.2.2.2.2 t htn; exact t_isAtC g1 rfl) (c_thing htn) rfl k_395 k_14 k_392 k_394 s_7 hd_X1_isAtCounter ⟨Nat.le_of_ble_eq_true rfl, Nat.le_of_ble_eq_true rfl⟩ ⟨Nat.le_of_ble_eq_true rfl, Nat.le_of_ble_eq_true rfl⟩ (Nat.le_of_ble_eq_true rfl) dX2_lend_38 (fun r => ?_)
        refine m_same (fun q38 => ?_)
        refine x_if_eq (tgt := 52) Γ dX2_lend_41 (by decide) (fun c41 => ?_) (fun c41 => ?_)
        · have hk : kLend A (nI t) lr z = 3 := by
            unfold kLend
            rw [if_neg (not_not_intro hT1), if_neg (not_not_intro hR), ixn ht]
            exact if_pos (Or.inl (show ¬ A 9 t < 5 from fun z => q38.eq c41 ⟨hI.2.2.2.1 t htn, (lt_le (by decide)).mp z⟩))
          exact x_throw Γ hfl (by decide) k_221 k_13 (show (96, "it is not at a counter, or has a loan") ∈ xStr by simp [xStr]) at_ISE dX2_lend_52 dX2_lend_55 dX2_lend_56 dX2_lend_58 dX2_lend_61 hout ⟨Nat.le_of_ble_eq_true rfl, Nat.le_of_ble_eq_true rfl⟩ ⟨Nat.le_of_ble_eq_true rfl, Nat.le_of_ble_eq_true rfl⟩ (fun w9 h9 => ⟨Or.inr (Or.inr (⟨rfl, hk⟩)), h9⟩) ⟨Nat.le_of_ble_eq_true rfl, Nat.le_of_ble_eq_true rfl⟩
        · refine x_aload Γ dX2_lend_44 rfl ?_
          refine x_invVN (emb := embI) (ci := 2) (rm := ({ frames := 0, cells := 0, slots := 0, locals := 0 } : Room)) Γ [] (fun w1 r w2 => bq (0 < (cB A) 12 t) r ∧ w2 = w1) rfl (fun w1 h1 => by obtain ⟨b9, g1, g2⟩ := h1.1.2.2.2.2.2 t htn; exact t_hasLoan g1 rfl) (c_thing htn) rfl k_400 k_14 k_397 k_399 s_8 hd_X1_hasLoan ⟨Nat.le_of_ble_eq_true rfl, Nat.le_of_ble_eq_true rfl⟩ ⟨Nat.le_of_ble_eq_true rfl, Nat.le_of_ble_eq_true rfl⟩ (Nat.le_of_ble_eq_true rfl) dX2_lend_46 (fun r => ?_)
          refine m_same (fun q46 => ?_)
          refine x_if_eq (tgt := 62) Γ dX2_lend_49 (by decide) (fun c49 => ?_) (fun c49 => ?_)
          · refine x_iload_n Γ dX2_lend_62 rfl rfl ?_
            refine x_aload Γ dX2_lend_63 rfl ?_
            refine c_getT Γ 1 htn (fun _ => rfl) (by decide) k_264 dX2_lend_65 ?_
            refine x_icmp_eq (tgt := 82) Γ dX2_lend_68 (by decide) (fun c68 => ?_) (fun c68 => ?_)
            · have hk : kLend A (nI t) lr z = 3 := by
                unfold kLend
                rw [if_neg (not_not_intro hT1), if_neg (not_not_intro hR), ixn ht]
                exact if_pos (Or.inr (Or.inl (Eq.symm c68)))
              exact x_throw Γ hfl (by decide) k_221 k_13 (show (130, "the lender is its owner, or the sum is too high") ∈ xStr by simp [xStr]) at_ISE dX2_lend_82 dX2_lend_85 dX2_lend_86 dX2_lend_88 dX2_lend_91 hout ⟨Nat.le_of_ble_eq_true rfl, Nat.le_of_ble_eq_true rfl⟩ ⟨Nat.le_of_ble_eq_true rfl, Nat.le_of_ble_eq_true rfl⟩ (fun w9 h9 => ⟨Or.inr (Or.inr (⟨rfl, hk⟩)), h9⟩) ⟨Nat.le_of_ble_eq_true rfl, Nat.le_of_ble_eq_true rfl⟩
            · refine x_iload_n Γ dX2_lend_71 rfl rfl ?_
              refine x_aload Γ dX2_lend_72 rfl ?_
              refine c_getT Γ 4 htn (fun _ => rfl) (by decide) k_270 dX2_lend_74 ?_
              refine x_iconst (v := 2) Γ dX2_lend_77 (by decide) ?_
              refine x_idiv Γ dX2_lend_78 (by decide) ?_
              refine x_icmp_le (tgt := 92) Γ dX2_lend_79 (by decide) (fun c79 => ?_) (fun c79 => ?_)
              · have hk : kLend A (nI t) lr z = 0 := by
                  unfold kLend
                  rw [if_neg (not_not_intro hT1), if_neg (not_not_intro hR), ixn ht]
                  exact if_neg (fun y => y.elim (fun y => y (show A 9 t < 5 from (lt_le (by decide)).mpr (q38.ne c41).2)) (fun y => y.elim (fun y => c68 y.symm) (fun y => y.elim (fun y => q46.eq c49 y) (fun y => Int32.not_lt.mpr c79 y))))
                obtain ⟨ow, how8, how⟩ := hI.1.2.2.2.1 t ht
                refine x_aload Γ dX2_lend_92 rfl ?_
                refine x_iload_n Γ dX2_lend_94 rfl rfl ?_
                refine x_iload_n Γ dX2_lend_95 rfl rfl ?_
                refine x_invVN (emb := embV) (ci := 2) (rm := ({ frames := 0, cells := 0, slots := 0, locals := 0 } : Room)) Γ [.int lr, .int z] (fun w1 _ w2 => cP G ca th (mU (mU (cB A) 13 t lr) 12 t z) n (L) (T) w1 w2) rfl (fun w1 h1 => t_cbeginLoan h1.1 htn) (c_thing htn) rfl k_453 k_14 k_450 k_452 s_13 hd_X1_beginLoan ⟨Nat.le_of_ble_eq_true rfl, Nat.le_of_ble_eq_true rfl⟩ ⟨Nat.le_of_ble_eq_true rfl, Nat.le_of_ble_eq_true rfl⟩ (Nat.le_of_ble_eq_true rfl) dX2_lend_96 (fun _ => ?_)
                refine c_then0 (B' := mU (mU (cB A) 13 t lr) 12 t z) (L' := L) (T' := T) ?_
                refine x_aload_n Γ dX2_lend_99 rfl rfl ?_
                refine x_aload Γ dX2_lend_100 rfl ?_
                refine c_getT (v := .int (nI ow)) Γ 1 htn (fun _ => by show some (Value.int (A 6 t)) = _; rw [how]) (by decide) k_264 dX2_lend_102 ?_
                refine x_iload_n Γ dX2_lend_105 rfl rfl ?_
                refine x_invV (emb := embV) (ci := 3) (rm := ({ frames := 1, cells := 0, slots := 0, locals := 40 } : Room)) Γ [.int (nI ow), .int z] (fun w1 _ w2 => cP G ca th (mU (mU (mU (cB A) 13 t lr) 12 t z) 2 ow ((mU (mU (cB A) 13 t lr) 12 t z) 2 ow + z)) n (L) (T) w1 w2) rfl (fun w1 h1 => by have h9 := t_putPurse (l := l) (x := nI ow) (z := z) h1.1; rw [fPut_in how8] at h9; exact h9) c_self rfl k_457 k_1 k_454 k_456 s_14 hd_X2_putIntoPurse ⟨Nat.le_of_ble_eq_true rfl, Nat.le_of_ble_eq_true rfl⟩ ⟨Nat.le_of_ble_eq_true rfl, Nat.le_of_ble_eq_true rfl⟩ (Nat.le_of_ble_eq_true rfl) dX2_lend_106 (fun _ => ?_)
                refine c_then0 (B' := mU (mU (mU (cB A) 13 t lr) 12 t z) 2 ow ((mU (mU (cB A) 13 t lr) 12 t z) 2 ow + z)) (L' := L) (T' := T) ?_
                have hz : 0 < z := by
                  have := hR.2.1
                  rw [Int32.lt_iff_toInt_lt]
                  rw [Int32.le_iff_toInt_le] at this
                  have h1 : ((1 : Int32)).toInt = 1 := by decide
                  have h0 : ((0 : Int32)).toInt = 0 := by decide
                  omega
                have hlo : A 12 t = 0 := (hI.2.2.2.2.2.1 t htn).elim id (fun y => absurd y.1 (q46.eq c49))
                have h14 : A 14 t = -1 := hI.2.2.2.2.2.2.1 t htn hlo
                have hce : cEq n (mU (mU (mU (cB A) 13 t lr) 12 t z) 2 ow ((mU (mU (cB A) 13 t lr) 12 t z) 2 ow + z)) (cB (bLend (mU A 19 0 0) t lr z)) := by
                  unfold bLend
                  rw [show mU A 19 0 0 6 t = nI ow from how, ixn (by omega)]
                  refine ⟨?_, ?_, ⟨?_, ?_, ?_⟩, fun i hi => ⟨?_, ?_, ?_, ?_, ?_, ?_, ?_, ?_, ?_, ?_⟩⟩
                  all_goals first | rfl | (simp [mU, cB]; done) | (by_cases e : i = t <;> simp [mU, cB, e, hz, h14])
                refine x_ends ?_
                refine x_vret Γ rfl (fun w2 e2 => ?_) ⟨Nat.le_of_ble_eq_true rfl, Nat.le_of_ble_eq_true rfl⟩ dX2_lend_109
                unfold gLend
                rw [fin_ok hk, ixn ht]
                exact ⟨hk, ⟨T, hT.same rfl rfl, e2.1.congr hce⟩, e2.2⟩
              · have hk : kLend A (nI t) lr z = 3 := by
                  unfold kLend
                  rw [if_neg (not_not_intro hT1), if_neg (not_not_intro hR), ixn ht]
                  exact if_pos (Or.inr (Or.inr (Or.inr (Int32.not_le.mp c79))))
                exact x_throw Γ hfl (by decide) k_221 k_13 (show (130, "the lender is its owner, or the sum is too high") ∈ xStr by simp [xStr]) at_ISE dX2_lend_82 dX2_lend_85 dX2_lend_86 dX2_lend_88 dX2_lend_91 hout ⟨Nat.le_of_ble_eq_true rfl, Nat.le_of_ble_eq_true rfl⟩ ⟨Nat.le_of_ble_eq_true rfl, Nat.le_of_ble_eq_true rfl⟩ (fun w9 h9 => ⟨Or.inr (Or.inr (⟨rfl, hk⟩)), h9⟩) ⟨Nat.le_of_ble_eq_true rfl, Nat.le_of_ble_eq_true rfl⟩
          · have hk : kLend A (nI t) lr z = 3 := by
              unfold kLend
              rw [if_neg (not_not_intro hT1), if_neg (not_not_intro hR), ixn ht]
              exact if_pos (Or.inr (Or.inr (Or.inl (q46.ne c49))))
            exact x_throw Γ hfl (by decide) k_221 k_13 (show (96, "it is not at a counter, or has a loan") ∈ xStr by simp [xStr]) at_ISE dX2_lend_52 dX2_lend_55 dX2_lend_56 dX2_lend_58 dX2_lend_61 hout ⟨Nat.le_of_ble_eq_true rfl, Nat.le_of_ble_eq_true rfl⟩ ⟨Nat.le_of_ble_eq_true rfl, Nat.le_of_ble_eq_true rfl⟩ (fun w9 h9 => ⟨Or.inr (Or.inr (⟨rfl, hk⟩)), h9⟩) ⟨Nat.le_of_ble_eq_true rfl, Nat.le_of_ble_eq_true rfl⟩
      · have hk : kLend A (nI t) lr z = 2 := by
          unfold kLend
          rw [if_neg (not_not_intro hT1), if_pos (fun y => c23 y.2.2)]
        exact x_throw Γ hfl (by decide) k_110 k_10 (show (125, "lender or sum is out of range") ∈ xStr by simp [xStr]) at_IAE dX2_lend_26 dX2_lend_29 dX2_lend_30 dX2_lend_32 dX2_lend_35 hout ⟨Nat.le_of_ble_eq_true rfl, Nat.le_of_ble_eq_true rfl⟩ ⟨Nat.le_of_ble_eq_true rfl, Nat.le_of_ble_eq_true rfl⟩ (fun w9 h9 => ⟨Or.inr (Or.inl (⟨rfl, hk⟩)), h9⟩) ⟨Nat.le_of_ble_eq_true rfl, Nat.le_of_ble_eq_true rfl⟩
set_option maxRecDepth 100000 in
theorem tc_pass {ca th : Nat → Nat} {A : xS} {n : Nat} {L : List Nat} {T : Nat → xTg} {w : xW} (h : CRaw G w ca th (cB A) n L T) (hfl : l.stackTraces = false) {v : Int32} {D : Nat} (hI : pI A n L) (hT : tgI A n D T) (hD : A 4 0 = nI D) (hD1 : D ≤ 1000) (hC : calI A n) : xMetX l G yX2_pass cX2_pass 4 (some .int) ({ frames := 8, cells := 60, slots := 400, locals := 320 } : Room) [.ref (ca 0), .int v] w embI (fun r w' => (kPass A v = 0 ∧ r = (gPass A L v).1) ∧ cQ G ca th (gPass A L v).2.1 n (gPass A L v).2.2 (D + ix v) w w') (fun E w' => ((E = "java/lang/IllegalArgumentException" ∧ kPass A v = 1) ∨ (E = "java/lang/IllegalStateException" ∧ kPass A v = 2)) ∧ cP G ca th (cB A) n L T w w') := by
  refine xMetX_of (by decide) (Nat.le_of_ble_eq_true rfl) ?_
  intro p e s m below meth c Γ hout
  have hn := hI.1.2.1
  have hn5 := hI.1.1
  have hlL : L.length ≤ 24 := Nat.le_trans hI.2.1.1 hn
  have hL : ∀ q ∈ L, q < n := fun q hq => (hI.2.1.2.2 q hq).1
  refine c_in h ?_
  refine x_iload_n Γ dX2_pass_0 rfl rfl ?_
  refine x_iconst (v := 1) Γ dX2_pass_1 (by decide) ?_
  refine x_icmp_lt (tgt := 11) Γ dX2_pass_2 (by decide) (fun c2 => ?_) (fun c2 => ?_)
  · have hk : kPass A v = 1 := by
      unfold kPass
      exact if_pos (fun y => absurd c2 (Int32.not_lt.mpr y.1))
    exact x_throw Γ hfl (by decide) k_110 k_10 (show (158, "days is out of range") ∈ xStr by simp [xStr]) at_IAE dX2_pass_11 dX2_pass_14 dX2_pass_15 dX2_pass_17 dX2_pass_20 hout ⟨Nat.le_of_ble_eq_true rfl, Nat.le_of_ble_eq_true rfl⟩ ⟨Nat.le_of_ble_eq_true rfl, Nat.le_of_ble_eq_true rfl⟩ (fun w9 h9 => ⟨Or.inl (⟨rfl, hk⟩), h9⟩) ⟨Nat.le_of_ble_eq_true rfl, Nat.le_of_ble_eq_true rfl⟩
  · refine x_iload_n Γ dX2_pass_5 rfl rfl ?_
    refine x_bipush (v := 40) Γ dX2_pass_6 (by decide) ?_
    refine x_icmp_le (tgt := 21) Γ dX2_pass_8 (by decide) (fun c8 => ?_) (fun c8 => ?_)
    · have hR : rIn 1 40 v := ⟨Int32.not_lt.mp c2, c8⟩
      refine x_aload_n Γ dX2_pass_21 rfl rfl ?_
      refine c_this Γ 5 rfl (by decide) k_63 rfl dX2_pass_22 ?_
      refine x_iload_n Γ dX2_pass_25 rfl rfl ?_
      refine x_iadd Γ dX2_pass_26 ?_
      refine x_sipush (v := 1000) Γ dX2_pass_27 (by decide) ?_
      refine x_icmp_le (tgt := 43) Γ dX2_pass_30 (by decide) (fun c30 => ?_) (fun c30 => ?_)
      · have hk : kPass A v = 0 := by
          unfold kPass
          rw [if_neg (not_not_intro hR)]
          exact if_neg (Int32.not_lt.mpr c30)
        obtain ⟨dd, hdd, rfl⟩ : ∃ dd, dd ≤ 40 ∧ v = nI dd := rIn_nat (M := 40) (n := 40) (by decide) ⟨Int32.le_trans (by decide) hR.1, hR.2⟩
        have hsum : D + dd ≤ 1000 := by
          have h9 : A 4 0 + nI dd ≤ 1000 := c30
          rw [hD, nI_add] at h9
          exact (nI_leI (b := 1000) (by omega) (by omega)).mp h9
        refine x_ends ?_
        have hphi : phi A n L ≤ 48 := by
          have := atC_le A n
          unfold phi
          omega
        have hds : ∀ k, k ≤ dd → pI (fDays n k (0, mU A 19 0 0, L)).2.1 n (fDays n k (0, mU A 19 0 0, L)).2.2 ∧ calI (fDays n k (0, mU A 19 0 0, L)).2.1 n ∧ (fDays n k (0, mU A 19 0 0, L)).2.1 4 0 = nI (D + k) ∧ phv n (fDays n k (0, mU A 19 0 0, L)) ≤ phi A n L := by
          intro k
          induction k with
          | zero =>
            intro _
            refine ⟨hI, hC, hD, ?_⟩
            show phi (mU A 19 0 0) n L ≤ phi A n L
            unfold phi
            rw [atC_same (A := A) (A' := mU A 19 0 0) (fun i => Iff.rfl)]
            exact Nat.le_refl _
          | succ k ih =>
            intro hk2
            obtain ⟨i1, i2, i3, i4⟩ := ih (by omega)
            obtain ⟨-, -, -, -, j5⟩ := fDay_P i1 i2 i3 (by omega)
            obtain ⟨j1, j2, j3, j4⟩ := j5 _ rfl
            exact ⟨j1, j2, j3, Nat.le_trans j4 i4⟩
        have lp : ∀ d2 k T, k + d2 = dd → tgI (fDays n k (0, mU A 19 0 0, L)).2.1 n (D + k) T → xJ p l e ({ frames := 8, cells := 60, slots := 400, locals := 320 } : Room) s m ([.ref (ca 0), .int (nI dd)] : List Value).toArray below meth c G 4 (MQ below (xQ G embI (fun r w' => (kPass A (nI dd) = 0 ∧ r = (gPass A L (nI dd)).1) ∧ cQ G ca th (gPass A L (nI dd)).2.1 n (gPass A L (nI dd)).2.2 (D + ix (nI dd)) w w')) ([.ref (ca 0), .int (nI dd)] : List Value).toArray s 60 400 (xA G)) (cP G ca th (cB (fDays n k (0, mU A 19 0 0, L)).2.1) n (fDays n k (0, mU A 19 0 0, L)).2.2 T w) (phi A n L - phv n (fDays n k (0, mU A 19 0 0, L))) (3 * (phi A n L - phv n (fDays n k (0, mU A 19 0 0, L)))) 47 [(0, .ref (ca 0)), (1, .int (nI dd)), (2, .int (fDays n k (0, mU A 19 0 0, L)).1), (3, .int (nI k))] [] := by
          intro d2
          induction d2 with
          | zero =>
            intro k T hk2 hTk
            refine x_iload_n Γ dX2_pass_47 rfl rfl ?_
            refine x_iload_n Γ dX2_pass_48 rfl rfl ?_
            refine x_icmp_ge (tgt := 65) Γ dX2_pass_49 (by decide) (fun c49 => ?_) (fun c49 => absurd (nI_le (by omega) (by omega)) c49)
            refine x_iload_n Γ dX2_pass_65 rfl rfl ?_
            refine x_iret Γ rfl rfl (fun w2 e2 => ?_) ⟨by show (phi A n L - phv n (fDays n k (0, mU A 19 0 0, L))) ≤ 60; omega, by show 3 * (phi A n L - phv n (fDays n k (0, mU A 19 0 0, L))) ≤ 400; omega⟩ dX2_pass_66
            unfold gPass
            rw [fin_ok hk, hn5, ixn2 (t := n) (by omega), ixn2 (t := dd) (by omega), show dd = k by omega]
            exact ⟨⟨by rw [show k = dd by omega]; exact hk, rfl⟩, ⟨T, hTk, e2.1⟩, e2.2⟩
          | succ d2 ih =>
            intro k T hk2 hTk
            obtain ⟨i1, i2, i3, i4⟩ := hds k (by omega)
            obtain ⟨j1, j2, j3, j4⟩ := hds (k + 1) (by omega)
            have hst : phv n (fDays n (k + 1) (0, mU A 19 0 0, L)) = phv n (fDay n (0, (fDays n k (0, mU A 19 0 0, L)).2)) := rfl
            obtain ⟨-, -, -, -, j5⟩ := fDay_P i1 i2 i3 (by omega)
            have hle : phv n (fDay n (0, (fDays n k (0, mU A 19 0 0, L)).2)) ≤ phv n (fDays n k (0, mU A 19 0 0, L)) := (j5 _ rfl).2.2.2
            obtain ⟨kb, hkb⟩ : ∃ kb, kb = phv n (fDays n k (0, mU A 19 0 0, L)) - phv n (fDay n (0, (fDays n k (0, mU A 19 0 0, L)).2)) := ⟨_, rfl⟩
            refine x_iload_n Γ dX2_pass_47 rfl rfl ?_
            refine x_iload_n Γ dX2_pass_48 rfl rfl ?_
            refine x_icmp_ge (tgt := 65) Γ dX2_pass_49 (by decide) (fun c49 => absurd c49 (nI_ge (by omega) (by omega))) (fun c49 => ?_)
            refine x_iload_n Γ dX2_pass_52 rfl rfl ?_
            refine x_aload_n Γ dX2_pass_53 rfl rfl ?_
            refine x_invV (emb := embI) (ci := 3) (rm := ({ frames := 7, cells := kb, slots := 3 * kb, locals := 270 } : Room)) Γ [] (fun w1 r w2 => r = (fDay n (0, (fDays n k (0, mU A 19 0 0, L)).2)).1 ∧ cQ G ca th (fDay n (0, (fDays n k (0, mU A 19 0 0, L)).2)).2.1 n (fDay n (0, (fDays n k (0, mU A 19 0 0, L)).2)).2.2 (D + k + 1) w1 w2) rfl (fun w1 h1 => t_cendDay h1.1 i1 hTk i3 (by omega) i2 (by show phv n (fDays n k (0, mU A 19 0 0, L)) ≤ phv n (fDay n (0, (fDays n k (0, mU A 19 0 0, L)).2)) + kb; omega)) c_self rfl k_494 k_1 k_491 k_493 s_17 hd_X2_endDay ⟨Nat.le_of_ble_eq_true rfl, Nat.le_of_ble_eq_true rfl⟩ ⟨by show (phi A n L - phv n (fDays n k (0, mU A 19 0 0, L))) + kb ≤ 60; omega, by show 3 * (phi A n L - phv n (fDays n k (0, mU A 19 0 0, L))) + 3 * kb ≤ 400; omega⟩ (Nat.le_of_ble_eq_true rfl) dX2_pass_54 (fun r => ?_)
            refine c_thenQ1 (A' := (fDay n (0, (fDays n k (0, mU A 19 0 0, L)).2)).2.1) (L' := (fDay n (0, (fDays n k (0, mU A 19 0 0, L)).2)).2.2) (D := D + k + 1) (fun e9 T' hT' => ?_)
            rw [e9]
            refine x_iadd Γ dX2_pass_57 ?_
            refine x_istore_n Γ dX2_pass_58 rfl rfl (by decide) ?_
            refine x_iinc (v := _ + 1) Γ dX2_pass_59 rfl rfl rfl (by decide) ?_
            rw [nI_1]
            refine x_goto (tgt := 47) Γ dX2_pass_62 (by decide) ?_
            refine x_lv [0, 1, 2, 3] rfl ?_
            refine x_wide (k' := phi A n L - phv n (fDay n (0, (fDays n k (0, mU A 19 0 0, L)).2))) (n' := 3 * (phi A n L - phv n (fDay n (0, (fDays n k (0, mU A 19 0 0, L)).2)))) (by show (phi A n L - phv n (fDays n k (0, mU A 19 0 0, L))) + kb ≤ _; omega) (by show 3 * (phi A n L - phv n (fDays n k (0, mU A 19 0 0, L))) + 3 * kb ≤ _; omega) ?_
            exact ih (k + 1) T' (by omega) hT'
        refine x_iconst (v := 0) Γ dX2_pass_43 (by decide) ?_
        refine x_istore_n Γ dX2_pass_44 rfl rfl (by decide) ?_
        refine x_iconst (v := 0) Γ dX2_pass_45 (by decide) ?_
        refine x_istore_n Γ dX2_pass_46 rfl rfl (by decide) ?_
        refine x_lv [0, 1, 2, 3] rfl ?_
        refine x_wide (k' := phi A n L - phv n (fDays n 0 (0, mU A 19 0 0, L))) (n' := 3 * (phi A n L - phv n (fDays n 0 (0, mU A 19 0 0, L)))) (Nat.zero_le _) (Nat.zero_le _) ?_
        refine x_weak (P' := cP G ca th (cB (mU A 19 0 0)) n L T w) (fun w1 h1 => ⟨h1.1.congr (cEq_thr A n 0), h1.2⟩) ?_
        exact lp dd 0 T (by omega) (hT.same rfl rfl)
      · have hk : kPass A v = 2 := by
          unfold kPass
          rw [if_neg (not_not_intro hR)]
          exact if_pos (Int32.not_le.mp c30)
        exact x_throw Γ hfl (by decide) k_221 k_13 (show (160, "the day would be above the last one") ∈ xStr by simp [xStr]) at_ISE dX2_pass_33 dX2_pass_36 dX2_pass_37 dX2_pass_39 dX2_pass_42 hout ⟨Nat.le_of_ble_eq_true rfl, Nat.le_of_ble_eq_true rfl⟩ ⟨Nat.le_of_ble_eq_true rfl, Nat.le_of_ble_eq_true rfl⟩ (fun w9 h9 => ⟨Or.inr (⟨rfl, hk⟩), h9⟩) ⟨Nat.le_of_ble_eq_true rfl, Nat.le_of_ble_eq_true rfl⟩
    · have hk : kPass A v = 1 := by
        unfold kPass
        exact if_pos (fun y => c8 y.2)
      exact x_throw Γ hfl (by decide) k_110 k_10 (show (158, "days is out of range") ∈ xStr by simp [xStr]) at_IAE dX2_pass_11 dX2_pass_14 dX2_pass_15 dX2_pass_17 dX2_pass_20 hout ⟨Nat.le_of_ble_eq_true rfl, Nat.le_of_ble_eq_true rfl⟩ ⟨Nat.le_of_ble_eq_true rfl, Nat.le_of_ble_eq_true rfl⟩ (fun w9 h9 => ⟨Or.inl (⟨rfl, hk⟩), h9⟩) ⟨Nat.le_of_ble_eq_true rfl, Nat.le_of_ble_eq_true rfl⟩
end XC8

section XM3
variable {l : Launch} {G : xG}
set_option maxRecDepth 100000 in
theorem t_in {w : xW} {x a b : Int32} : xMet l G yX3_in cX3_in 3 (some .boolean) ({ frames := 0, cells := 0, slots := 0, locals := 0 } : Room) [.int x, .int a, .int b] w embI (fun r w' => bq (rIn a b x) r ∧ w' = w) := by
  refine xMet_of (by decide) (Nat.le_of_ble_eq_true rfl) ?_
  intro p e s m below meth c Γ hnm
  refine x_iload_n Γ dX3_in_0 rfl rfl ?_
  refine x_iload_n Γ dX3_in_1 rfl rfl ?_
  refine x_icmp_lt (tgt := 14) Γ dX3_in_2 (by decide) (fun c2 => ?_) (fun c2 => ?_)
  · refine x_iconst (v := 0) Γ dX3_in_14 (by decide) ?_
    exact x_iret Γ rfl rfl (fun w2 e2 => ⟨Or.inr ⟨fun z => absurd c2 (Int32.not_lt.mpr z.1), rfl⟩, e2⟩) ⟨Nat.le_of_ble_eq_true rfl, Nat.le_of_ble_eq_true rfl⟩ dX3_in_15
  · refine x_iload_n Γ dX3_in_5 rfl rfl ?_
    refine x_iload_n Γ dX3_in_6 rfl rfl ?_
    refine x_icmp_gt (tgt := 14) Γ dX3_in_7 (by decide) (fun c7 => ?_) (fun c7 => ?_)
    · refine x_iconst (v := 0) Γ dX3_in_14 (by decide) ?_
      exact x_iret Γ rfl rfl (fun w2 e2 => ⟨Or.inr ⟨fun z => absurd c7 (Int32.not_lt.mpr z.2), rfl⟩, e2⟩) ⟨Nat.le_of_ble_eq_true rfl, Nat.le_of_ble_eq_true rfl⟩ dX3_in_15
    · refine x_iconst (v := 1) Γ dX3_in_10 (by decide) ?_
      refine x_goto (tgt := 15) Γ dX3_in_11 (by decide) ?_
      exact x_iret Γ rfl rfl (fun w2 e2 => ⟨Or.inl ⟨⟨Int32.not_lt.mp c2, Int32.not_lt.mp c7⟩, rfl⟩, e2⟩) ⟨Nat.le_of_ble_eq_true rfl, Nat.le_of_ble_eq_true rfl⟩ dX3_in_15
set_option maxRecDepth 100000 in
theorem t_isCounter {w : xW} {x : Int32} : xMet l G yX3_isCounter cX3_isCounter 1 (some .boolean) ({ frames := 1, cells := 0, slots := 0, locals := 40 } : Room) [.int x] w embI (fun r w' => bq (rIn 0 4 x) r ∧ w' = w) := by
  refine xMet_of (by decide) (Nat.le_of_ble_eq_true rfl) ?_
  intro p e s m below meth c Γ hnm
  refine x_iload_n Γ dX3_isCounter_0 rfl rfl ?_
  refine x_iconst (v := 0) Γ dX3_isCounter_1 (by decide) ?_
  refine x_iconst (v := 4) Γ dX3_isCounter_2 (by decide) ?_
  refine x_invS (emb := embI) (rm := ({ frames := 0, cells := 0, slots := 0, locals := 0 } : Room)) Γ [.int (x), .int (0), .int (4)] (fun w1 r w2 => bq (rIn (0) (4) (x)) r ∧ w2 = w1) rfl (fun w1 h1 => t_in) k_652 k_6 k_650 k_651 hd_X3_in ⟨Nat.le_of_ble_eq_true rfl, Nat.le_of_ble_eq_true rfl⟩ ⟨Nat.le_of_ble_eq_true rfl, Nat.le_of_ble_eq_true rfl⟩ (Nat.le_of_ble_eq_true rfl) dX3_isCounter_3 (fun r => ?_)
  refine m_same (fun q => ?_)
  exact x_iret Γ rfl q.nr (fun w2 e2 => ⟨q, e2⟩) ⟨Nat.le_of_ble_eq_true rfl, Nat.le_of_ble_eq_true rfl⟩ dX3_isCounter_6
set_option maxRecDepth 100000 in
theorem t_isFine {o : Nat} {ad : Nat → Nat} {A : xS} {L : List Nat} {w : xW} (h : MRep G w o ad A L) {x : Int32} : xMet l G yX3_isFine cX3_isFine 2 (some .boolean) ({ frames := 0, cells := 0, slots := 0, locals := 0 } : Room) [.ref o, .int x] w embI (fun r w' => bq (x = 0) r ∧ mP G o ad (mU A 19 0 x) L w w') := by
  refine xMet_of (by decide) (Nat.le_of_ble_eq_true rfl) ?_
  intro p e s m below meth c Γ hnm
  refine m_in h ?_
  refine x_aload_n Γ dX3_isFine_0 rfl rfl ?_
  refine x_iload_n Γ dX3_isFine_1 rfl rfl ?_
  refine m_puti Γ 19 (by decide) (by decide) (fun _ => rfl) k_597 rfl rfl rfl dX3_isFine_2 ?_
  refine x_iload_n Γ dX3_isFine_5 rfl rfl ?_
  refine x_if_ne (tgt := 13) Γ dX3_isFine_6 (by decide) (fun c6 => ?_) (fun c6 => ?_)
  · refine x_iconst (v := 0) Γ dX3_isFine_13 (by decide) ?_
    exact x_iret Γ rfl rfl (fun w2 e2 => ⟨Or.inr ⟨c6, rfl⟩, e2⟩) ⟨Nat.le_of_ble_eq_true rfl, Nat.le_of_ble_eq_true rfl⟩ dX3_isFine_14
  · refine x_iconst (v := 1) Γ dX3_isFine_9 (by decide) ?_
    refine x_goto (tgt := 14) Γ dX3_isFine_10 (by decide) ?_
    exact x_iret Γ rfl rfl (fun w2 e2 => ⟨Or.inl ⟨c6, rfl⟩, e2⟩) ⟨Nat.le_of_ble_eq_true rfl, Nat.le_of_ble_eq_true rfl⟩ dX3_isFine_14
set_option maxRecDepth 100000 in
theorem t_isThing {o : Nat} {ad : Nat → Nat} {A : xS} {L : List Nat} {w : xW} (h : MRep G w o ad A L) {x : Int32} : xMet l G yX3_isThing cX3_isThing 2 (some .boolean) ({ frames := 1, cells := 0, slots := 0, locals := 40 } : Room) [.ref o, .int x] w embI (fun r w' => bq (kT A x) r ∧ mP G o ad A L w w') := by
  refine xMet_of (by decide) (Nat.le_of_ble_eq_true rfl) ?_
  intro p e s m below meth c Γ hnm
  refine m_in h ?_
  refine x_iload_n Γ dX3_isThing_0 rfl rfl ?_
  refine x_iconst (v := 0) Γ dX3_isThing_1 (by decide) ?_
  refine x_aload_n Γ dX3_isThing_2 rfl rfl ?_
  refine m_geti Γ 5 (by decide) (by decide) (fun _ => rfl) k_583 rfl dX3_isThing_3 ?_
  refine x_iconst (v := 1) Γ dX3_isThing_6 (by decide) ?_
  refine x_isub Γ dX3_isThing_7 ?_
  refine x_invS (emb := embI) (rm := ({ frames := 0, cells := 0, slots := 0, locals := 0 } : Room)) Γ [.int (x), .int (0), .int (A 5 0 - 1)] (fun w1 r w2 => bq (rIn (0) (A 5 0 - 1) (x)) r ∧ w2 = w1) rfl (fun w1 h1 => t_in) k_652 k_6 k_650 k_651 hd_X3_in ⟨Nat.le_of_ble_eq_true rfl, Nat.le_of_ble_eq_true rfl⟩ ⟨Nat.le_of_ble_eq_true rfl, Nat.le_of_ble_eq_true rfl⟩ (Nat.le_of_ble_eq_true rfl) dX3_isThing_8 (fun r => ?_)
  refine m_same (fun q => ?_)
  exact x_iret Γ rfl q.nr (fun w2 e2 => ⟨q, e2⟩) ⟨Nat.le_of_ble_eq_true rfl, Nat.le_of_ble_eq_true rfl⟩ dX3_isThing_11
set_option maxRecDepth 100000 in
theorem t_isAt {o : Nat} {ad : Nat → Nat} {A : xS} {L : List Nat} {w : xW} (h : MRep G w o ad A L) {t : Nat} (ht : t < 24) : xMet l G yX3_isAt cX3_isAt 2 (some .boolean) ({ frames := 0, cells := 0, slots := 0, locals := 0 } : Room) [.ref o, .int (nI t)] w embI (fun r w' => bq (A 9 t < 5) r ∧ mP G o ad A L w w') := by
  refine xMet_of (by decide) (Nat.le_of_ble_eq_true rfl) ?_
  intro p e s m below meth c Γ hnm
  refine m_in h ?_
  refine x_aload_n Γ dX3_isAt_0 rfl rfl ?_
  refine m_geta Γ 9 (by decide) (fun _ => rfl) k_587 rfl dX3_isAt_1 ?_
  refine x_iload_n Γ dX3_isAt_4 rfl rfl ?_
  refine m_ald Γ rfl rfl (by decide) (by show _ < 24; omega) dX3_isAt_5 ?_
  refine x_iconst (v := 5) Γ dX3_isAt_6 (by decide) ?_
  refine x_icmp_ge (tgt := 14) Γ dX3_isAt_7 (by decide) (fun c7 => ?_) (fun c7 => ?_)
  · refine x_iconst (v := 0) Γ dX3_isAt_14 (by decide) ?_
    exact x_iret Γ rfl rfl (fun w2 e2 => ⟨Or.inr ⟨Int32.not_lt.mpr c7, rfl⟩, e2⟩) ⟨Nat.le_of_ble_eq_true rfl, Nat.le_of_ble_eq_true rfl⟩ dX3_isAt_15
  · refine x_iconst (v := 1) Γ dX3_isAt_10 (by decide) ?_
    refine x_goto (tgt := 15) Γ dX3_isAt_11 (by decide) ?_
    exact x_iret Γ rfl rfl (fun w2 e2 => ⟨Or.inl ⟨Int32.not_le.mp c7, rfl⟩, e2⟩) ⟨Nat.le_of_ble_eq_true rfl, Nat.le_of_ble_eq_true rfl⟩ dX3_isAt_15
set_option maxRecDepth 100000 in
theorem t_thrown {o : Nat} {ad : Nat → Nat} {A : xS} {L : List Nat} {w : xW} (h : MRep G w o ad A L) : xMet l G yX3_thrown cX3_thrown 1 (some .int) ({ frames := 0, cells := 0, slots := 0, locals := 0 } : Room) [.ref o] w embI (fun r w' => r = A 19 0 ∧ mP G o ad A L w w') := by
  refine xMet_of (by decide) (Nat.le_of_ble_eq_true rfl) ?_
  intro p e s m below meth c Γ hnm
  refine m_in h ?_
  refine x_aload_n Γ dX3_thrown_0 rfl rfl ?_
  refine m_geti Γ 19 (by decide) (by decide) (fun _ => rfl) k_597 rfl dX3_thrown_1 ?_
  exact x_iret Γ rfl rfl (fun w2 e2 => ⟨rfl, e2⟩) ⟨Nat.le_of_ble_eq_true rfl, Nat.le_of_ble_eq_true rfl⟩ dX3_thrown_4
set_option maxRecDepth 100000 in
theorem tm_day {o : Nat} {ad : Nat → Nat} {A : xS} {L : List Nat} {w : xW} (h : MRep G w o ad A L) : xMet l G yX3_day cX3_day 1 (some .int) ({ frames := 0, cells := 0, slots := 0, locals := 0 } : Room) [.ref o] w embI (fun r w' => r = (g0 4 A L).1 ∧ mP G o ad (g0 4 A L).2.1 (g0 4 A L).2.2 w w') := by
  refine xMet_of (by decide) (Nat.le_of_ble_eq_true rfl) ?_
  intro p e s m below meth c Γ hnm
  refine m_in h ?_
  refine x_aload_n Γ dX3_day_0 rfl rfl ?_
  refine x_iconst (v := 0) Γ dX3_day_1 (by decide) ?_
  refine m_puti Γ 19 (by decide) (by decide) (fun _ => rfl) k_597 rfl rfl rfl dX3_day_2 ?_
  refine x_aload_n Γ dX3_day_5 rfl rfl ?_
  refine m_geti Γ 4 (by decide) (by decide) (fun _ => rfl) k_582 rfl dX3_day_6 ?_
  exact x_iret Γ rfl rfl (fun w2 e2 => ⟨rfl, e2⟩) ⟨Nat.le_of_ble_eq_true rfl, Nat.le_of_ble_eq_true rfl⟩ dX3_day_9
set_option maxRecDepth 100000 in
theorem tm_things {o : Nat} {ad : Nat → Nat} {A : xS} {L : List Nat} {w : xW} (h : MRep G w o ad A L) : xMet l G yX3_things cX3_things 1 (some .int) ({ frames := 0, cells := 0, slots := 0, locals := 0 } : Room) [.ref o] w embI (fun r w' => r = (g0 5 A L).1 ∧ mP G o ad (g0 5 A L).2.1 (g0 5 A L).2.2 w w') := by
  refine xMet_of (by decide) (Nat.le_of_ble_eq_true rfl) ?_
  intro p e s m below meth c Γ hnm
  refine m_in h ?_
  refine x_aload_n Γ dX3_things_0 rfl rfl ?_
  refine x_iconst (v := 0) Γ dX3_things_1 (by decide) ?_
  refine m_puti Γ 19 (by decide) (by decide) (fun _ => rfl) k_597 rfl rfl rfl dX3_things_2 ?_
  refine x_aload_n Γ dX3_things_5 rfl rfl ?_
  refine m_geti Γ 5 (by decide) (by decide) (fun _ => rfl) k_583 rfl dX3_things_6 ?_
  exact x_iret Γ rfl rfl (fun w2 e2 => ⟨rfl, e2⟩) ⟨Nat.le_of_ble_eq_true rfl, Nat.le_of_ble_eq_true rfl⟩ dX3_things_9
set_option maxRecDepth 100000 in
theorem tm_taken {o : Nat} {ad : Nat → Nat} {A : xS} {L : List Nat} {w : xW} (h : MRep G w o ad A L) : xMet l G yX3_taken cX3_taken 1 (some .int) ({ frames := 0, cells := 0, slots := 0, locals := 0 } : Room) [.ref o] w embI (fun r w' => r = (g0 3 A L).1 ∧ mP G o ad (g0 3 A L).2.1 (g0 3 A L).2.2 w w') := by
  refine xMet_of (by decide) (Nat.le_of_ble_eq_true rfl) ?_
  intro p e s m below meth c Γ hnm
  refine m_in h ?_
  refine x_aload_n Γ dX3_taken_0 rfl rfl ?_
  refine x_iconst (v := 0) Γ dX3_taken_1 (by decide) ?_
  refine m_puti Γ 19 (by decide) (by decide) (fun _ => rfl) k_597 rfl rfl rfl dX3_taken_2 ?_
  refine x_aload_n Γ dX3_taken_5 rfl rfl ?_
  refine m_geti Γ 3 (by decide) (by decide) (fun _ => rfl) k_581 rfl dX3_taken_6 ?_
  exact x_iret Γ rfl rfl (fun w2 e2 => ⟨rfl, e2⟩) ⟨Nat.le_of_ble_eq_true rfl, Nat.le_of_ble_eq_true rfl⟩ dX3_taken_9
set_option maxRecDepth 100000 in
theorem t_loadOf {o : Nat} {ad : Nat → Nat} {A : xS} {L : List Nat} {w : xW} (h : MRep G w o ad A L) {n : Nat} {x : Int32} (hI : aI A n) : xMet l G yX3_loadOf cX3_loadOf 4 (some .int) ({ frames := 0, cells := 0, slots := 0, locals := 0 } : Room) [.ref o, .int x] w embI (fun r w' => r = ldF A x n ∧ mP G o ad A L w w') := by
  refine xMet_of (by decide) (Nat.le_of_ble_eq_true rfl) ?_
  intro p e s m below meth c Γ hnm
  have hn := hI.1
  have hn2 := hI.2.1
  refine m_in h ?_
  have loop : ∀ d t, t + d = n → xJ p l e ({ frames := 0, cells := 0, slots := 0, locals := 0 } : Room) s m ([.ref o, .int x] : List Value).toArray below meth c G 4 (MQ below (xQ G embI (fun r w' => r = ldF A x n ∧ mP G o ad A L w w')) ([.ref o, .int x] : List Value).toArray s ({ frames := 0, cells := 0, slots := 0, locals := 0 } : Room).cells ({ frames := 0, cells := 0, slots := 0, locals := 0 } : Room).slots (xA G)) (mP G o ad A L w) 0 0 4 [(0, .ref o), (1, .int x), (2, .int (ldF A x t)), (3, .int (nI t))] [] := by
    intro d
    induction d with
    | zero =>
      intro t ht
      refine x_iload_n Γ dX3_loadOf_4 rfl rfl ?_
      refine x_aload_n Γ dX3_loadOf_5 rfl rfl ?_
      refine m_geti Γ 5 (by decide) (by decide) (fun _ => rfl) k_583 rfl dX3_loadOf_6 ?_
      rw [hn]
      refine x_icmp_ge (tgt := 41) Γ dX3_loadOf_9 (by decide) (fun c9 => ?_) (fun c9 => absurd (nI_le (by omega) (by omega)) c9)
      refine x_iload_n Γ dX3_loadOf_41 rfl rfl ?_
      exact x_iret Γ rfl rfl (fun w2 e2 => ⟨by rw [show t = n by omega], e2⟩) ⟨Nat.le_of_ble_eq_true rfl, Nat.le_of_ble_eq_true rfl⟩ dX3_loadOf_42
    | succ d ih =>
      intro t ht
      have h24 : t < 24 := by omega
      have hend : ∀ v, ldF A x t + v = ldF A x (t + 1) → xJ p l e ({ frames := 0, cells := 0, slots := 0, locals := 0 } : Room) s m ([.ref o, .int x] : List Value).toArray below meth c G 4 (MQ below (xQ G embI (fun r w' => r = ldF A x n ∧ mP G o ad A L w w')) ([.ref o, .int x] : List Value).toArray s ({ frames := 0, cells := 0, slots := 0, locals := 0 } : Room).cells ({ frames := 0, cells := 0, slots := 0, locals := 0 } : Room).slots (xA G)) (mP G o ad A L w) 0 0 33 [(0, .ref o), (1, .int x), (2, .int (ldF A x t)), (3, .int (nI t))] [.int v, .int (ldF A x t)] := by
        intro v hv
        refine x_iadd Γ dX3_loadOf_33 ?_
        rw [hv]
        refine x_istore_n Γ dX3_loadOf_34 rfl rfl (by decide) ?_
        refine x_iinc (v := _ + 1) Γ dX3_loadOf_35 rfl rfl rfl (by decide) ?_
        rw [nI_1]
        refine x_goto (tgt := 4) Γ dX3_loadOf_38 (by decide) ?_
        refine x_lv [0, 1, 2, 3] rfl ?_
        exact ih (t + 1) (by omega)
      refine x_iload_n Γ dX3_loadOf_4 rfl rfl ?_
      refine x_aload_n Γ dX3_loadOf_5 rfl rfl ?_
      refine m_geti Γ 5 (by decide) (by decide) (fun _ => rfl) k_583 rfl dX3_loadOf_6 ?_
      rw [hn]
      refine x_icmp_ge (tgt := 41) Γ dX3_loadOf_9 (by decide) (fun c9 => absurd c9 (nI_ge (by omega) (by omega))) (fun c9 => ?_)
      refine x_iload_n Γ dX3_loadOf_12 rfl rfl ?_
      refine x_aload_n Γ dX3_loadOf_13 rfl rfl ?_
      refine m_geta Γ 9 (by decide) (fun _ => rfl) k_587 rfl dX3_loadOf_14 ?_
      refine x_iload_n Γ dX3_loadOf_17 rfl rfl ?_
      refine m_ald Γ rfl rfl (by decide) (by show _ < 24; omega) dX3_loadOf_18 ?_
      refine x_iload_n Γ dX3_loadOf_19 rfl rfl ?_
      refine x_icmp_ne (tgt := 32) Γ dX3_loadOf_20 (by decide) (fun c20 => ?_) (fun c20 => ?_)
      · refine x_iconst (v := 0) Γ dX3_loadOf_32 (by decide) ?_
        exact hend _ (by rw [ldF, if_neg c20])
      · refine x_aload_n Γ dX3_loadOf_23 rfl rfl ?_
        refine m_geta Γ 7 (by decide) (fun _ => rfl) k_585 rfl dX3_loadOf_24 ?_
        refine x_iload_n Γ dX3_loadOf_27 rfl rfl ?_
        refine m_ald Γ rfl rfl (by decide) (by show _ < 24; omega) dX3_loadOf_28 ?_
        refine x_goto (tgt := 33) Γ dX3_loadOf_29 (by decide) ?_
        exact hend _ (by rw [ldF, if_pos c20])
  refine x_iconst (v := 0) Γ dX3_loadOf_0 (by decide) ?_
  refine x_istore_n Γ dX3_loadOf_1 rfl rfl (by decide) ?_
  refine x_iconst (v := 0) Γ dX3_loadOf_2 (by decide) ?_
  refine x_istore_n Γ dX3_loadOf_3 rfl rfl (by decide) ?_
  refine x_lv [0, 1, 2, 3] rfl ?_
  exact loop n 0 (by omega)
end XM3

section XM5
variable {l : Launch} {G : xG}
set_option maxRecDepth 100000 in
theorem tm_setRoom {o : Nat} {ad : Nat → Nat} {A : xS} {L : List Nat} {w : xW} (h : MRep G w o ad A L) {n : Nat} {c0 r0 : Int32} (hI : aI A n)  : xMet l G yX3_setRoom cX3_setRoom 4 (some .int) ({ frames := 3, cells := 0, slots := 0, locals := 100 } : Room) [.ref o, .int c0, .int r0] w embI (fun r w' => r = (gSetRoom A L c0 r0).1 ∧ mP G o ad (gSetRoom A L c0 r0).2.1 (gSetRoom A L c0 r0).2.2 w w') := by
  refine xMet_of (by decide) (Nat.le_of_ble_eq_true rfl) ?_
  intro p e s m below meth c Γ hnm
  have hn := hI.1
  have hn2 := hI.2.1
  refine m_in h ?_
  have hE : ∀ k : Int32, ¬ k = 0 → kSetRoom c0 r0 = k → xJ p l e ({ frames := 3, cells := 0, slots := 0, locals := 100 } : Room) s m ([.ref o, .int c0, .int r0] : List Value).toArray below meth c G 4 (MQ below (xQ G embI (fun r w' => r = (gSetRoom A L c0 r0).1 ∧ mP G o ad (gSetRoom A L c0 r0).2.1 (gSetRoom A L c0 r0).2.2 w w')) ([.ref o, .int c0, .int r0] : List Value).toArray s ({ frames := 3, cells := 0, slots := 0, locals := 100 } : Room).cells ({ frames := 3, cells := 0, slots := 0, locals := 100 } : Room).slots (xA G)) (mP G o ad A L w) 0 0 23 [(0, .ref o), (1, .int c0), (2, .int r0)] [.int k, .ref o] := by
    intro k h0 hk
    refine x_invV (emb := embI) (ci := 4) (rm := ({ frames := 0, cells := 0, slots := 0, locals := 0 } : Room)) Γ [.int k] (fun w1 r w2 => bq (k = 0) r ∧ mP G o ad (mU (A) 19 0 k) (L) w1 w2) rfl (fun w1 h1 => t_isFine h1.1) m_obj rfl k_656 k_6 k_653 k_655 s_24 hd_X3_isFine ⟨Nat.le_of_ble_eq_true rfl, Nat.le_of_ble_eq_true rfl⟩ ⟨Nat.le_of_ble_eq_true rfl, Nat.le_of_ble_eq_true rfl⟩ (Nat.le_of_ble_eq_true rfl) dX3_setRoom_23 (fun r => ?_)
    refine m_then (A' := mU (A) 19 0 k) (L' := L) (fun q => ?_)
    refine x_if_ne (tgt := 31) Γ dX3_setRoom_26 (by decide) (fun c26 => absurd (q.zero h0) c26) (fun c26 => ?_)
    refine x_iconst (v := 0) Γ dX3_setRoom_29 (by decide) ?_
    refine x_iret Γ rfl rfl (fun w2 e2 => ?_) ⟨Nat.le_of_ble_eq_true rfl, Nat.le_of_ble_eq_true rfl⟩ dX3_setRoom_30
    unfold gSetRoom
    rw [fin_no hk h0]
    exact ⟨rfl, e2⟩
  refine x_aload_n Γ dX3_setRoom_0 rfl rfl ?_
  refine x_iload_n Γ dX3_setRoom_1 rfl rfl ?_
  refine x_invS (emb := embI) (rm := ({ frames := 1, cells := 0, slots := 0, locals := 40 } : Room)) Γ [.int (c0)] (fun w1 r w2 => bq (rIn 0 4 (c0)) r ∧ w2 = w1) rfl (fun w1 h1 => t_isCounter) k_649 k_6 k_647 k_648 hd_X3_isCounter ⟨Nat.le_of_ble_eq_true rfl, Nat.le_of_ble_eq_true rfl⟩ ⟨Nat.le_of_ble_eq_true rfl, Nat.le_of_ble_eq_true rfl⟩ (Nat.le_of_ble_eq_true rfl) dX3_setRoom_2 (fun r => ?_)
  refine m_same (fun q2 => ?_)
  refine x_if_eq (tgt := 22) Γ dX3_setRoom_5 (by decide) (fun c5 => ?_) (fun c5 => ?_)
  · have hk : kSetRoom c0 r0 = 1 := if_neg (fun z => by first | exact q2.eq c5 z.1 | exact q12.eq c15 z.2)
    refine x_iconst (v := 1) Γ dX3_setRoom_22 (by decide) ?_
    exact hE 1 (by decide) hk
  · refine x_iload_n Γ dX3_setRoom_8 rfl rfl ?_
    refine x_iconst (v := 0) Γ dX3_setRoom_9 (by decide) ?_
    refine x_bipush (v := 30) Γ dX3_setRoom_10 (by decide) ?_
    refine x_invS (emb := embI) (rm := ({ frames := 0, cells := 0, slots := 0, locals := 0 } : Room)) Γ [.int (r0), .int (0), .int (30)] (fun w1 r w2 => bq (rIn (0) (30) (r0)) r ∧ w2 = w1) rfl (fun w1 h1 => t_in) k_652 k_6 k_650 k_651 hd_X3_in ⟨Nat.le_of_ble_eq_true rfl, Nat.le_of_ble_eq_true rfl⟩ ⟨Nat.le_of_ble_eq_true rfl, Nat.le_of_ble_eq_true rfl⟩ (Nat.le_of_ble_eq_true rfl) dX3_setRoom_12 (fun r => ?_)
    refine m_same (fun q12 => ?_)
    refine x_if_eq (tgt := 22) Γ dX3_setRoom_15 (by decide) (fun c15 => ?_) (fun c15 => ?_)
    · have hk : kSetRoom c0 r0 = 1 := if_neg (fun z => by first | exact q2.eq c5 z.1 | exact q12.eq c15 z.2)
      refine x_iconst (v := 1) Γ dX3_setRoom_22 (by decide) ?_
      exact hE 1 (by decide) hk
    · have hk : kSetRoom c0 r0 = 0 := if_pos ⟨q2.ne c5, q12.ne c15⟩
      obtain ⟨i, hi, rfl⟩ := rIn_nat (M := 4) (n := 4) (by decide) (q2.ne c5)
      refine x_iconst (v := 0) Γ dX3_setRoom_18 (by decide) ?_
      refine x_goto (tgt := 23) Γ dX3_setRoom_19 (by decide) ?_
      refine x_invV (emb := embI) (ci := 4) (rm := ({ frames := 0, cells := 0, slots := 0, locals := 0 } : Room)) Γ [.int 0] (fun w1 r w2 => bq (0 = 0) r ∧ mP G o ad (mU (A) 19 0 0) (L) w1 w2) rfl (fun w1 h1 => t_isFine h1.1) m_obj rfl k_656 k_6 k_653 k_655 s_24 hd_X3_isFine ⟨Nat.le_of_ble_eq_true rfl, Nat.le_of_ble_eq_true rfl⟩ ⟨Nat.le_of_ble_eq_true rfl, Nat.le_of_ble_eq_true rfl⟩ (Nat.le_of_ble_eq_true rfl) dX3_setRoom_23 (fun r => ?_)
      refine m_then (A' := mU (A) 19 0 0) (L' := L) (fun q => ?_)
      refine x_if_ne (tgt := 31) Γ dX3_setRoom_26 (by decide) (fun c26 => ?_) (fun c26 => absurd c26 (q.one rfl))
      refine x_aload_n Γ dX3_setRoom_31 rfl rfl ?_
      refine m_geta Γ 0 (by decide) (fun _ => rfl) k_578 rfl dX3_setRoom_32 ?_
      refine x_iload_n Γ dX3_setRoom_35 rfl rfl ?_
      refine m_ald Γ rfl rfl (by decide) (by show _ < 5; omega) dX3_setRoom_36 ?_
      refine x_istore_n Γ dX3_setRoom_37 rfl rfl (by decide) ?_
      refine x_aload_n Γ dX3_setRoom_38 rfl rfl ?_
      refine m_geta Γ 0 (by decide) (fun _ => rfl) k_578 rfl dX3_setRoom_39 ?_
      refine x_iload_n Γ dX3_setRoom_42 rfl rfl ?_
      refine x_iload_n Γ dX3_setRoom_43 rfl rfl ?_
      refine m_ast Γ rfl rfl (by decide) (by show _ < 5; omega) dX3_setRoom_44 ?_
      refine x_iload_n Γ dX3_setRoom_45 rfl rfl ?_
      refine x_iret Γ rfl rfl (fun w2 e2 => ?_) ⟨Nat.le_of_ble_eq_true rfl, Nat.le_of_ble_eq_true rfl⟩ dX3_setRoom_46
      unfold gSetRoom
      rw [fin_ok hk, ixn (t := i) (by omega)]
      exact ⟨rfl, e2⟩
set_option maxRecDepth 100000 in
theorem tm_setVan {o : Nat} {ad : Nat → Nat} {A : xS} {L : List Nat} {w : xW} (h : MRep G w o ad A L) {n : Nat} {r0 : Int32} (hI : aI A n)  : xMet l G yX3_setVan cX3_setVan 3 (some .int) ({ frames := 3, cells := 0, slots := 0, locals := 100 } : Room) [.ref o, .int r0] w embI (fun r w' => r = (gSetVan A L r0).1 ∧ mP G o ad (gSetVan A L r0).2.1 (gSetVan A L r0).2.2 w w') := by
  refine xMet_of (by decide) (Nat.le_of_ble_eq_true rfl) ?_
  intro p e s m below meth c Γ hnm
  have hn := hI.1
  have hn2 := hI.2.1
  refine m_in h ?_
  have hE : ∀ k : Int32, ¬ k = 0 → kSetVan r0 = k → xJ p l e ({ frames := 3, cells := 0, slots := 0, locals := 100 } : Room) s m ([.ref o, .int r0] : List Value).toArray below meth c G 3 (MQ below (xQ G embI (fun r w' => r = (gSetVan A L r0).1 ∧ mP G o ad (gSetVan A L r0).2.1 (gSetVan A L r0).2.2 w w')) ([.ref o, .int r0] : List Value).toArray s ({ frames := 3, cells := 0, slots := 0, locals := 100 } : Room).cells ({ frames := 3, cells := 0, slots := 0, locals := 100 } : Room).slots (xA G)) (mP G o ad A L w) 0 0 16 [(0, .ref o), (1, .int r0)] [.int k, .ref o] := by
    intro k h0 hk
    refine x_invV (emb := embI) (ci := 4) (rm := ({ frames := 0, cells := 0, slots := 0, locals := 0 } : Room)) Γ [.int k] (fun w1 r w2 => bq (k = 0) r ∧ mP G o ad (mU (A) 19 0 k) (L) w1 w2) rfl (fun w1 h1 => t_isFine h1.1) m_obj rfl k_656 k_6 k_653 k_655 s_24 hd_X3_isFine ⟨Nat.le_of_ble_eq_true rfl, Nat.le_of_ble_eq_true rfl⟩ ⟨Nat.le_of_ble_eq_true rfl, Nat.le_of_ble_eq_true rfl⟩ (Nat.le_of_ble_eq_true rfl) dX3_setVan_16 (fun r => ?_)
    refine m_then (A' := mU (A) 19 0 k) (L' := L) (fun q => ?_)
    refine x_if_ne (tgt := 24) Γ dX3_setVan_19 (by decide) (fun c19 => absurd (q.zero h0) c19) (fun c19 => ?_)
    refine x_iconst (v := 0) Γ dX3_setVan_22 (by decide) ?_
    refine x_iret Γ rfl rfl (fun w2 e2 => ?_) ⟨Nat.le_of_ble_eq_true rfl, Nat.le_of_ble_eq_true rfl⟩ dX3_setVan_23
    unfold gSetVan
    rw [fin_no hk h0]
    exact ⟨rfl, e2⟩
  refine x_aload_n Γ dX3_setVan_0 rfl rfl ?_
  refine x_iload_n Γ dX3_setVan_1 rfl rfl ?_
  refine x_iconst (v := 0) Γ dX3_setVan_2 (by decide) ?_
  refine x_bipush (v := 30) Γ dX3_setVan_3 (by decide) ?_
  refine x_invS (emb := embI) (rm := ({ frames := 0, cells := 0, slots := 0, locals := 0 } : Room)) Γ [.int (r0), .int (0), .int (30)] (fun w1 r w2 => bq (rIn (0) (30) (r0)) r ∧ w2 = w1) rfl (fun w1 h1 => t_in) k_652 k_6 k_650 k_651 hd_X3_in ⟨Nat.le_of_ble_eq_true rfl, Nat.le_of_ble_eq_true rfl⟩ ⟨Nat.le_of_ble_eq_true rfl, Nat.le_of_ble_eq_true rfl⟩ (Nat.le_of_ble_eq_true rfl) dX3_setVan_5 (fun r => ?_)
  refine m_same (fun q5 => ?_)
  refine x_if_eq (tgt := 15) Γ dX3_setVan_8 (by decide) (fun c8 => ?_) (fun c8 => ?_)
  · have hk : kSetVan r0 = 1 := if_neg (q5.eq c8)
    refine x_iconst (v := 1) Γ dX3_setVan_15 (by decide) ?_
    exact hE 1 (by decide) hk
  · have hk : kSetVan r0 = 0 := if_pos (q5.ne c8)
    refine x_iconst (v := 0) Γ dX3_setVan_11 (by decide) ?_
    refine x_goto (tgt := 16) Γ dX3_setVan_12 (by decide) ?_
    refine x_invV (emb := embI) (ci := 4) (rm := ({ frames := 0, cells := 0, slots := 0, locals := 0 } : Room)) Γ [.int 0] (fun w1 r w2 => bq (0 = 0) r ∧ mP G o ad (mU (A) 19 0 0) (L) w1 w2) rfl (fun w1 h1 => t_isFine h1.1) m_obj rfl k_656 k_6 k_653 k_655 s_24 hd_X3_isFine ⟨Nat.le_of_ble_eq_true rfl, Nat.le_of_ble_eq_true rfl⟩ ⟨Nat.le_of_ble_eq_true rfl, Nat.le_of_ble_eq_true rfl⟩ (Nat.le_of_ble_eq_true rfl) dX3_setVan_16 (fun r => ?_)
    refine m_then (A' := mU (A) 19 0 0) (L' := L) (fun q => ?_)
    refine x_if_ne (tgt := 24) Γ dX3_setVan_19 (by decide) (fun c19 => ?_) (fun c19 => absurd c19 (q.one rfl))
    refine x_aload_n Γ dX3_setVan_24 rfl rfl ?_
    refine m_geti Γ 1 (by decide) (by decide) (fun _ => rfl) k_579 rfl dX3_setVan_25 ?_
    refine x_istore_n Γ dX3_setVan_28 rfl rfl (by decide) ?_
    refine x_aload_n Γ dX3_setVan_29 rfl rfl ?_
    refine x_iload_n Γ dX3_setVan_30 rfl rfl ?_
    refine m_puti Γ 1 (by decide) (by decide) (fun _ => rfl) k_579 rfl rfl rfl dX3_setVan_31 ?_
    refine x_iload_n Γ dX3_setVan_34 rfl rfl ?_
    refine x_iret Γ rfl rfl (fun w2 e2 => ?_) ⟨Nat.le_of_ble_eq_true rfl, Nat.le_of_ble_eq_true rfl⟩ dX3_setVan_35
    unfold gSetVan
    rw [fin_ok hk]
    exact ⟨rfl, e2⟩
set_option maxRecDepth 100000 in
theorem tm_fetch {o : Nat} {ad : Nat → Nat} {A : xS} {L : List Nat} {w : xW} (h : MRep G w o ad A L) {n : Nat} {x : Int32} (hI : aI A n) (hL : ∀ q ∈ L, q < n) (hl : L.length ≤ n) : xMet l G yX3_fetch cX3_fetch 2 (some .int) ({ frames := 3, cells := 0, slots := 0, locals := 100 } : Room) [.ref o, .int x] w embI (fun r w' => r = (gFetch A L x).1 ∧ mP G o ad (gFetch A L x).2.1 (gFetch A L x).2.2 w w') := by
  refine xMet_of (by decide) (Nat.le_of_ble_eq_true rfl) ?_
  intro p e s m below meth c Γ hnm
  have hn := hI.1
  have hn2 := hI.2.1
  refine m_in h ?_
  have hE : ∀ k : Int32, ¬ k = 0 → kFetch A x = k → xJ p l e ({ frames := 3, cells := 0, slots := 0, locals := 100 } : Room) s m ([.ref o, .int x] : List Value).toArray below meth c G 2 (MQ below (xQ G embI (fun r w' => r = (gFetch A L x).1 ∧ mP G o ad (gFetch A L x).2.1 (gFetch A L x).2.2 w w')) ([.ref o, .int x] : List Value).toArray s ({ frames := 3, cells := 0, slots := 0, locals := 100 } : Room).cells ({ frames := 3, cells := 0, slots := 0, locals := 100 } : Room).slots (xA G)) (mP G o ad A L w) 0 0 35 [(0, .ref o), (1, .int x)] [.int k, .ref o] := by
    intro k h0 hk
    refine x_invV (emb := embI) (ci := 4) (rm := ({ frames := 0, cells := 0, slots := 0, locals := 0 } : Room)) Γ [.int k] (fun w1 r w2 => bq (k = 0) r ∧ mP G o ad (mU (A) 19 0 k) (L) w1 w2) rfl (fun w1 h1 => t_isFine h1.1) m_obj rfl k_656 k_6 k_653 k_655 s_24 hd_X3_isFine ⟨Nat.le_of_ble_eq_true rfl, Nat.le_of_ble_eq_true rfl⟩ ⟨Nat.le_of_ble_eq_true rfl, Nat.le_of_ble_eq_true rfl⟩ (Nat.le_of_ble_eq_true rfl) dX3_fetch_35 (fun r => ?_)
    refine m_then (A' := mU (A) 19 0 k) (L' := L) (fun q => ?_)
    refine x_if_ne (tgt := 43) Γ dX3_fetch_38 (by decide) (fun c38 => absurd (q.zero h0) c38) (fun c38 => ?_)
    refine x_iconst (v := 0) Γ dX3_fetch_41 (by decide) ?_
    refine x_iret Γ rfl rfl (fun w2 e2 => ?_) ⟨Nat.le_of_ble_eq_true rfl, Nat.le_of_ble_eq_true rfl⟩ dX3_fetch_42
    unfold gFetch
    rw [fin_no hk h0]
    exact ⟨rfl, e2⟩
  refine x_aload_n Γ dX3_fetch_0 rfl rfl ?_
  refine x_aload_n Γ dX3_fetch_1 rfl rfl ?_
  refine x_iload_n Γ dX3_fetch_2 rfl rfl ?_
  refine x_invV (emb := embI) (ci := 4) (rm := ({ frames := 1, cells := 0, slots := 0, locals := 40 } : Room)) Γ [.int x] (fun w1 r w2 => bq (kT (A) (x)) r ∧ mP G o ad (A) (L) w1 w2) rfl (fun w1 h1 => t_isThing h1.1) m_obj rfl k_676 k_6 k_673 k_675 s_26 hd_X3_isThing ⟨Nat.le_of_ble_eq_true rfl, Nat.le_of_ble_eq_true rfl⟩ ⟨Nat.le_of_ble_eq_true rfl, Nat.le_of_ble_eq_true rfl⟩ (Nat.le_of_ble_eq_true rfl) dX3_fetch_3 (fun r => ?_)
  refine m_then (A' := A) (L' := L) (fun q3 => ?_)
  refine x_if_ne (tgt := 13) Γ dX3_fetch_6 (by decide) (fun c6 => ?_) (fun c6 => ?_)
  · obtain ⟨t, htn, ht, rfl⟩ := aI_kT hI (q3.ne c6)
    have hT := aI_toT hI htn
    refine x_aload_n Γ dX3_fetch_13 rfl rfl ?_
    refine x_iload_n Γ dX3_fetch_14 rfl rfl ?_
    refine x_invV (emb := embI) (ci := 4) (rm := ({ frames := 0, cells := 0, slots := 0, locals := 0 } : Room)) Γ [.int (nI t)] (fun w1 r w2 => bq ((A) 9 t < 5) r ∧ mP G o ad (A) (L) w1 w2) rfl (fun w1 h1 => t_isAt h1.1 (by omega)) m_obj rfl k_680 k_6 k_677 k_679 s_27 hd_X3_isAt ⟨Nat.le_of_ble_eq_true rfl, Nat.le_of_ble_eq_true rfl⟩ ⟨Nat.le_of_ble_eq_true rfl, Nat.le_of_ble_eq_true rfl⟩ (Nat.le_of_ble_eq_true rfl) dX3_fetch_15 (fun r => ?_)
    refine m_then (A' := A) (L' := L) (fun q15 => ?_)
    refine x_if_eq (tgt := 30) Γ dX3_fetch_18 (by decide) (fun c18 => ?_) (fun c18 => ?_)
    · have hk : kFetch A (nI t) = 2 := by
        unfold kFetch
        rw [if_neg (not_not_intro hT), ixn ht, if_pos (by first | exact Or.inl (q15.eq c18) | exact Or.inr (Int32.not_le.mp c27))]
      refine x_iconst (v := 2) Γ dX3_fetch_30 (by decide) ?_
      refine x_goto (tgt := 35) Γ dX3_fetch_31 (by decide) ?_
      exact hE 2 (by decide) hk
    · refine x_aload_n Γ dX3_fetch_21 rfl rfl ?_
      refine m_geta Γ 12 (by decide) (fun _ => rfl) k_590 rfl dX3_fetch_22 ?_
      refine x_iload_n Γ dX3_fetch_25 rfl rfl ?_
      refine m_ald Γ rfl rfl (by decide) (by show _ < 24; omega) dX3_fetch_26 ?_
      refine x_if_le (tgt := 34) Γ dX3_fetch_27 (by decide) (fun c27 => ?_) (fun c27 => ?_)
      · have hk : kFetch A (nI t) = 0 := by
          unfold kFetch
          rw [if_neg (not_not_intro hT), ixn ht, if_neg (fun z => z.elim (fun z => z (q15.ne c18)) (fun z => Int32.not_lt.mpr c27 z))]
        refine x_iconst (v := 0) Γ dX3_fetch_34 (by decide) ?_
        refine x_invV (emb := embI) (ci := 4) (rm := ({ frames := 0, cells := 0, slots := 0, locals := 0 } : Room)) Γ [.int 0] (fun w1 r w2 => bq (0 = 0) r ∧ mP G o ad (mU (A) 19 0 0) (L) w1 w2) rfl (fun w1 h1 => t_isFine h1.1) m_obj rfl k_656 k_6 k_653 k_655 s_24 hd_X3_isFine ⟨Nat.le_of_ble_eq_true rfl, Nat.le_of_ble_eq_true rfl⟩ ⟨Nat.le_of_ble_eq_true rfl, Nat.le_of_ble_eq_true rfl⟩ (Nat.le_of_ble_eq_true rfl) dX3_fetch_35 (fun r => ?_)
        refine m_then (A' := mU (A) 19 0 0) (L' := L) (fun q => ?_)
        refine x_if_ne (tgt := 43) Γ dX3_fetch_38 (by decide) (fun c38 => ?_) (fun c38 => absurd c38 (q.one rfl))
        refine x_aload_n Γ dX3_fetch_43 rfl rfl ?_
        refine m_geta Γ 9 (by decide) (fun _ => rfl) k_587 rfl dX3_fetch_44 ?_
        refine x_iload_n Γ dX3_fetch_47 rfl rfl ?_
        refine x_bipush (v := 10) Γ dX3_fetch_48 (by decide) ?_
        refine m_ast Γ rfl rfl (by decide) (by show _ < 24; omega) dX3_fetch_50 ?_
        refine x_aload_n Γ dX3_fetch_51 rfl rfl ?_
        refine x_dup Γ dX3_fetch_52 rfl ?_
        refine m_geti Γ 3 (by decide) (by decide) (fun _ => rfl) k_581 rfl dX3_fetch_53 ?_
        refine x_aload_n Γ dX3_fetch_56 rfl rfl ?_
        refine m_geta Γ 11 (by decide) (fun _ => rfl) k_589 rfl dX3_fetch_57 ?_
        refine x_iload_n Γ dX3_fetch_60 rfl rfl ?_
        refine m_ald Γ rfl rfl (by decide) (by show _ < 24; omega) dX3_fetch_61 ?_
        refine x_iadd Γ dX3_fetch_62 ?_
        refine m_puti Γ 3 (by decide) (by decide) (fun _ => rfl) k_581 rfl rfl rfl dX3_fetch_63 ?_
        refine x_aload_n Γ dX3_fetch_66 rfl rfl ?_
        refine x_iload_n Γ dX3_fetch_67 rfl rfl ?_
        refine x_invV (emb := embV) (ci := 4) (rm := ({ frames := 0, cells := 0, slots := 0, locals := 0 } : Room)) Γ [.int (nI t)] (fun w1 _ w2 => mP G o ad (bFetch (mU A 19 0 0) t) (fFor t L) w1 w2) rfl (fun w1 h1 => t_forgets h1.1 (by omega) (by omega) (fun q hq => by have := hL q hq; omega)) m_obj rfl k_684 k_6 k_681 k_683 s_28 hd_X3_forgets ⟨Nat.le_of_ble_eq_true rfl, Nat.le_of_ble_eq_true rfl⟩ ⟨Nat.le_of_ble_eq_true rfl, Nat.le_of_ble_eq_true rfl⟩ (Nat.le_of_ble_eq_true rfl) dX3_fetch_68 (fun _ => ?_)
        refine m_then0 (A' := bFetch (mU A 19 0 0) t) (L' := fFor t L) ?_
        refine x_aload_n Γ dX3_fetch_71 rfl rfl ?_
        refine m_geta Γ 11 (by decide) (fun _ => rfl) k_589 rfl dX3_fetch_72 ?_
        refine x_iload_n Γ dX3_fetch_75 rfl rfl ?_
        refine m_ald Γ rfl rfl (by decide) (by show _ < 24; omega) dX3_fetch_76 ?_
        refine x_iret Γ rfl rfl (fun w2 e2 => ?_) ⟨Nat.le_of_ble_eq_true rfl, Nat.le_of_ble_eq_true rfl⟩ dX3_fetch_77
        unfold gFetch
        rw [fin_ok hk, ixn ht]
        exact ⟨rfl, e2⟩
      · have hk : kFetch A (nI t) = 2 := by
          unfold kFetch
          rw [if_neg (not_not_intro hT), ixn ht, if_pos (by first | exact Or.inl (q15.eq c18) | exact Or.inr (Int32.not_le.mp c27))]
        refine x_iconst (v := 2) Γ dX3_fetch_30 (by decide) ?_
        refine x_goto (tgt := 35) Γ dX3_fetch_31 (by decide) ?_
        exact hE 2 (by decide) hk
  · have hT := q3.eq c6
    have hk : kFetch A x = 1 := if_pos (q3.eq c6)
    refine x_iconst (v := 1) Γ dX3_fetch_9 (by decide) ?_
    refine x_goto (tgt := 35) Γ dX3_fetch_10 (by decide) ?_
    exact hE 1 (by decide) hk
end XM5

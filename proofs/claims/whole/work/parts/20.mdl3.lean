section XM5
variable {l : Launch} {G : xG}
set_option maxRecDepth 100000 in
theorem tm_setRoom {o : Nat} {ad : Nat → Nat} {A : xS} {L : List Nat} {w : xW} (h : MRep G w o ad A L) {n : Nat} {c0 r0 : Int32} (hI : aI A n)  : xMet l G yX3_setRoom cX3_setRoom 4 (some .int) ({ frames := 3, cells := 0, slots := 0, locals := 140 } : Room) [.ref o, .int c0, .int r0] w embI (fun r w' => r = (gSetRoom A L c0 r0).1 ∧ mP G o ad (gSetRoom A L c0 r0).2.1 (gSetRoom A L c0 r0).2.2 w w') := by
  refine xMet_of (by decide) (Nat.le_of_ble_eq_true rfl) ?_
  intro p e s m below meth c Γ hnm
  have hn := hI.1
  have hn2 := hI.2.1
  refine m_in h ?_
  have hE : ∀ k : Int32, ¬ k = 0 → kSetRoom c0 r0 = k → xJ p l e ({ frames := 3, cells := 0, slots := 0, locals := 140 } : Room) s m ([.ref o, .int c0, .int r0] : List Value).toArray below meth c G 4 (MQ below (xQ G embI (fun r w' => r = (gSetRoom A L c0 r0).1 ∧ mP G o ad (gSetRoom A L c0 r0).2.1 (gSetRoom A L c0 r0).2.2 w w')) ([.ref o, .int c0, .int r0] : List Value).toArray s ({ frames := 3, cells := 0, slots := 0, locals := 140 } : Room).cells ({ frames := 3, cells := 0, slots := 0, locals := 140 } : Room).slots (xA G)) (mP G o ad A L w) 0 0 23 [(0, .ref o), (1, .int c0), (2, .int r0)] [.int k, .ref o] := by
    intro k h0 hk
    refine x_invV (emb := embI) (ci := 4) (rm := ({ frames := 0, cells := 0, slots := 0, locals := 0 } : Room)) Γ [.int k] (fun w1 r w2 => bq (k = 0) r ∧ mP G o ad (mU (A) 19 0 k) (L) w1 w2) rfl (fun w1 h1 => t_isFine h1.1) m_obj rfl k_656 k_6 k_653 k_655 s_24 hd_X3_isFine ⟨Nat.le_of_ble_eq_true rfl, Nat.le_of_ble_eq_true rfl⟩ ⟨Nat.le_of_ble_eq_true rfl, Nat.le_of_ble_eq_true rfl⟩ (Nat.le_of_ble_eq_true rfl) dX3_setRoom_23 (fun r => ?_)
    refine m_then (A' := mU (A) 19 0 k) (L' := L) (fun q => ?_)
    refine x_if_ne (tgt := 31) Γ dX3_setRoom_26 (by decide) (fun c26 => absurd (q.zero h0) c26) (fun c26 => ?_)
    refine x_iconst (v := 0) Γ dX3_setRoom_29 (by decide) ?_
    refine x_iret Γ rfl rfl (fun w2 e2 => ?_) ⟨Nat.le_of_ble_eq_true rfl, Nat.le_of_ble_eq_true rfl⟩ dX3_setRoom_30
    unfold gSetRoom
    rw [fin_no hk h0]
    exact ⟨rfl, e2⟩
  refine x_aload_n Γ dX3_setRoom_0 rfl rfl ?_
  refine x_iload_n Γ dX3_setRoom_1 rfl rfl ?_
  refine x_invS (emb := embI) (rm := ({ frames := 1, cells := 0, slots := 0, locals := 40 } : Room)) Γ [.int (c0)] (fun w1 r w2 => bq (rIn 0 4 (c0)) r ∧ w2 = w1) rfl (fun w1 h1 => t_isCounter) k_649 k_6 k_647 k_648 hd_X3_isCounter ⟨Nat.le_of_ble_eq_true rfl, Nat.le_of_ble_eq_true rfl⟩ ⟨Nat.le_of_ble_eq_true rfl, Nat.le_of_ble_eq_true rfl⟩ (Nat.le_of_ble_eq_true rfl) dX3_setRoom_2 (fun r => ?_)
  refine m_same (fun q2 => ?_)
  refine x_if_eq (tgt := 22) Γ dX3_setRoom_5 (by decide) (fun c5 => ?_) (fun c5 => ?_)
  · have hk : kSetRoom c0 r0 = 1 := if_neg (fun z => by first | exact q2.eq c5 z.1 | exact q12.eq c15 z.2)
    refine x_iconst (v := 1) Γ dX3_setRoom_22 (by decide) ?_
    exact hE 1 (by decide) hk
  · refine x_iload_n Γ dX3_setRoom_8 rfl rfl ?_
    refine x_iconst (v := 0) Γ dX3_setRoom_9 (by decide) ?_
    refine x_bipush (v := 30) Γ dX3_setRoom_10 (by decide) ?_
    refine x_invS (emb := embI) (rm := ({ frames := 0, cells := 0, slots := 0, locals := 0 } : Room)) Γ [.int (r0), .int (0), .int (30)] (fun w1 r w2 => bq (rIn (0) (30) (r0)) r ∧ w2 = w1) rfl (fun w1 h1 => t_in) k_652 k_6 k_650 k_651 hd_X3_in ⟨Nat.le_of_ble_eq_true rfl, Nat.le_of_ble_eq_true rfl⟩ ⟨Nat.le_of_ble_eq_true rfl, Nat.le_of_ble_eq_true rfl⟩ (Nat.le_of_ble_eq_true rfl) dX3_setRoom_12 (fun r => ?_)
    refine m_same (fun q12 => ?_)
    refine x_if_eq (tgt := 22) Γ dX3_setRoom_15 (by decide) (fun c15 => ?_) (fun c15 => ?_)
    · have hk : kSetRoom c0 r0 = 1 := if_neg (fun z => by first | exact q2.eq c5 z.1 | exact q12.eq c15 z.2)
      refine x_iconst (v := 1) Γ dX3_setRoom_22 (by decide) ?_
      exact hE 1 (by decide) hk
    · have hk : kSetRoom c0 r0 = 0 := if_pos ⟨q2.ne c5, q12.ne c15⟩
      obtain ⟨i, hi, rfl⟩ := rIn_nat (M := 4) (n := 4) (by decide) (q2.ne c5)
      refine x_iconst (v := 0) Γ dX3_setRoom_18 (by decide) ?_
      refine x_goto (tgt := 23) Γ dX3_setRoom_19 (by decide) ?_
      refine x_invV (emb := embI) (ci := 4) (rm := ({ frames := 0, cells := 0, slots := 0, locals := 0 } : Room)) Γ [.int 0] (fun w1 r w2 => bq (0 = 0) r ∧ mP G o ad (mU (A) 19 0 0) (L) w1 w2) rfl (fun w1 h1 => t_isFine h1.1) m_obj rfl k_656 k_6 k_653 k_655 s_24 hd_X3_isFine ⟨Nat.le_of_ble_eq_true rfl, Nat.le_of_ble_eq_true rfl⟩ ⟨Nat.le_of_ble_eq_true rfl, Nat.le_of_ble_eq_true rfl⟩ (Nat.le_of_ble_eq_true rfl) dX3_setRoom_23 (fun r => ?_)
      refine m_then (A' := mU (A) 19 0 0) (L' := L) (fun q => ?_)
      refine x_if_ne (tgt := 31) Γ dX3_setRoom_26 (by decide) (fun c26 => ?_) (fun c26 => absurd c26 (q.one rfl))
      refine x_aload_n Γ dX3_setRoom_31 rfl rfl ?_
      refine m_geta Γ 0 (by decide) (fun _ => rfl) k_578 rfl dX3_setRoom_32 ?_
      refine x_iload_n Γ dX3_setRoom_35 rfl rfl ?_
      refine m_ald Γ rfl rfl (by decide) (by show _ < 5; omega) dX3_setRoom_36 ?_
      refine x_istore_n Γ dX3_setRoom_37 rfl rfl (by decide) ?_
      refine x_aload_n Γ dX3_setRoom_38 rfl rfl ?_
      refine m_geta Γ 0 (by decide) (fun _ => rfl) k_578 rfl dX3_setRoom_39 ?_
      refine x_iload_n Γ dX3_setRoom_42 rfl rfl ?_
      refine x_iload_n Γ dX3_setRoom_43 rfl rfl ?_
      refine m_ast Γ rfl rfl (by decide) (by show _ < 5; omega) dX3_setRoom_44 ?_
      refine x_iload_n Γ dX3_setRoom_45 rfl rfl ?_
      refine x_iret Γ rfl rfl (fun w2 e2 => ?_) ⟨Nat.le_of_ble_eq_true rfl, Nat.le_of_ble_eq_true rfl⟩ dX3_setRoom_46
      unfold gSetRoom
      rw [fin_ok hk, ixn (t := i) (by omega)]
      exact ⟨rfl, e2⟩
set_option maxRecDepth 100000 in
theorem tm_setVan {o : Nat} {ad : Nat → Nat} {A : xS} {L : List Nat} {w : xW} (h : MRep G w o ad A L) {n : Nat} {r0 : Int32} (hI : aI A n)  : xMet l G yX3_setVan cX3_setVan 3 (some .int) ({ frames := 3, cells := 0, slots := 0, locals := 140 } : Room) [.ref o, .int r0] w embI (fun r w' => r = (gSetVan A L r0).1 ∧ mP G o ad (gSetVan A L r0).2.1 (gSetVan A L r0).2.2 w w') := by
  refine xMet_of (by decide) (Nat.le_of_ble_eq_true rfl) ?_
  intro p e s m below meth c Γ hnm
  have hn := hI.1
  have hn2 := hI.2.1
  refine m_in h ?_
  have hE : ∀ k : Int32, ¬ k = 0 → kSetVan r0 = k → xJ p l e ({ frames := 3, cells := 0, slots := 0, locals := 140 } : Room) s m ([.ref o, .int r0] : List Value).toArray below meth c G 3 (MQ below (xQ G embI (fun r w' => r = (gSetVan A L r0).1 ∧ mP G o ad (gSetVan A L r0).2.1 (gSetVan A L r0).2.2 w w')) ([.ref o, .int r0] : List Value).toArray s ({ frames := 3, cells := 0, slots := 0, locals := 140 } : Room).cells ({ frames := 3, cells := 0, slots := 0, locals := 140 } : Room).slots (xA G)) (mP G o ad A L w) 0 0 16 [(0, .ref o), (1, .int r0)] [.int k, .ref o] := by
    intro k h0 hk
    refine x_invV (emb := embI) (ci := 4) (rm := ({ frames := 0, cells := 0, slots := 0, locals := 0 } : Room)) Γ [.int k] (fun w1 r w2 => bq (k = 0) r ∧ mP G o ad (mU (A) 19 0 k) (L) w1 w2) rfl (fun w1 h1 => t_isFine h1.1) m_obj rfl k_656 k_6 k_653 k_655 s_24 hd_X3_isFine ⟨Nat.le_of_ble_eq_true rfl, Nat.le_of_ble_eq_true rfl⟩ ⟨Nat.le_of_ble_eq_true rfl, Nat.le_of_ble_eq_true rfl⟩ (Nat.le_of_ble_eq_true rfl) dX3_setVan_16 (fun r => ?_)
    refine m_then (A' := mU (A) 19 0 k) (L' := L) (fun q => ?_)
    refine x_if_ne (tgt := 24) Γ dX3_setVan_19 (by decide) (fun c19 => absurd (q.zero h0) c19) (fun c19 => ?_)
    refine x_iconst (v := 0) Γ dX3_setVan_22 (by decide) ?_
    refine x_iret Γ rfl rfl (fun w2 e2 => ?_) ⟨Nat.le_of_ble_eq_true rfl, Nat.le_of_ble_eq_true rfl⟩ dX3_setVan_23
    unfold gSetVan
    rw [fin_no hk h0]
    exact ⟨rfl, e2⟩
  refine x_aload_n Γ dX3_setVan_0 rfl rfl ?_
  refine x_iload_n Γ dX3_setVan_1 rfl rfl ?_
  refine x_iconst (v := 0) Γ dX3_setVan_2 (by decide) ?_
  refine x_bipush (v := 30) Γ dX3_setVan_3 (by decide) ?_
  refine x_invS (emb := embI) (rm := ({ frames := 0, cells := 0, slots := 0, locals := 0 } : Room)) Γ [.int (r0), .int (0), .int (30)] (fun w1 r w2 => bq (rIn (0) (30) (r0)) r ∧ w2 = w1) rfl (fun w1 h1 => t_in) k_652 k_6 k_650 k_651 hd_X3_in ⟨Nat.le_of_ble_eq_true rfl, Nat.le_of_ble_eq_true rfl⟩ ⟨Nat.le_of_ble_eq_true rfl, Nat.le_of_ble_eq_true rfl⟩ (Nat.le_of_ble_eq_true rfl) dX3_setVan_5 (fun r => ?_)
  refine m_same (fun q5 => ?_)
  refine x_if_eq (tgt := 15) Γ dX3_setVan_8 (by decide) (fun c8 => ?_) (fun c8 => ?_)
  · have hk : kSetVan r0 = 1 := if_neg (q5.eq c8)
    refine x_iconst (v := 1) Γ dX3_setVan_15 (by decide) ?_
    exact hE 1 (by decide) hk
  · have hk : kSetVan r0 = 0 := if_pos (q5.ne c8)
    refine x_iconst (v := 0) Γ dX3_setVan_11 (by decide) ?_
    refine x_goto (tgt := 16) Γ dX3_setVan_12 (by decide) ?_
    refine x_invV (emb := embI) (ci := 4) (rm := ({ frames := 0, cells := 0, slots := 0, locals := 0 } : Room)) Γ [.int 0] (fun w1 r w2 => bq (0 = 0) r ∧ mP G o ad (mU (A) 19 0 0) (L) w1 w2) rfl (fun w1 h1 => t_isFine h1.1) m_obj rfl k_656 k_6 k_653 k_655 s_24 hd_X3_isFine ⟨Nat.le_of_ble_eq_true rfl, Nat.le_of_ble_eq_true rfl⟩ ⟨Nat.le_of_ble_eq_true rfl, Nat.le_of_ble_eq_true rfl⟩ (Nat.le_of_ble_eq_true rfl) dX3_setVan_16 (fun r => ?_)
    refine m_then (A' := mU (A) 19 0 0) (L' := L) (fun q => ?_)
    refine x_if_ne (tgt := 24) Γ dX3_setVan_19 (by decide) (fun c19 => ?_) (fun c19 => absurd c19 (q.one rfl))
    refine x_aload_n Γ dX3_setVan_24 rfl rfl ?_
    refine m_geti Γ 1 (by decide) (by decide) (fun _ => rfl) k_579 rfl dX3_setVan_25 ?_
    refine x_istore_n Γ dX3_setVan_28 rfl rfl (by decide) ?_
    refine x_aload_n Γ dX3_setVan_29 rfl rfl ?_
    refine x_iload_n Γ dX3_setVan_30 rfl rfl ?_
    refine m_puti Γ 1 (by decide) (by decide) (fun _ => rfl) k_579 rfl rfl rfl dX3_setVan_31 ?_
    refine x_iload_n Γ dX3_setVan_34 rfl rfl ?_
    refine x_iret Γ rfl rfl (fun w2 e2 => ?_) ⟨Nat.le_of_ble_eq_true rfl, Nat.le_of_ble_eq_true rfl⟩ dX3_setVan_35
    unfold gSetVan
    rw [fin_ok hk]
    exact ⟨rfl, e2⟩
set_option maxRecDepth 100000 in
theorem tm_fetch {o : Nat} {ad : Nat → Nat} {A : xS} {L : List Nat} {w : xW} (h : MRep G w o ad A L) {n : Nat} {x : Int32} (hI : aI A n) (hL : ∀ q ∈ L, q < n) (hl : L.length ≤ n) : xMet l G yX3_fetch cX3_fetch 2 (some .int) ({ frames := 3, cells := 0, slots := 0, locals := 140 } : Room) [.ref o, .int x] w embI (fun r w' => r = (gFetch A L x).1 ∧ mP G o ad (gFetch A L x).2.1 (gFetch A L x).2.2 w w') := by
  refine xMet_of (by decide) (Nat.le_of_ble_eq_true rfl) ?_
  intro p e s m below meth c Γ hnm
  have hn := hI.1
  have hn2 := hI.2.1
  refine m_in h ?_
  have hE : ∀ k : Int32, ¬ k = 0 → kFetch A x = k → xJ p l e ({ frames := 3, cells := 0, slots := 0, locals := 140 } : Room) s m ([.ref o, .int x] : List Value).toArray below meth c G 2 (MQ below (xQ G embI (fun r w' => r = (gFetch A L x).1 ∧ mP G o ad (gFetch A L x).2.1 (gFetch A L x).2.2 w w')) ([.ref o, .int x] : List Value).toArray s ({ frames := 3, cells := 0, slots := 0, locals := 140 } : Room).cells ({ frames := 3, cells := 0, slots := 0, locals := 140 } : Room).slots (xA G)) (mP G o ad A L w) 0 0 35 [(0, .ref o), (1, .int x)] [.int k, .ref o] := by
    intro k h0 hk
    refine x_invV (emb := embI) (ci := 4) (rm := ({ frames := 0, cells := 0, slots := 0, locals := 0 } : Room)) Γ [.int k] (fun w1 r w2 => bq (k = 0) r ∧ mP G o ad (mU (A) 19 0 k) (L) w1 w2) rfl (fun w1 h1 => t_isFine h1.1) m_obj rfl k_656 k_6 k_653 k_655 s_24 hd_X3_isFine ⟨Nat.le_of_ble_eq_true rfl, Nat.le_of_ble_eq_true rfl⟩ ⟨Nat.le_of_ble_eq_true rfl, Nat.le_of_ble_eq_true rfl⟩ (Nat.le_of_ble_eq_true rfl) dX3_fetch_35 (fun r => ?_)
    refine m_then (A' := mU (A) 19 0 k) (L' := L) (fun q => ?_)
    refine x_if_ne (tgt := 43) Γ dX3_fetch_38 (by decide) (fun c38 => absurd (q.zero h0) c38) (fun c38 => ?_)
    refine x_iconst (v := 0) Γ dX3_fetch_41 (by decide) ?_
    refine x_iret Γ rfl rfl (fun w2 e2 => ?_) ⟨Nat.le_of_ble_eq_true rfl, Nat.le_of_ble_eq_true rfl⟩ dX3_fetch_42
    unfold gFetch
    rw [fin_no hk h0]
    exact ⟨rfl, e2⟩
  refine x_aload_n Γ dX3_fetch_0 rfl rfl ?_
  refine x_aload_n Γ dX3_fetch_1 rfl rfl ?_
  refine x_iload_n Γ dX3_fetch_2 rfl rfl ?_
  refine x_invV (emb := embI) (ci := 4) (rm := ({ frames := 1, cells := 0, slots := 0, locals := 40 } : Room)) Γ [.int x] (fun w1 r w2 => bq (kT (A) (x)) r ∧ mP G o ad (A) (L) w1 w2) rfl (fun w1 h1 => t_isThing h1.1) m_obj rfl k_676 k_6 k_673 k_675 s_26 hd_X3_isThing ⟨Nat.le_of_ble_eq_true rfl, Nat.le_of_ble_eq_true rfl⟩ ⟨Nat.le_of_ble_eq_true rfl, Nat.le_of_ble_eq_true rfl⟩ (Nat.le_of_ble_eq_true rfl) dX3_fetch_3 (fun r => ?_)
  refine m_then (A' := A) (L' := L) (fun q3 => ?_)
  refine x_if_ne (tgt := 13) Γ dX3_fetch_6 (by decide) (fun c6 => ?_) (fun c6 => ?_)
  · obtain ⟨t, htn, ht, rfl⟩ := aI_kT hI (q3.ne c6)
    have hT := aI_toT hI htn
    refine x_aload_n Γ dX3_fetch_13 rfl rfl ?_
    refine x_iload_n Γ dX3_fetch_14 rfl rfl ?_
    refine x_invV (emb := embI) (ci := 4) (rm := ({ frames := 0, cells := 0, slots := 0, locals := 0 } : Room)) Γ [.int (nI t)] (fun w1 r w2 => bq ((A) 9 t < 5) r ∧ mP G o ad (A) (L) w1 w2) rfl (fun w1 h1 => t_isAt h1.1 (by omega)) m_obj rfl k_680 k_6 k_677 k_679 s_27 hd_X3_isAt ⟨Nat.le_of_ble_eq_true rfl, Nat.le_of_ble_eq_true rfl⟩ ⟨Nat.le_of_ble_eq_true rfl, Nat.le_of_ble_eq_true rfl⟩ (Nat.le_of_ble_eq_true rfl) dX3_fetch_15 (fun r => ?_)
    refine m_then (A' := A) (L' := L) (fun q15 => ?_)
    refine x_if_eq (tgt := 30) Γ dX3_fetch_18 (by decide) (fun c18 => ?_) (fun c18 => ?_)
    · have hk : kFetch A (nI t) = 2 := by
        unfold kFetch
        rw [if_neg (not_not_intro hT), ixn ht, if_pos (by first | exact Or.inl (q15.eq c18) | exact Or.inr (Int32.not_le.mp c27))]
      refine x_iconst (v := 2) Γ dX3_fetch_30 (by decide) ?_
      refine x_goto (tgt := 35) Γ dX3_fetch_31 (by decide) ?_
      exact hE 2 (by decide) hk
    · refine x_aload_n Γ dX3_fetch_21 rfl rfl ?_
      refine m_geta Γ 12 (by decide) (fun _ => rfl) k_590 rfl dX3_fetch_22 ?_
      refine x_iload_n Γ dX3_fetch_25 rfl rfl ?_
      refine m_ald Γ rfl rfl (by decide) (by show _ < 24; omega) dX3_fetch_26 ?_
      refine x_if_le (tgt := 34) Γ dX3_fetch_27 (by decide) (fun c27 => ?_) (fun c27 => ?_)
      · have hk : kFetch A (nI t) = 0 := by
          unfold kFetch
          rw [if_neg (not_not_intro hT), ixn ht, if_neg (fun z => z.elim (fun z => z (q15.ne c18)) (fun z => Int32.not_lt.mpr c27 z))]
        refine x_iconst (v := 0) Γ dX3_fetch_34 (by decide) ?_
        refine x_invV (emb := embI) (ci := 4) (rm := ({ frames := 0, cells := 0, slots := 0, locals := 0 } : Room)) Γ [.int 0] (fun w1 r w2 => bq (0 = 0) r ∧ mP G o ad (mU (A) 19 0 0) (L) w1 w2) rfl (fun w1 h1 => t_isFine h1.1) m_obj rfl k_656 k_6 k_653 k_655 s_24 hd_X3_isFine ⟨Nat.le_of_ble_eq_true rfl, Nat.le_of_ble_eq_true rfl⟩ ⟨Nat.le_of_ble_eq_true rfl, Nat.le_of_ble_eq_true rfl⟩ (Nat.le_of_ble_eq_true rfl) dX3_fetch_35 (fun r => ?_)
        refine m_then (A' := mU (A) 19 0 0) (L' := L) (fun q => ?_)
        refine x_if_ne (tgt := 43) Γ dX3_fetch_38 (by decide) (fun c38 => ?_) (fun c38 => absurd c38 (q.one rfl))
        refine x_aload_n Γ dX3_fetch_43 rfl rfl ?_
        refine m_geta Γ 9 (by decide) (fun _ => rfl) k_587 rfl dX3_fetch_44 ?_
        refine x_iload_n Γ dX3_fetch_47 rfl rfl ?_
        refine x_bipush (v := 10) Γ dX3_fetch_48 (by decide) ?_
        refine m_ast Γ rfl rfl (by decide) (by show _ < 24; omega) dX3_fetch_50 ?_
        refine x_aload_n Γ dX3_fetch_51 rfl rfl ?_
        refine x_dup Γ dX3_fetch_52 rfl ?_
        refine m_geti Γ 3 (by decide) (by decide) (fun _ => rfl) k_581 rfl dX3_fetch_53 ?_
        refine x_aload_n Γ dX3_fetch_56 rfl rfl ?_
        refine m_geta Γ 11 (by decide) (fun _ => rfl) k_589 rfl dX3_fetch_57 ?_
        refine x_iload_n Γ dX3_fetch_60 rfl rfl ?_
        refine m_ald Γ rfl rfl (by decide) (by show _ < 24; omega) dX3_fetch_61 ?_
        refine x_iadd Γ dX3_fetch_62 ?_
        refine m_puti Γ 3 (by decide) (by decide) (fun _ => rfl) k_581 rfl rfl rfl dX3_fetch_63 ?_
        refine x_aload_n Γ dX3_fetch_66 rfl rfl ?_
        refine x_iload_n Γ dX3_fetch_67 rfl rfl ?_
        refine x_invV (emb := embV) (ci := 4) (rm := ({ frames := 0, cells := 0, slots := 0, locals := 0 } : Room)) Γ [.int (nI t)] (fun w1 _ w2 => mP G o ad (bFetch (mU A 19 0 0) t) (fFor t L) w1 w2) rfl (fun w1 h1 => t_forgets h1.1 (by omega) (by omega) (fun q hq => by have := hL q hq; omega)) m_obj rfl k_684 k_6 k_681 k_683 s_28 hd_X3_forgets ⟨Nat.le_of_ble_eq_true rfl, Nat.le_of_ble_eq_true rfl⟩ ⟨Nat.le_of_ble_eq_true rfl, Nat.le_of_ble_eq_true rfl⟩ (Nat.le_of_ble_eq_true rfl) dX3_fetch_68 (fun _ => ?_)
        refine m_then0 (A' := bFetch (mU A 19 0 0) t) (L' := fFor t L) ?_
        refine x_aload_n Γ dX3_fetch_71 rfl rfl ?_
        refine m_geta Γ 11 (by decide) (fun _ => rfl) k_589 rfl dX3_fetch_72 ?_
        refine x_iload_n Γ dX3_fetch_75 rfl rfl ?_
        refine m_ald Γ rfl rfl (by decide) (by show _ < 24; omega) dX3_fetch_76 ?_
        refine x_iret Γ rfl rfl (fun w2 e2 => ?_) ⟨Nat.le_of_ble_eq_true rfl, Nat.le_of_ble_eq_true rfl⟩ dX3_fetch_77
        unfold gFetch
        rw [fin_ok hk, ixn ht]
        exact ⟨rfl, e2⟩
      · have hk : kFetch A (nI t) = 2 := by
          unfold kFetch
          rw [if_neg (not_not_intro hT), ixn ht, if_pos (by first | exact Or.inl (q15.eq c18) | exact Or.inr (Int32.not_le.mp c27))]
        refine x_iconst (v := 2) Γ dX3_fetch_30 (by decide) ?_
        refine x_goto (tgt := 35) Γ dX3_fetch_31 (by decide) ?_
        exact hE 2 (by decide) hk
  · have hT := q3.eq c6
    have hk : kFetch A x = 1 := if_pos (q3.eq c6)
    refine x_iconst (v := 1) Γ dX3_fetch_9 (by decide) ?_
    refine x_goto (tgt := 35) Γ dX3_fetch_10 (by decide) ?_
    exact hE 1 (by decide) hk
set_option maxRecDepth 100000 in
theorem tm_value {o : Nat} {ad : Nat → Nat} {A : xS} {L : List Nat} {w : xW} (h : MRep G w o ad A L) {n : Nat} {x v : Int32} (hI : aI A n)  : xMet l G yX3_value cX3_value 4 (some .int) ({ frames := 3, cells := 0, slots := 0, locals := 140 } : Room) [.ref o, .int x, .int v] w embI (fun r w' => r = (gValue A L x v).1 ∧ mP G o ad (gValue A L x v).2.1 (gValue A L x v).2.2 w w') := by
  refine xMet_of (by decide) (Nat.le_of_ble_eq_true rfl) ?_
  intro p e s m below meth c Γ hnm
  have hn := hI.1
  have hn2 := hI.2.1
  refine m_in h ?_
  have hE : ∀ k : Int32, ¬ k = 0 → kValue A x v = k → xJ p l e ({ frames := 3, cells := 0, slots := 0, locals := 140 } : Room) s m ([.ref o, .int x, .int v] : List Value).toArray below meth c G 4 (MQ below (xQ G embI (fun r w' => r = (gValue A L x v).1 ∧ mP G o ad (gValue A L x v).2.1 (gValue A L x v).2.2 w w')) ([.ref o, .int x, .int v] : List Value).toArray s ({ frames := 3, cells := 0, slots := 0, locals := 140 } : Room).cells ({ frames := 3, cells := 0, slots := 0, locals := 140 } : Room).slots (xA G)) (mP G o ad A L w) 0 0 41 [(0, .ref o), (1, .int x), (2, .int v)] [.int k, .ref o] := by
    intro k h0 hk
    refine x_invV (emb := embI) (ci := 4) (rm := ({ frames := 0, cells := 0, slots := 0, locals := 0 } : Room)) Γ [.int k] (fun w1 r w2 => bq (k = 0) r ∧ mP G o ad (mU (A) 19 0 k) (L) w1 w2) rfl (fun w1 h1 => t_isFine h1.1) m_obj rfl k_656 k_6 k_653 k_655 s_24 hd_X3_isFine ⟨Nat.le_of_ble_eq_true rfl, Nat.le_of_ble_eq_true rfl⟩ ⟨Nat.le_of_ble_eq_true rfl, Nat.le_of_ble_eq_true rfl⟩ (Nat.le_of_ble_eq_true rfl) dX3_value_41 (fun r => ?_)
    refine m_then (A' := mU (A) 19 0 k) (L' := L) (fun q => ?_)
    refine x_if_ne (tgt := 49) Γ dX3_value_44 (by decide) (fun c44 => absurd (q.zero h0) c44) (fun c44 => ?_)
    refine x_iconst (v := 0) Γ dX3_value_47 (by decide) ?_
    refine x_iret Γ rfl rfl (fun w2 e2 => ?_) ⟨Nat.le_of_ble_eq_true rfl, Nat.le_of_ble_eq_true rfl⟩ dX3_value_48
    unfold gValue
    rw [fin_no hk h0]
    exact ⟨rfl, e2⟩
  refine x_aload_n Γ dX3_value_0 rfl rfl ?_
  refine x_aload_n Γ dX3_value_1 rfl rfl ?_
  refine x_iload_n Γ dX3_value_2 rfl rfl ?_
  refine x_invV (emb := embI) (ci := 4) (rm := ({ frames := 1, cells := 0, slots := 0, locals := 40 } : Room)) Γ [.int x] (fun w1 r w2 => bq (kT (A) (x)) r ∧ mP G o ad (A) (L) w1 w2) rfl (fun w1 h1 => t_isThing h1.1) m_obj rfl k_676 k_6 k_673 k_675 s_26 hd_X3_isThing ⟨Nat.le_of_ble_eq_true rfl, Nat.le_of_ble_eq_true rfl⟩ ⟨Nat.le_of_ble_eq_true rfl, Nat.le_of_ble_eq_true rfl⟩ (Nat.le_of_ble_eq_true rfl) dX3_value_3 (fun r => ?_)
  refine m_then (A' := A) (L' := L) (fun q3 => ?_)
  refine x_if_ne (tgt := 13) Γ dX3_value_6 (by decide) (fun c6 => ?_) (fun c6 => ?_)
  · obtain ⟨t, htn, ht, rfl⟩ := aI_kT hI (q3.ne c6)
    have hT := aI_toT hI htn
    refine x_iload_n Γ dX3_value_13 rfl rfl ?_
    refine x_iconst (v := 0) Γ dX3_value_14 (by decide) ?_
    refine x_sipush (v := 10000) Γ dX3_value_15 (by decide) ?_
    refine x_invS (emb := embI) (rm := ({ frames := 0, cells := 0, slots := 0, locals := 0 } : Room)) Γ [.int (v), .int (0), .int (10000)] (fun w1 r w2 => bq (rIn (0) (10000) (v)) r ∧ w2 = w1) rfl (fun w1 h1 => t_in) k_652 k_6 k_650 k_651 hd_X3_in ⟨Nat.le_of_ble_eq_true rfl, Nat.le_of_ble_eq_true rfl⟩ ⟨Nat.le_of_ble_eq_true rfl, Nat.le_of_ble_eq_true rfl⟩ (Nat.le_of_ble_eq_true rfl) dX3_value_18 (fun r => ?_)
    refine m_same (fun q18 => ?_)
    refine x_if_ne (tgt := 28) Γ dX3_value_21 (by decide) (fun c21 => ?_) (fun c21 => ?_)
    · refine x_aload_n Γ dX3_value_28 rfl rfl ?_
      refine x_iload_n Γ dX3_value_29 rfl rfl ?_
      refine x_invV (emb := embI) (ci := 4) (rm := ({ frames := 0, cells := 0, slots := 0, locals := 0 } : Room)) Γ [.int (nI t)] (fun w1 r w2 => bq ((A) 9 t < 5) r ∧ mP G o ad (A) (L) w1 w2) rfl (fun w1 h1 => t_isAt h1.1 (by omega)) m_obj rfl k_680 k_6 k_677 k_679 s_27 hd_X3_isAt ⟨Nat.le_of_ble_eq_true rfl, Nat.le_of_ble_eq_true rfl⟩ ⟨Nat.le_of_ble_eq_true rfl, Nat.le_of_ble_eq_true rfl⟩ (Nat.le_of_ble_eq_true rfl) dX3_value_30 (fun r => ?_)
      refine m_then (A' := A) (L' := L) (fun q30 => ?_)
      refine x_if_ne (tgt := 40) Γ dX3_value_33 (by decide) (fun c33 => ?_) (fun c33 => ?_)
      · have hk : kValue A (nI t) v = 0 := by
          unfold kValue
          rw [if_neg (not_not_intro hT), if_neg (not_not_intro (q18.ne c21)), ixn ht, if_neg (not_not_intro (q30.ne c33))]
        refine x_iconst (v := 0) Γ dX3_value_40 (by decide) ?_
        refine x_invV (emb := embI) (ci := 4) (rm := ({ frames := 0, cells := 0, slots := 0, locals := 0 } : Room)) Γ [.int 0] (fun w1 r w2 => bq (0 = 0) r ∧ mP G o ad (mU (A) 19 0 0) (L) w1 w2) rfl (fun w1 h1 => t_isFine h1.1) m_obj rfl k_656 k_6 k_653 k_655 s_24 hd_X3_isFine ⟨Nat.le_of_ble_eq_true rfl, Nat.le_of_ble_eq_true rfl⟩ ⟨Nat.le_of_ble_eq_true rfl, Nat.le_of_ble_eq_true rfl⟩ (Nat.le_of_ble_eq_true rfl) dX3_value_41 (fun r => ?_)
        refine m_then (A' := mU (A) 19 0 0) (L' := L) (fun q => ?_)
        refine x_if_ne (tgt := 49) Γ dX3_value_44 (by decide) (fun c44 => ?_) (fun c44 => absurd c44 (q.one rfl))
        refine x_aload_n Γ dX3_value_49 rfl rfl ?_
        refine m_geta Γ 8 (by decide) (fun _ => rfl) k_586 rfl dX3_value_50 ?_
        refine x_iload_n Γ dX3_value_53 rfl rfl ?_
        refine m_ald Γ rfl rfl (by decide) (by show _ < 24; omega) dX3_value_54 ?_
        refine x_istore_n Γ dX3_value_55 rfl rfl (by decide) ?_
        refine x_aload_n Γ dX3_value_56 rfl rfl ?_
        refine m_geta Γ 8 (by decide) (fun _ => rfl) k_586 rfl dX3_value_57 ?_
        refine x_iload_n Γ dX3_value_60 rfl rfl ?_
        refine x_iload_n Γ dX3_value_61 rfl rfl ?_
        refine m_ast Γ rfl rfl (by decide) (by show _ < 24; omega) dX3_value_62 ?_
        refine x_iload_n Γ dX3_value_63 rfl rfl ?_
        refine x_iret Γ rfl rfl (fun w2 e2 => ?_) ⟨Nat.le_of_ble_eq_true rfl, Nat.le_of_ble_eq_true rfl⟩ dX3_value_64
        unfold gValue
        rw [fin_ok hk, ixn ht]
        exact ⟨rfl, e2⟩
      · have hk : kValue A (nI t) v = 3 := by
          unfold kValue
          rw [if_neg (not_not_intro hT), if_neg (not_not_intro (q18.ne c21)), ixn ht, if_pos (q30.eq c33)]
        refine x_iconst (v := 3) Γ dX3_value_36 (by decide) ?_
        refine x_goto (tgt := 41) Γ dX3_value_37 (by decide) ?_
        exact hE 3 (by decide) hk
    · have hk : kValue A (nI t) v = 2 := by
        unfold kValue
        rw [if_neg (not_not_intro hT), if_pos (q18.eq c21)]
      refine x_iconst (v := 2) Γ dX3_value_24 (by decide) ?_
      refine x_goto (tgt := 41) Γ dX3_value_25 (by decide) ?_
      exact hE 2 (by decide) hk
  · have hT := q3.eq c6
    have hk : kValue A x v = 1 := by
      unfold kValue
      exact if_pos (q3.eq c6)
    refine x_iconst (v := 1) Γ dX3_value_9 (by decide) ?_
    refine x_goto (tgt := 41) Γ dX3_value_10 (by decide) ?_
    exact hE 1 (by decide) hk
set_option maxRecDepth 100000 in
theorem tm_lend {o : Nat} {ad : Nat → Nat} {A : xS} {L : List Nat} {w : xW} (h : MRep G w o ad A L) {n : Nat} {x lr z : Int32} (hI : aI A n)  : xMet l G yX3_lend cX3_lend 5 none ({ frames := 3, cells := 0, slots := 0, locals := 140 } : Room) [.ref o, .int x, .int lr, .int z] w embV (fun _ w' => mP G o ad (gLend A L x lr z).2.1 (gLend A L x lr z).2.2 w w') := by
  refine xMet_of (by decide) (Nat.le_of_ble_eq_true rfl) ?_
  intro p e s m below meth c Γ hnm
  have hn := hI.1
  have hn2 := hI.2.1
  refine m_in h ?_
  have hE : ∀ k : Int32, ¬ k = 0 → kLend A x lr z = k → xJ p l e ({ frames := 3, cells := 0, slots := 0, locals := 140 } : Room) s m ([.ref o, .int x, .int lr, .int z] : List Value).toArray below meth c G 5 (MQ below (xQ G embV (fun _ w' => mP G o ad (gLend A L x lr z).2.1 (gLend A L x lr z).2.2 w w')) ([.ref o, .int x, .int lr, .int z] : List Value).toArray s ({ frames := 3, cells := 0, slots := 0, locals := 140 } : Room).cells ({ frames := 3, cells := 0, slots := 0, locals := 140 } : Room).slots (xA G)) (mP G o ad A L w) 0 0 90 [(0, .ref o), (1, .int x), (2, .int lr), (3, .int z)] [.int k, .ref o] := by
    intro k h0 hk
    refine x_invV (emb := embI) (ci := 4) (rm := ({ frames := 0, cells := 0, slots := 0, locals := 0 } : Room)) Γ [.int k] (fun w1 r w2 => bq (k = 0) r ∧ mP G o ad (mU (A) 19 0 k) (L) w1 w2) rfl (fun w1 h1 => t_isFine h1.1) m_obj rfl k_656 k_6 k_653 k_655 s_24 hd_X3_isFine ⟨Nat.le_of_ble_eq_true rfl, Nat.le_of_ble_eq_true rfl⟩ ⟨Nat.le_of_ble_eq_true rfl, Nat.le_of_ble_eq_true rfl⟩ (Nat.le_of_ble_eq_true rfl) dX3_lend_90 (fun r => ?_)
    refine m_then (A' := mU (A) 19 0 k) (L' := L) (fun q => ?_)
    refine x_if_eq (tgt := 132) Γ dX3_lend_93 (by decide) (fun c93 => ?_) (fun c93 => absurd (q.zero h0) c93)
    refine x_vret Γ rfl (fun w2 e2 => ?_) ⟨Nat.le_of_ble_eq_true rfl, Nat.le_of_ble_eq_true rfl⟩ dX3_lend_132
    unfold gLend
    rw [fin_no hk h0]
    exact e2
  refine x_aload_n Γ dX3_lend_0 rfl rfl ?_
  refine x_iload_n Γ dX3_lend_1 rfl rfl ?_
  refine x_invV (emb := embI) (ci := 4) (rm := ({ frames := 1, cells := 0, slots := 0, locals := 40 } : Room)) Γ [.int x] (fun w1 r w2 => bq (kT (A) (x)) r ∧ mP G o ad (A) (L) w1 w2) rfl (fun w1 h1 => t_isThing h1.1) m_obj rfl k_676 k_6 k_673 k_675 s_26 hd_X3_isThing ⟨Nat.le_of_ble_eq_true rfl, Nat.le_of_ble_eq_true rfl⟩ ⟨Nat.le_of_ble_eq_true rfl, Nat.le_of_ble_eq_true rfl⟩ (Nat.le_of_ble_eq_true rfl) dX3_lend_2 (fun r => ?_)
  refine m_then (A' := A) (L' := L) (fun q2 => ?_)
  refine x_if_ne (tgt := 12) Γ dX3_lend_5 (by decide) (fun c5 => ?_) (fun c5 => ?_)
  · obtain ⟨t, htn, ht, rfl⟩ := aI_kT hI (q2.ne c5)
    have hT := aI_toT hI htn
    refine x_iload_n Γ dX3_lend_12 rfl rfl ?_
    refine x_iconst (v := 0) Γ dX3_lend_13 (by decide) ?_
    refine x_bipush (v := 7) Γ dX3_lend_14 (by decide) ?_
    refine x_invS (emb := embI) (rm := ({ frames := 0, cells := 0, slots := 0, locals := 0 } : Room)) Γ [.int (lr), .int (0), .int (7)] (fun w1 r w2 => bq (rIn (0) (7) (lr)) r ∧ w2 = w1) rfl (fun w1 h1 => t_in) k_652 k_6 k_650 k_651 hd_X3_in ⟨Nat.le_of_ble_eq_true rfl, Nat.le_of_ble_eq_true rfl⟩ ⟨Nat.le_of_ble_eq_true rfl, Nat.le_of_ble_eq_true rfl⟩ (Nat.le_of_ble_eq_true rfl) dX3_lend_16 (fun r => ?_)
    refine m_same (fun q16 => ?_)
    refine x_if_eq (tgt := 33) Γ dX3_lend_19 (by decide) (fun c19 => ?_) (fun c19 => ?_)
    · have hk : kLend A (nI t) lr z = 2 := by
        unfold kLend
        rw [if_neg (not_not_intro hT), if_pos (fun z => by first | exact q16.eq c19 z.1 | exact q27.eq c30 z.2)]
      refine x_iconst (v := 2) Γ dX3_lend_33 (by decide) ?_
      refine x_goto (tgt := 38) Γ dX3_lend_34 (by decide) ?_
      refine x_istore Γ dX3_lend_38 rfl (by decide) ?_
      refine x_iload Γ dX3_lend_40 rfl ?_
      refine x_if_ne (tgt := 87) Γ dX3_lend_42 (by decide) (fun c42 => ?_) (fun c42 => absurd c42 (by decide))
      refine x_aload_n Γ dX3_lend_87 rfl rfl ?_
      refine x_iload Γ dX3_lend_88 rfl ?_
      refine x_lv [0, 1, 2, 3] rfl ?_
      exact hE 2 (by decide) hk
    · refine x_iload_n Γ dX3_lend_22 rfl rfl ?_
      refine x_iconst (v := 1) Γ dX3_lend_23 (by decide) ?_
      refine x_sipush (v := 5000) Γ dX3_lend_24 (by decide) ?_
      refine x_invS (emb := embI) (rm := ({ frames := 0, cells := 0, slots := 0, locals := 0 } : Room)) Γ [.int (z), .int (1), .int (5000)] (fun w1 r w2 => bq (rIn (1) (5000) (z)) r ∧ w2 = w1) rfl (fun w1 h1 => t_in) k_652 k_6 k_650 k_651 hd_X3_in ⟨Nat.le_of_ble_eq_true rfl, Nat.le_of_ble_eq_true rfl⟩ ⟨Nat.le_of_ble_eq_true rfl, Nat.le_of_ble_eq_true rfl⟩ (Nat.le_of_ble_eq_true rfl) dX3_lend_27 (fun r => ?_)
      refine m_same (fun q27 => ?_)
      refine x_if_ne (tgt := 37) Γ dX3_lend_30 (by decide) (fun c30 => ?_) (fun c30 => ?_)
      · have hR : rIn 0 7 lr ∧ rIn 1 5000 z := ⟨q16.ne c19, q27.ne c30⟩
        refine x_iconst (v := 0) Γ dX3_lend_37 (by decide) ?_
        refine x_istore Γ dX3_lend_38 rfl (by decide) ?_
        refine x_iload Γ dX3_lend_40 rfl ?_
        refine x_if_ne (tgt := 87) Γ dX3_lend_42 (by decide) (fun c42 => absurd (rfl) c42) (fun c42 => ?_)
        refine x_aload_n Γ dX3_lend_45 rfl rfl ?_
        refine x_iload_n Γ dX3_lend_46 rfl rfl ?_
        refine x_invV (emb := embI) (ci := 4) (rm := ({ frames := 0, cells := 0, slots := 0, locals := 0 } : Room)) Γ [.int (nI t)] (fun w1 r w2 => bq ((A) 9 t < 5) r ∧ mP G o ad (A) (L) w1 w2) rfl (fun w1 h1 => t_isAt h1.1 (by omega)) m_obj rfl k_680 k_6 k_677 k_679 s_27 hd_X3_isAt ⟨Nat.le_of_ble_eq_true rfl, Nat.le_of_ble_eq_true rfl⟩ ⟨Nat.le_of_ble_eq_true rfl, Nat.le_of_ble_eq_true rfl⟩ (Nat.le_of_ble_eq_true rfl) dX3_lend_47 (fun r => ?_)
        refine m_then (A' := A) (L' := L) (fun q47 => ?_)
        refine x_if_eq (tgt := 84) Γ dX3_lend_50 (by decide) (fun c50 => ?_) (fun c50 => ?_)
        · have hk : kLend A (nI t) lr z = 3 := by
            unfold kLend
            rw [if_neg (not_not_intro hT), if_neg (not_not_intro hR), ixn ht, if_pos (by first | exact Or.inl (q47.eq c50) | exact Or.inr (Or.inl c60) | exact Or.inr (Or.inr (Or.inl c69)) | exact Or.inr (Or.inr (Or.inr (Int32.not_le.mp c81))))]
          refine x_iconst (v := 3) Γ dX3_lend_84 (by decide) ?_
          refine x_istore Γ dX3_lend_85 rfl (by decide) ?_
          refine x_aload_n Γ dX3_lend_87 rfl rfl ?_
          refine x_iload Γ dX3_lend_88 rfl ?_
          refine x_lv [0, 1, 2, 3] rfl ?_
          exact hE 3 (by decide) hk
        · refine x_aload_n Γ dX3_lend_53 rfl rfl ?_
          refine m_geta Γ 6 (by decide) (fun _ => rfl) k_584 rfl dX3_lend_54 ?_
          refine x_iload_n Γ dX3_lend_57 rfl rfl ?_
          refine m_ald Γ rfl rfl (by decide) (by show _ < 24; omega) dX3_lend_58 ?_
          refine x_iload_n Γ dX3_lend_59 rfl rfl ?_
          refine x_icmp_eq (tgt := 84) Γ dX3_lend_60 (by decide) (fun c60 => ?_) (fun c60 => ?_)
          · have hk : kLend A (nI t) lr z = 3 := by
              unfold kLend
              rw [if_neg (not_not_intro hT), if_neg (not_not_intro hR), ixn ht, if_pos (by first | exact Or.inl (q47.eq c50) | exact Or.inr (Or.inl c60) | exact Or.inr (Or.inr (Or.inl c69)) | exact Or.inr (Or.inr (Or.inr (Int32.not_le.mp c81))))]
            refine x_iconst (v := 3) Γ dX3_lend_84 (by decide) ?_
            refine x_istore Γ dX3_lend_85 rfl (by decide) ?_
            refine x_aload_n Γ dX3_lend_87 rfl rfl ?_
            refine x_iload Γ dX3_lend_88 rfl ?_
            refine x_lv [0, 1, 2, 3] rfl ?_
            exact hE 3 (by decide) hk
          · refine x_aload_n Γ dX3_lend_63 rfl rfl ?_
            refine m_geta Γ 12 (by decide) (fun _ => rfl) k_590 rfl dX3_lend_64 ?_
            refine x_iload_n Γ dX3_lend_67 rfl rfl ?_
            refine m_ald Γ rfl rfl (by decide) (by show _ < 24; omega) dX3_lend_68 ?_
            refine x_if_gt (tgt := 84) Γ dX3_lend_69 (by decide) (fun c69 => ?_) (fun c69 => ?_)
            · have hk : kLend A (nI t) lr z = 3 := by
                unfold kLend
                rw [if_neg (not_not_intro hT), if_neg (not_not_intro hR), ixn ht, if_pos (by first | exact Or.inl (q47.eq c50) | exact Or.inr (Or.inl c60) | exact Or.inr (Or.inr (Or.inl c69)) | exact Or.inr (Or.inr (Or.inr (Int32.not_le.mp c81))))]
              refine x_iconst (v := 3) Γ dX3_lend_84 (by decide) ?_
              refine x_istore Γ dX3_lend_85 rfl (by decide) ?_
              refine x_aload_n Γ dX3_lend_87 rfl rfl ?_
              refine x_iload Γ dX3_lend_88 rfl ?_
              refine x_lv [0, 1, 2, 3] rfl ?_
              exact hE 3 (by decide) hk
            · refine x_iload_n Γ dX3_lend_72 rfl rfl ?_
              refine x_aload_n Γ dX3_lend_73 rfl rfl ?_
              refine m_geta Γ 8 (by decide) (fun _ => rfl) k_586 rfl dX3_lend_74 ?_
              refine x_iload_n Γ dX3_lend_77 rfl rfl ?_
              refine m_ald Γ rfl rfl (by decide) (by show _ < 24; omega) dX3_lend_78 ?_
              refine x_iconst (v := 2) Γ dX3_lend_79 (by decide) ?_
              refine x_idiv Γ dX3_lend_80 (by decide) ?_
              refine x_icmp_le (tgt := 87) Γ dX3_lend_81 (by decide) (fun c81 => ?_) (fun c81 => ?_)
              · have hk : kLend A (nI t) lr z = 0 := by
                  unfold kLend
                  rw [if_neg (not_not_intro hT), if_neg (not_not_intro hR), ixn ht, if_neg (fun z => z.elim (fun z => z (q47.ne c50)) (fun z => z.elim (fun z => c60 z) (fun z => z.elim (fun z => c69 z) (fun z => Int32.not_lt.mpr c81 z))))]
                refine x_aload_n Γ dX3_lend_87 rfl rfl ?_
                refine x_iload Γ dX3_lend_88 rfl ?_
                obtain ⟨ow, how8, how⟩ := hI.2.2.2.1 t ht
                have how2 : mU (mU (mU (mU A 19 0 0) 12 t z) 13 t lr) 14 t (-1) 6 t = nI ow := how
                refine x_invV (emb := embI) (ci := 4) (rm := ({ frames := 0, cells := 0, slots := 0, locals := 0 } : Room)) Γ [.int 0] (fun w1 r w2 => bq (0 = 0) r ∧ mP G o ad (mU (A) 19 0 0) (L) w1 w2) rfl (fun w1 h1 => t_isFine h1.1) m_obj rfl k_656 k_6 k_653 k_655 s_24 hd_X3_isFine ⟨Nat.le_of_ble_eq_true rfl, Nat.le_of_ble_eq_true rfl⟩ ⟨Nat.le_of_ble_eq_true rfl, Nat.le_of_ble_eq_true rfl⟩ (Nat.le_of_ble_eq_true rfl) dX3_lend_90 (fun r => ?_)
                refine m_then (A' := mU (A) 19 0 0) (L' := L) (fun q => ?_)
                refine x_if_eq (tgt := 132) Γ dX3_lend_93 (by decide) (fun c93 => absurd c93 (q.one rfl)) (fun c93 => ?_)
                refine x_aload_n Γ dX3_lend_96 rfl rfl ?_
                refine m_geta Γ 12 (by decide) (fun _ => rfl) k_590 rfl dX3_lend_97 ?_
                refine x_iload_n Γ dX3_lend_100 rfl rfl ?_
                refine x_iload_n Γ dX3_lend_101 rfl rfl ?_
                refine m_ast Γ rfl rfl (by decide) (by show _ < 24; omega) dX3_lend_102 ?_
                refine x_aload_n Γ dX3_lend_103 rfl rfl ?_
                refine m_geta Γ 13 (by decide) (fun _ => rfl) k_591 rfl dX3_lend_104 ?_
                refine x_iload_n Γ dX3_lend_107 rfl rfl ?_
                refine x_iload_n Γ dX3_lend_108 rfl rfl ?_
                refine m_ast Γ rfl rfl (by decide) (by show _ < 24; omega) dX3_lend_109 ?_
                refine x_aload_n Γ dX3_lend_110 rfl rfl ?_
                refine m_geta Γ 14 (by decide) (fun _ => rfl) k_592 rfl dX3_lend_111 ?_
                refine x_iload_n Γ dX3_lend_114 rfl rfl ?_
                refine x_iconst (v := (-1)) Γ dX3_lend_115 (by decide) ?_
                refine m_ast Γ rfl rfl (by decide) (by show _ < 24; omega) dX3_lend_116 ?_
                refine x_aload_n Γ dX3_lend_117 rfl rfl ?_
                refine m_geta Γ 2 (by decide) (fun _ => rfl) k_580 rfl dX3_lend_118 ?_
                refine x_aload_n Γ dX3_lend_121 rfl rfl ?_
                refine m_geta Γ 6 (by decide) (fun _ => rfl) k_584 rfl dX3_lend_122 ?_
                refine x_iload_n Γ dX3_lend_125 rfl rfl ?_
                refine m_ald Γ rfl rfl (by decide) (by show _ < 24; omega) dX3_lend_126 ?_
                rw [how2]
                refine x_dup2 Γ dX3_lend_127 rfl rfl ?_
                refine m_ald Γ rfl rfl (by decide) (by show ow < 8; omega) dX3_lend_128 ?_
                refine x_iload_n Γ dX3_lend_129 rfl rfl ?_
                refine x_iadd Γ dX3_lend_130 ?_
                refine m_ast Γ rfl rfl (by decide) (by show ow < 8; omega) dX3_lend_131 ?_
                refine x_vret Γ rfl (fun w2 e2 => ?_) ⟨Nat.le_of_ble_eq_true rfl, Nat.le_of_ble_eq_true rfl⟩ dX3_lend_132
                unfold gLend
                rw [fin_ok hk, ixn ht]
                unfold bLend
                rw [show mU A 19 0 0 6 t = nI ow from how, ixn (by omega)]
                exact e2
              · have hk : kLend A (nI t) lr z = 3 := by
                  unfold kLend
                  rw [if_neg (not_not_intro hT), if_neg (not_not_intro hR), ixn ht, if_pos (by first | exact Or.inl (q47.eq c50) | exact Or.inr (Or.inl c60) | exact Or.inr (Or.inr (Or.inl c69)) | exact Or.inr (Or.inr (Or.inr (Int32.not_le.mp c81))))]
                refine x_iconst (v := 3) Γ dX3_lend_84 (by decide) ?_
                refine x_istore Γ dX3_lend_85 rfl (by decide) ?_
                refine x_aload_n Γ dX3_lend_87 rfl rfl ?_
                refine x_iload Γ dX3_lend_88 rfl ?_
                refine x_lv [0, 1, 2, 3] rfl ?_
                exact hE 3 (by decide) hk
      · have hk : kLend A (nI t) lr z = 2 := by
          unfold kLend
          rw [if_neg (not_not_intro hT), if_pos (fun z => by first | exact q16.eq c19 z.1 | exact q27.eq c30 z.2)]
        refine x_iconst (v := 2) Γ dX3_lend_33 (by decide) ?_
        refine x_goto (tgt := 38) Γ dX3_lend_34 (by decide) ?_
        refine x_istore Γ dX3_lend_38 rfl (by decide) ?_
        refine x_iload Γ dX3_lend_40 rfl ?_
        refine x_if_ne (tgt := 87) Γ dX3_lend_42 (by decide) (fun c42 => ?_) (fun c42 => absurd c42 (by decide))
        refine x_aload_n Γ dX3_lend_87 rfl rfl ?_
        refine x_iload Γ dX3_lend_88 rfl ?_
        refine x_lv [0, 1, 2, 3] rfl ?_
        exact hE 2 (by decide) hk
  · have hT := q2.eq c5
    have hk : kLend A x lr z = 1 := by
      unfold kLend
      exact if_pos (q2.eq c5)
    refine x_iconst (v := 1) Γ dX3_lend_8 (by decide) ?_
    refine x_goto (tgt := 38) Γ dX3_lend_9 (by decide) ?_
    refine x_istore Γ dX3_lend_38 rfl (by decide) ?_
    refine x_iload Γ dX3_lend_40 rfl ?_
    refine x_if_ne (tgt := 87) Γ dX3_lend_42 (by decide) (fun c42 => ?_) (fun c42 => absurd c42 (by decide))
    refine x_aload_n Γ dX3_lend_87 rfl rfl ?_
    refine x_iload Γ dX3_lend_88 rfl ?_
    refine x_lv [0, 1, 2, 3] rfl ?_
    exact hE 1 (by decide) hk
set_option maxRecDepth 100000 in
theorem tm_repay {o : Nat} {ad : Nat → Nat} {A : xS} {L : List Nat} {w : xW} (h : MRep G w o ad A L) {n : Nat} {x : Int32} (hI : aI A n)  : xMet l G yX3_repay cX3_repay 3 (some .int) ({ frames := 3, cells := 0, slots := 0, locals := 140 } : Room) [.ref o, .int x] w embI (fun r w' => r = (gRepay A L x).1 ∧ mP G o ad (gRepay A L x).2.1 (gRepay A L x).2.2 w w') := by
  refine xMet_of (by decide) (Nat.le_of_ble_eq_true rfl) ?_
  intro p e s m below meth c Γ hnm
  have hn := hI.1
  have hn2 := hI.2.1
  refine m_in h ?_
  have hE : ∀ k : Int32, ¬ k = 0 → kRepay A x = k → xJ p l e ({ frames := 3, cells := 0, slots := 0, locals := 140 } : Room) s m ([.ref o, .int x] : List Value).toArray below meth c G 3 (MQ below (xQ G embI (fun r w' => r = (gRepay A L x).1 ∧ mP G o ad (gRepay A L x).2.1 (gRepay A L x).2.2 w w')) ([.ref o, .int x] : List Value).toArray s ({ frames := 3, cells := 0, slots := 0, locals := 140 } : Room).cells ({ frames := 3, cells := 0, slots := 0, locals := 140 } : Room).slots (xA G)) (mP G o ad A L w) 0 0 27 [(0, .ref o), (1, .int x)] [.int k, .ref o] := by
    intro k h0 hk
    refine x_invV (emb := embI) (ci := 4) (rm := ({ frames := 0, cells := 0, slots := 0, locals := 0 } : Room)) Γ [.int k] (fun w1 r w2 => bq (k = 0) r ∧ mP G o ad (mU (A) 19 0 k) (L) w1 w2) rfl (fun w1 h1 => t_isFine h1.1) m_obj rfl k_656 k_6 k_653 k_655 s_24 hd_X3_isFine ⟨Nat.le_of_ble_eq_true rfl, Nat.le_of_ble_eq_true rfl⟩ ⟨Nat.le_of_ble_eq_true rfl, Nat.le_of_ble_eq_true rfl⟩ (Nat.le_of_ble_eq_true rfl) dX3_repay_27 (fun r => ?_)
    refine m_then (A' := mU (A) 19 0 k) (L' := L) (fun q => ?_)
    refine x_if_ne (tgt := 35) Γ dX3_repay_30 (by decide) (fun c30 => absurd (q.zero h0) c30) (fun c30 => ?_)
    refine x_iconst (v := 0) Γ dX3_repay_33 (by decide) ?_
    refine x_iret Γ rfl rfl (fun w2 e2 => ?_) ⟨Nat.le_of_ble_eq_true rfl, Nat.le_of_ble_eq_true rfl⟩ dX3_repay_34
    unfold gRepay
    rw [fin_no hk h0]
    exact ⟨rfl, e2⟩
  refine x_aload_n Γ dX3_repay_0 rfl rfl ?_
  refine x_aload_n Γ dX3_repay_1 rfl rfl ?_
  refine x_iload_n Γ dX3_repay_2 rfl rfl ?_
  refine x_invV (emb := embI) (ci := 4) (rm := ({ frames := 1, cells := 0, slots := 0, locals := 40 } : Room)) Γ [.int x] (fun w1 r w2 => bq (kT (A) (x)) r ∧ mP G o ad (A) (L) w1 w2) rfl (fun w1 h1 => t_isThing h1.1) m_obj rfl k_676 k_6 k_673 k_675 s_26 hd_X3_isThing ⟨Nat.le_of_ble_eq_true rfl, Nat.le_of_ble_eq_true rfl⟩ ⟨Nat.le_of_ble_eq_true rfl, Nat.le_of_ble_eq_true rfl⟩ (Nat.le_of_ble_eq_true rfl) dX3_repay_3 (fun r => ?_)
  refine m_then (A' := A) (L' := L) (fun q3 => ?_)
  refine x_if_ne (tgt := 13) Γ dX3_repay_6 (by decide) (fun c6 => ?_) (fun c6 => ?_)
  · obtain ⟨t, htn, ht, rfl⟩ := aI_kT hI (q3.ne c6)
    have hT := aI_toT hI htn
    refine x_aload_n Γ dX3_repay_13 rfl rfl ?_
    refine m_geta Γ 12 (by decide) (fun _ => rfl) k_590 rfl dX3_repay_14 ?_
    refine x_iload_n Γ dX3_repay_17 rfl rfl ?_
    refine m_ald Γ rfl rfl (by decide) (by show _ < 24; omega) dX3_repay_18 ?_
    refine x_if_ne (tgt := 26) Γ dX3_repay_19 (by decide) (fun c19 => ?_) (fun c19 => ?_)
    · have hk : kRepay A (nI t) = 0 := by
        unfold kRepay
        rw [if_neg (not_not_intro hT), ixn ht, if_neg c19]
      refine x_iconst (v := 0) Γ dX3_repay_26 (by decide) ?_
      obtain ⟨ow, how8, how⟩ := hI.2.2.2.2 t ht
      have how2 : mU A 19 0 0 13 t = nI ow := how
      refine x_invV (emb := embI) (ci := 4) (rm := ({ frames := 0, cells := 0, slots := 0, locals := 0 } : Room)) Γ [.int 0] (fun w1 r w2 => bq (0 = 0) r ∧ mP G o ad (mU (A) 19 0 0) (L) w1 w2) rfl (fun w1 h1 => t_isFine h1.1) m_obj rfl k_656 k_6 k_653 k_655 s_24 hd_X3_isFine ⟨Nat.le_of_ble_eq_true rfl, Nat.le_of_ble_eq_true rfl⟩ ⟨Nat.le_of_ble_eq_true rfl, Nat.le_of_ble_eq_true rfl⟩ (Nat.le_of_ble_eq_true rfl) dX3_repay_27 (fun r => ?_)
      refine m_then (A' := mU (A) 19 0 0) (L' := L) (fun q => ?_)
      refine x_if_ne (tgt := 35) Γ dX3_repay_30 (by decide) (fun c30 => ?_) (fun c30 => absurd c30 (q.one rfl))
      refine x_aload_n Γ dX3_repay_35 rfl rfl ?_
      refine m_geta Γ 12 (by decide) (fun _ => rfl) k_590 rfl dX3_repay_36 ?_
      refine x_iload_n Γ dX3_repay_39 rfl rfl ?_
      refine m_ald Γ rfl rfl (by decide) (by show _ < 24; omega) dX3_repay_40 ?_
      refine x_istore_n Γ dX3_repay_41 rfl rfl (by decide) ?_
      refine x_aload_n Γ dX3_repay_42 rfl rfl ?_
      refine m_geta Γ 2 (by decide) (fun _ => rfl) k_580 rfl dX3_repay_43 ?_
      refine x_aload_n Γ dX3_repay_46 rfl rfl ?_
      refine m_geta Γ 13 (by decide) (fun _ => rfl) k_591 rfl dX3_repay_47 ?_
      refine x_iload_n Γ dX3_repay_50 rfl rfl ?_
      refine m_ald Γ rfl rfl (by decide) (by show _ < 24; omega) dX3_repay_51 ?_
      rw [how2]
      refine x_dup2 Γ dX3_repay_52 rfl rfl ?_
      refine m_ald Γ rfl rfl (by decide) (by show ow < 8; omega) dX3_repay_53 ?_
      refine x_iload_n Γ dX3_repay_54 rfl rfl ?_
      refine x_iadd Γ dX3_repay_55 ?_
      refine m_ast Γ rfl rfl (by decide) (by show ow < 8; omega) dX3_repay_56 ?_
      refine x_aload_n Γ dX3_repay_57 rfl rfl ?_
      refine m_geta Γ 12 (by decide) (fun _ => rfl) k_590 rfl dX3_repay_58 ?_
      refine x_iload_n Γ dX3_repay_61 rfl rfl ?_
      refine x_iconst (v := 0) Γ dX3_repay_62 (by decide) ?_
      refine m_ast Γ rfl rfl (by decide) (by show _ < 24; omega) dX3_repay_63 ?_
      refine x_aload_n Γ dX3_repay_64 rfl rfl ?_
      refine m_geta Γ 14 (by decide) (fun _ => rfl) k_592 rfl dX3_repay_65 ?_
      refine x_iload_n Γ dX3_repay_68 rfl rfl ?_
      refine x_iconst (v := (-1)) Γ dX3_repay_69 (by decide) ?_
      refine m_ast Γ rfl rfl (by decide) (by show _ < 24; omega) dX3_repay_70 ?_
      refine x_iload_n Γ dX3_repay_71 rfl rfl ?_
      refine x_iret Γ rfl rfl (fun w2 e2 => ?_) ⟨Nat.le_of_ble_eq_true rfl, Nat.le_of_ble_eq_true rfl⟩ dX3_repay_72
      unfold gRepay
      rw [fin_ok hk, ixn ht]
      unfold bRepay
      rw [show mU A 19 0 0 13 t = nI ow from how, ixn (by omega)]
      exact ⟨rfl, e2⟩
    · have hk : kRepay A (nI t) = 2 := by
        unfold kRepay
        rw [if_neg (not_not_intro hT), ixn ht, if_pos c19]
      refine x_iconst (v := 2) Γ dX3_repay_22 (by decide) ?_
      refine x_goto (tgt := 27) Γ dX3_repay_23 (by decide) ?_
      exact hE 2 (by decide) hk
  · have hT := q3.eq c6
    have hk : kRepay A x = 1 := by
      unfold kRepay
      exact if_pos (q3.eq c6)
    refine x_iconst (v := 1) Γ dX3_repay_9 (by decide) ?_
    refine x_goto (tgt := 27) Γ dX3_repay_10 (by decide) ?_
    exact hE 1 (by decide) hk
set_option maxRecDepth 100000 in
theorem tm_doubt {o : Nat} {ad : Nat → Nat} {A : xS} {L : List Nat} {w : xW} (h : MRep G w o ad A L) {n : Nat} {x : Int32} (hI : aI A n)  : xMet l G yX3_doubt cX3_doubt 2 (some .int) ({ frames := 3, cells := 0, slots := 0, locals := 140 } : Room) [.ref o, .int x] w embI (fun r w' => r = (gDoubt A L x).1 ∧ mP G o ad (gDoubt A L x).2.1 (gDoubt A L x).2.2 w w') := by
  refine xMet_of (by decide) (Nat.le_of_ble_eq_true rfl) ?_
  intro p e s m below meth c Γ hnm
  have hn := hI.1
  have hn2 := hI.2.1
  refine m_in h ?_
  have hE : ∀ k : Int32, ¬ k = 0 → kDoubt A x = k → xJ p l e ({ frames := 3, cells := 0, slots := 0, locals := 140 } : Room) s m ([.ref o, .int x] : List Value).toArray below meth c G 2 (MQ below (xQ G embI (fun r w' => r = (gDoubt A L x).1 ∧ mP G o ad (gDoubt A L x).2.1 (gDoubt A L x).2.2 w w')) ([.ref o, .int x] : List Value).toArray s ({ frames := 3, cells := 0, slots := 0, locals := 140 } : Room).cells ({ frames := 3, cells := 0, slots := 0, locals := 140 } : Room).slots (xA G)) (mP G o ad A L w) 0 0 37 [(0, .ref o), (1, .int x)] [.int k, .ref o] := by
    intro k h0 hk
    refine x_invV (emb := embI) (ci := 4) (rm := ({ frames := 0, cells := 0, slots := 0, locals := 0 } : Room)) Γ [.int k] (fun w1 r w2 => bq (k = 0) r ∧ mP G o ad (mU (A) 19 0 k) (L) w1 w2) rfl (fun w1 h1 => t_isFine h1.1) m_obj rfl k_656 k_6 k_653 k_655 s_24 hd_X3_isFine ⟨Nat.le_of_ble_eq_true rfl, Nat.le_of_ble_eq_true rfl⟩ ⟨Nat.le_of_ble_eq_true rfl, Nat.le_of_ble_eq_true rfl⟩ (Nat.le_of_ble_eq_true rfl) dX3_doubt_37 (fun r => ?_)
    refine m_then (A' := mU (A) 19 0 k) (L' := L) (fun q => ?_)
    refine x_if_ne (tgt := 45) Γ dX3_doubt_40 (by decide) (fun c40 => absurd (q.zero h0) c40) (fun c40 => ?_)
    refine x_iconst (v := 0) Γ dX3_doubt_43 (by decide) ?_
    refine x_iret Γ rfl rfl (fun w2 e2 => ?_) ⟨Nat.le_of_ble_eq_true rfl, Nat.le_of_ble_eq_true rfl⟩ dX3_doubt_44
    unfold gDoubt
    rw [fin_no hk h0]
    exact ⟨rfl, e2⟩
  refine x_aload_n Γ dX3_doubt_0 rfl rfl ?_
  refine x_aload_n Γ dX3_doubt_1 rfl rfl ?_
  refine x_iload_n Γ dX3_doubt_2 rfl rfl ?_
  refine x_invV (emb := embI) (ci := 4) (rm := ({ frames := 1, cells := 0, slots := 0, locals := 40 } : Room)) Γ [.int x] (fun w1 r w2 => bq (kT (A) (x)) r ∧ mP G o ad (A) (L) w1 w2) rfl (fun w1 h1 => t_isThing h1.1) m_obj rfl k_676 k_6 k_673 k_675 s_26 hd_X3_isThing ⟨Nat.le_of_ble_eq_true rfl, Nat.le_of_ble_eq_true rfl⟩ ⟨Nat.le_of_ble_eq_true rfl, Nat.le_of_ble_eq_true rfl⟩ (Nat.le_of_ble_eq_true rfl) dX3_doubt_3 (fun r => ?_)
  refine m_then (A' := A) (L' := L) (fun q3 => ?_)
  refine x_if_ne (tgt := 13) Γ dX3_doubt_6 (by decide) (fun c6 => ?_) (fun c6 => ?_)
  · obtain ⟨t, htn, ht, rfl⟩ := aI_kT hI (q3.ne c6)
    have hT := aI_toT hI htn
    refine x_aload_n Γ dX3_doubt_13 rfl rfl ?_
    refine m_geta Γ 12 (by decide) (fun _ => rfl) k_590 rfl dX3_doubt_14 ?_
    refine x_iload_n Γ dX3_doubt_17 rfl rfl ?_
    refine m_ald Γ rfl rfl (by decide) (by show _ < 24; omega) dX3_doubt_18 ?_
    refine x_if_eq (tgt := 32) Γ dX3_doubt_19 (by decide) (fun c19 => ?_) (fun c19 => ?_)
    · have hk : kDoubt A (nI t) = 2 := by
        unfold kDoubt
        rw [if_neg (not_not_intro hT), ixn ht, if_pos (by first | exact Or.inl c19 | exact Or.inr c29)]
      refine x_iconst (v := 2) Γ dX3_doubt_32 (by decide) ?_
      refine x_goto (tgt := 37) Γ dX3_doubt_33 (by decide) ?_
      exact hE 2 (by decide) hk
    · refine x_aload_n Γ dX3_doubt_22 rfl rfl ?_
      refine m_geta Γ 14 (by decide) (fun _ => rfl) k_592 rfl dX3_doubt_23 ?_
      refine x_iload_n Γ dX3_doubt_26 rfl rfl ?_
      refine m_ald Γ rfl rfl (by decide) (by show _ < 24; omega) dX3_doubt_27 ?_
      refine x_iconst (v := (-1)) Γ dX3_doubt_28 (by decide) ?_
      refine x_icmp_eq (tgt := 36) Γ dX3_doubt_29 (by decide) (fun c29 => ?_) (fun c29 => ?_)
      · have hk : kDoubt A (nI t) = 0 := by
          unfold kDoubt
          rw [if_neg (not_not_intro hT), ixn ht, if_neg (fun z => z.elim (fun z => c19 z) (fun z => z c29))]
        refine x_iconst (v := 0) Γ dX3_doubt_36 (by decide) ?_
        refine x_invV (emb := embI) (ci := 4) (rm := ({ frames := 0, cells := 0, slots := 0, locals := 0 } : Room)) Γ [.int 0] (fun w1 r w2 => bq (0 = 0) r ∧ mP G o ad (mU (A) 19 0 0) (L) w1 w2) rfl (fun w1 h1 => t_isFine h1.1) m_obj rfl k_656 k_6 k_653 k_655 s_24 hd_X3_isFine ⟨Nat.le_of_ble_eq_true rfl, Nat.le_of_ble_eq_true rfl⟩ ⟨Nat.le_of_ble_eq_true rfl, Nat.le_of_ble_eq_true rfl⟩ (Nat.le_of_ble_eq_true rfl) dX3_doubt_37 (fun r => ?_)
        refine m_then (A' := mU (A) 19 0 0) (L' := L) (fun q => ?_)
        refine x_if_ne (tgt := 45) Γ dX3_doubt_40 (by decide) (fun c40 => ?_) (fun c40 => absurd c40 (q.one rfl))
        refine x_aload_n Γ dX3_doubt_45 rfl rfl ?_
        refine m_geta Γ 14 (by decide) (fun _ => rfl) k_592 rfl dX3_doubt_46 ?_
        refine x_iload_n Γ dX3_doubt_49 rfl rfl ?_
        refine x_aload_n Γ dX3_doubt_50 rfl rfl ?_
        refine m_geti Γ 4 (by decide) (by decide) (fun _ => rfl) k_582 rfl dX3_doubt_51 ?_
        refine x_iconst (v := 3) Γ dX3_doubt_54 (by decide) ?_
        refine x_iadd Γ dX3_doubt_55 ?_
        refine m_ast Γ rfl rfl (by decide) (by show _ < 24; omega) dX3_doubt_56 ?_
        refine x_aload_n Γ dX3_doubt_57 rfl rfl ?_
        refine m_geta Γ 14 (by decide) (fun _ => rfl) k_592 rfl dX3_doubt_58 ?_
        refine x_iload_n Γ dX3_doubt_61 rfl rfl ?_
        refine m_ald Γ rfl rfl (by decide) (by show _ < 24; omega) dX3_doubt_62 ?_
        rw [mU_eq]
        refine x_iret Γ rfl rfl (fun w2 e2 => ?_) ⟨Nat.le_of_ble_eq_true rfl, Nat.le_of_ble_eq_true rfl⟩ dX3_doubt_63
        unfold gDoubt
        rw [fin_ok hk, ixn ht]
        exact ⟨rfl, e2⟩
      · have hk : kDoubt A (nI t) = 2 := by
          unfold kDoubt
          rw [if_neg (not_not_intro hT), ixn ht, if_pos (by first | exact Or.inl c19 | exact Or.inr c29)]
        refine x_iconst (v := 2) Γ dX3_doubt_32 (by decide) ?_
        refine x_goto (tgt := 37) Γ dX3_doubt_33 (by decide) ?_
        exact hE 2 (by decide) hk
  · have hT := q3.eq c6
    have hk : kDoubt A x = 1 := by
      unfold kDoubt
      exact if_pos (q3.eq c6)
    refine x_iconst (v := 1) Γ dX3_doubt_9 (by decide) ?_
    refine x_goto (tgt := 37) Γ dX3_doubt_10 (by decide) ?_
    exact hE 1 (by decide) hk
set_option maxRecDepth 100000 in
theorem tm_where {o : Nat} {ad : Nat → Nat} {A : xS} {L : List Nat} {w : xW} (h : MRep G w o ad A L) {n : Nat} {x : Int32} (hI : aI A n)  : xMet l G yX3_where cX3_where 2 (some .int) ({ frames := 3, cells := 0, slots := 0, locals := 140 } : Room) [.ref o, .int x] w embI (fun r w' => r = (gT1 9 A L x).1 ∧ mP G o ad (gT1 9 A L x).2.1 (gT1 9 A L x).2.2 w w') := by
  refine xMet_of (by decide) (Nat.le_of_ble_eq_true rfl) ?_
  intro p e s m below meth c Γ hnm
  have hn := hI.1
  have hn2 := hI.2.1
  refine m_in h ?_
  have hE : ∀ k : Int32, ¬ k = 0 → kT1 A x = k → xJ p l e ({ frames := 3, cells := 0, slots := 0, locals := 140 } : Room) s m ([.ref o, .int x] : List Value).toArray below meth c G 2 (MQ below (xQ G embI (fun r w' => r = (gT1 9 A L x).1 ∧ mP G o ad (gT1 9 A L x).2.1 (gT1 9 A L x).2.2 w w')) ([.ref o, .int x] : List Value).toArray s ({ frames := 3, cells := 0, slots := 0, locals := 140 } : Room).cells ({ frames := 3, cells := 0, slots := 0, locals := 140 } : Room).slots (xA G)) (mP G o ad A L w) 0 0 14 [(0, .ref o), (1, .int x)] [.int k, .ref o] := by
    intro k h0 hk
    refine x_invV (emb := embI) (ci := 4) (rm := ({ frames := 0, cells := 0, slots := 0, locals := 0 } : Room)) Γ [.int k] (fun w1 r w2 => bq (k = 0) r ∧ mP G o ad (mU (A) 19 0 k) (L) w1 w2) rfl (fun w1 h1 => t_isFine h1.1) m_obj rfl k_656 k_6 k_653 k_655 s_24 hd_X3_isFine ⟨Nat.le_of_ble_eq_true rfl, Nat.le_of_ble_eq_true rfl⟩ ⟨Nat.le_of_ble_eq_true rfl, Nat.le_of_ble_eq_true rfl⟩ (Nat.le_of_ble_eq_true rfl) dX3_where_14 (fun r => ?_)
    refine m_then (A' := mU (A) 19 0 k) (L' := L) (fun q => ?_)
    refine x_if_eq (tgt := 29) Γ dX3_where_17 (by decide) (fun c17 => ?_) (fun c17 => absurd (q.zero h0) c17)
    refine x_iconst (v := 0) Γ dX3_where_29 (by decide) ?_
    refine x_iret Γ rfl rfl (fun w2 e2 => ?_) ⟨Nat.le_of_ble_eq_true rfl, Nat.le_of_ble_eq_true rfl⟩ dX3_where_30
    unfold gT1
    rw [fin_no hk h0]
    exact ⟨rfl, e2⟩
  refine x_aload_n Γ dX3_where_0 rfl rfl ?_
  refine x_aload_n Γ dX3_where_1 rfl rfl ?_
  refine x_iload_n Γ dX3_where_2 rfl rfl ?_
  refine x_invV (emb := embI) (ci := 4) (rm := ({ frames := 1, cells := 0, slots := 0, locals := 40 } : Room)) Γ [.int x] (fun w1 r w2 => bq (kT (A) (x)) r ∧ mP G o ad (A) (L) w1 w2) rfl (fun w1 h1 => t_isThing h1.1) m_obj rfl k_676 k_6 k_673 k_675 s_26 hd_X3_isThing ⟨Nat.le_of_ble_eq_true rfl, Nat.le_of_ble_eq_true rfl⟩ ⟨Nat.le_of_ble_eq_true rfl, Nat.le_of_ble_eq_true rfl⟩ (Nat.le_of_ble_eq_true rfl) dX3_where_3 (fun r => ?_)
  refine m_then (A' := A) (L' := L) (fun q3 => ?_)
  refine x_if_eq (tgt := 13) Γ dX3_where_6 (by decide) (fun c6 => ?_) (fun c6 => ?_)
  · have hT := q3.eq c6
    have hk : kT1 A x = 1 := by
      unfold kT1
      exact if_neg (q3.eq c6)
    refine x_iconst (v := 1) Γ dX3_where_13 (by decide) ?_
    exact hE 1 (by decide) hk
  · obtain ⟨t, htn, ht, rfl⟩ := aI_kT hI (q3.ne c6)
    have hT := aI_toT hI htn
    have hk : kT1 A (nI t) = 0 := by
      unfold kT1
      exact if_pos hT
    refine x_iconst (v := 0) Γ dX3_where_9 (by decide) ?_
    refine x_goto (tgt := 14) Γ dX3_where_10 (by decide) ?_
    refine x_invV (emb := embI) (ci := 4) (rm := ({ frames := 0, cells := 0, slots := 0, locals := 0 } : Room)) Γ [.int 0] (fun w1 r w2 => bq (0 = 0) r ∧ mP G o ad (mU (A) 19 0 0) (L) w1 w2) rfl (fun w1 h1 => t_isFine h1.1) m_obj rfl k_656 k_6 k_653 k_655 s_24 hd_X3_isFine ⟨Nat.le_of_ble_eq_true rfl, Nat.le_of_ble_eq_true rfl⟩ ⟨Nat.le_of_ble_eq_true rfl, Nat.le_of_ble_eq_true rfl⟩ (Nat.le_of_ble_eq_true rfl) dX3_where_14 (fun r => ?_)
    refine m_then (A' := mU (A) 19 0 0) (L' := L) (fun q => ?_)
    refine x_if_eq (tgt := 29) Γ dX3_where_17 (by decide) (fun c17 => absurd c17 (q.one rfl)) (fun c17 => ?_)
    refine x_aload_n Γ dX3_where_20 rfl rfl ?_
    refine m_geta Γ 9 (by decide) (fun _ => rfl) k_587 rfl dX3_where_21 ?_
    refine x_iload_n Γ dX3_where_24 rfl rfl ?_
    refine m_ald Γ rfl rfl (by decide) (by show _ < 24; omega) dX3_where_25 ?_
    refine x_goto (tgt := 30) Γ dX3_where_26 (by decide) ?_
    refine x_iret Γ rfl rfl (fun w2 e2 => ?_) ⟨Nat.le_of_ble_eq_true rfl, Nat.le_of_ble_eq_true rfl⟩ dX3_where_30
    unfold gT1
    rw [fin_ok hk, ixn ht]
    exact ⟨rfl, e2⟩
set_option maxRecDepth 100000 in
theorem tm_fees {o : Nat} {ad : Nat → Nat} {A : xS} {L : List Nat} {w : xW} (h : MRep G w o ad A L) {n : Nat} {x : Int32} (hI : aI A n)  : xMet l G yX3_fees cX3_fees 2 (some .int) ({ frames := 3, cells := 0, slots := 0, locals := 140 } : Room) [.ref o, .int x] w embI (fun r w' => r = (gT1 11 A L x).1 ∧ mP G o ad (gT1 11 A L x).2.1 (gT1 11 A L x).2.2 w w') := by
  refine xMet_of (by decide) (Nat.le_of_ble_eq_true rfl) ?_
  intro p e s m below meth c Γ hnm
  have hn := hI.1
  have hn2 := hI.2.1
  refine m_in h ?_
  have hE : ∀ k : Int32, ¬ k = 0 → kT1 A x = k → xJ p l e ({ frames := 3, cells := 0, slots := 0, locals := 140 } : Room) s m ([.ref o, .int x] : List Value).toArray below meth c G 2 (MQ below (xQ G embI (fun r w' => r = (gT1 11 A L x).1 ∧ mP G o ad (gT1 11 A L x).2.1 (gT1 11 A L x).2.2 w w')) ([.ref o, .int x] : List Value).toArray s ({ frames := 3, cells := 0, slots := 0, locals := 140 } : Room).cells ({ frames := 3, cells := 0, slots := 0, locals := 140 } : Room).slots (xA G)) (mP G o ad A L w) 0 0 14 [(0, .ref o), (1, .int x)] [.int k, .ref o] := by
    intro k h0 hk
    refine x_invV (emb := embI) (ci := 4) (rm := ({ frames := 0, cells := 0, slots := 0, locals := 0 } : Room)) Γ [.int k] (fun w1 r w2 => bq (k = 0) r ∧ mP G o ad (mU (A) 19 0 k) (L) w1 w2) rfl (fun w1 h1 => t_isFine h1.1) m_obj rfl k_656 k_6 k_653 k_655 s_24 hd_X3_isFine ⟨Nat.le_of_ble_eq_true rfl, Nat.le_of_ble_eq_true rfl⟩ ⟨Nat.le_of_ble_eq_true rfl, Nat.le_of_ble_eq_true rfl⟩ (Nat.le_of_ble_eq_true rfl) dX3_fees_14 (fun r => ?_)
    refine m_then (A' := mU (A) 19 0 k) (L' := L) (fun q => ?_)
    refine x_if_eq (tgt := 29) Γ dX3_fees_17 (by decide) (fun c17 => ?_) (fun c17 => absurd (q.zero h0) c17)
    refine x_iconst (v := 0) Γ dX3_fees_29 (by decide) ?_
    refine x_iret Γ rfl rfl (fun w2 e2 => ?_) ⟨Nat.le_of_ble_eq_true rfl, Nat.le_of_ble_eq_true rfl⟩ dX3_fees_30
    unfold gT1
    rw [fin_no hk h0]
    exact ⟨rfl, e2⟩
  refine x_aload_n Γ dX3_fees_0 rfl rfl ?_
  refine x_aload_n Γ dX3_fees_1 rfl rfl ?_
  refine x_iload_n Γ dX3_fees_2 rfl rfl ?_
  refine x_invV (emb := embI) (ci := 4) (rm := ({ frames := 1, cells := 0, slots := 0, locals := 40 } : Room)) Γ [.int x] (fun w1 r w2 => bq (kT (A) (x)) r ∧ mP G o ad (A) (L) w1 w2) rfl (fun w1 h1 => t_isThing h1.1) m_obj rfl k_676 k_6 k_673 k_675 s_26 hd_X3_isThing ⟨Nat.le_of_ble_eq_true rfl, Nat.le_of_ble_eq_true rfl⟩ ⟨Nat.le_of_ble_eq_true rfl, Nat.le_of_ble_eq_true rfl⟩ (Nat.le_of_ble_eq_true rfl) dX3_fees_3 (fun r => ?_)
  refine m_then (A' := A) (L' := L) (fun q3 => ?_)
  refine x_if_eq (tgt := 13) Γ dX3_fees_6 (by decide) (fun c6 => ?_) (fun c6 => ?_)
  · have hT := q3.eq c6
    have hk : kT1 A x = 1 := by
      unfold kT1
      exact if_neg (q3.eq c6)
    refine x_iconst (v := 1) Γ dX3_fees_13 (by decide) ?_
    exact hE 1 (by decide) hk
  · obtain ⟨t, htn, ht, rfl⟩ := aI_kT hI (q3.ne c6)
    have hT := aI_toT hI htn
    have hk : kT1 A (nI t) = 0 := by
      unfold kT1
      exact if_pos hT
    refine x_iconst (v := 0) Γ dX3_fees_9 (by decide) ?_
    refine x_goto (tgt := 14) Γ dX3_fees_10 (by decide) ?_
    refine x_invV (emb := embI) (ci := 4) (rm := ({ frames := 0, cells := 0, slots := 0, locals := 0 } : Room)) Γ [.int 0] (fun w1 r w2 => bq (0 = 0) r ∧ mP G o ad (mU (A) 19 0 0) (L) w1 w2) rfl (fun w1 h1 => t_isFine h1.1) m_obj rfl k_656 k_6 k_653 k_655 s_24 hd_X3_isFine ⟨Nat.le_of_ble_eq_true rfl, Nat.le_of_ble_eq_true rfl⟩ ⟨Nat.le_of_ble_eq_true rfl, Nat.le_of_ble_eq_true rfl⟩ (Nat.le_of_ble_eq_true rfl) dX3_fees_14 (fun r => ?_)
    refine m_then (A' := mU (A) 19 0 0) (L' := L) (fun q => ?_)
    refine x_if_eq (tgt := 29) Γ dX3_fees_17 (by decide) (fun c17 => absurd c17 (q.one rfl)) (fun c17 => ?_)
    refine x_aload_n Γ dX3_fees_20 rfl rfl ?_
    refine m_geta Γ 11 (by decide) (fun _ => rfl) k_589 rfl dX3_fees_21 ?_
    refine x_iload_n Γ dX3_fees_24 rfl rfl ?_
    refine m_ald Γ rfl rfl (by decide) (by show _ < 24; omega) dX3_fees_25 ?_
    refine x_goto (tgt := 30) Γ dX3_fees_26 (by decide) ?_
    refine x_iret Γ rfl rfl (fun w2 e2 => ?_) ⟨Nat.le_of_ble_eq_true rfl, Nat.le_of_ble_eq_true rfl⟩ dX3_fees_30
    unfold gT1
    rw [fin_ok hk, ixn ht]
    exact ⟨rfl, e2⟩
set_option maxRecDepth 100000 in
theorem tm_loan {o : Nat} {ad : Nat → Nat} {A : xS} {L : List Nat} {w : xW} (h : MRep G w o ad A L) {n : Nat} {x : Int32} (hI : aI A n)  : xMet l G yX3_loan cX3_loan 2 (some .int) ({ frames := 3, cells := 0, slots := 0, locals := 140 } : Room) [.ref o, .int x] w embI (fun r w' => r = (gT1 12 A L x).1 ∧ mP G o ad (gT1 12 A L x).2.1 (gT1 12 A L x).2.2 w w') := by
  refine xMet_of (by decide) (Nat.le_of_ble_eq_true rfl) ?_
  intro p e s m below meth c Γ hnm
  have hn := hI.1
  have hn2 := hI.2.1
  refine m_in h ?_
  have hE : ∀ k : Int32, ¬ k = 0 → kT1 A x = k → xJ p l e ({ frames := 3, cells := 0, slots := 0, locals := 140 } : Room) s m ([.ref o, .int x] : List Value).toArray below meth c G 2 (MQ below (xQ G embI (fun r w' => r = (gT1 12 A L x).1 ∧ mP G o ad (gT1 12 A L x).2.1 (gT1 12 A L x).2.2 w w')) ([.ref o, .int x] : List Value).toArray s ({ frames := 3, cells := 0, slots := 0, locals := 140 } : Room).cells ({ frames := 3, cells := 0, slots := 0, locals := 140 } : Room).slots (xA G)) (mP G o ad A L w) 0 0 14 [(0, .ref o), (1, .int x)] [.int k, .ref o] := by
    intro k h0 hk
    refine x_invV (emb := embI) (ci := 4) (rm := ({ frames := 0, cells := 0, slots := 0, locals := 0 } : Room)) Γ [.int k] (fun w1 r w2 => bq (k = 0) r ∧ mP G o ad (mU (A) 19 0 k) (L) w1 w2) rfl (fun w1 h1 => t_isFine h1.1) m_obj rfl k_656 k_6 k_653 k_655 s_24 hd_X3_isFine ⟨Nat.le_of_ble_eq_true rfl, Nat.le_of_ble_eq_true rfl⟩ ⟨Nat.le_of_ble_eq_true rfl, Nat.le_of_ble_eq_true rfl⟩ (Nat.le_of_ble_eq_true rfl) dX3_loan_14 (fun r => ?_)
    refine m_then (A' := mU (A) 19 0 k) (L' := L) (fun q => ?_)
    refine x_if_eq (tgt := 29) Γ dX3_loan_17 (by decide) (fun c17 => ?_) (fun c17 => absurd (q.zero h0) c17)
    refine x_iconst (v := 0) Γ dX3_loan_29 (by decide) ?_
    refine x_iret Γ rfl rfl (fun w2 e2 => ?_) ⟨Nat.le_of_ble_eq_true rfl, Nat.le_of_ble_eq_true rfl⟩ dX3_loan_30
    unfold gT1
    rw [fin_no hk h0]
    exact ⟨rfl, e2⟩
  refine x_aload_n Γ dX3_loan_0 rfl rfl ?_
  refine x_aload_n Γ dX3_loan_1 rfl rfl ?_
  refine x_iload_n Γ dX3_loan_2 rfl rfl ?_
  refine x_invV (emb := embI) (ci := 4) (rm := ({ frames := 1, cells := 0, slots := 0, locals := 40 } : Room)) Γ [.int x] (fun w1 r w2 => bq (kT (A) (x)) r ∧ mP G o ad (A) (L) w1 w2) rfl (fun w1 h1 => t_isThing h1.1) m_obj rfl k_676 k_6 k_673 k_675 s_26 hd_X3_isThing ⟨Nat.le_of_ble_eq_true rfl, Nat.le_of_ble_eq_true rfl⟩ ⟨Nat.le_of_ble_eq_true rfl, Nat.le_of_ble_eq_true rfl⟩ (Nat.le_of_ble_eq_true rfl) dX3_loan_3 (fun r => ?_)
  refine m_then (A' := A) (L' := L) (fun q3 => ?_)
  refine x_if_eq (tgt := 13) Γ dX3_loan_6 (by decide) (fun c6 => ?_) (fun c6 => ?_)
  · have hT := q3.eq c6
    have hk : kT1 A x = 1 := by
      unfold kT1
      exact if_neg (q3.eq c6)
    refine x_iconst (v := 1) Γ dX3_loan_13 (by decide) ?_
    exact hE 1 (by decide) hk
  · obtain ⟨t, htn, ht, rfl⟩ := aI_kT hI (q3.ne c6)
    have hT := aI_toT hI htn
    have hk : kT1 A (nI t) = 0 := by
      unfold kT1
      exact if_pos hT
    refine x_iconst (v := 0) Γ dX3_loan_9 (by decide) ?_
    refine x_goto (tgt := 14) Γ dX3_loan_10 (by decide) ?_
    refine x_invV (emb := embI) (ci := 4) (rm := ({ frames := 0, cells := 0, slots := 0, locals := 0 } : Room)) Γ [.int 0] (fun w1 r w2 => bq (0 = 0) r ∧ mP G o ad (mU (A) 19 0 0) (L) w1 w2) rfl (fun w1 h1 => t_isFine h1.1) m_obj rfl k_656 k_6 k_653 k_655 s_24 hd_X3_isFine ⟨Nat.le_of_ble_eq_true rfl, Nat.le_of_ble_eq_true rfl⟩ ⟨Nat.le_of_ble_eq_true rfl, Nat.le_of_ble_eq_true rfl⟩ (Nat.le_of_ble_eq_true rfl) dX3_loan_14 (fun r => ?_)
    refine m_then (A' := mU (A) 19 0 0) (L' := L) (fun q => ?_)
    refine x_if_eq (tgt := 29) Γ dX3_loan_17 (by decide) (fun c17 => absurd c17 (q.one rfl)) (fun c17 => ?_)
    refine x_aload_n Γ dX3_loan_20 rfl rfl ?_
    refine m_geta Γ 12 (by decide) (fun _ => rfl) k_590 rfl dX3_loan_21 ?_
    refine x_iload_n Γ dX3_loan_24 rfl rfl ?_
    refine m_ald Γ rfl rfl (by decide) (by show _ < 24; omega) dX3_loan_25 ?_
    refine x_goto (tgt := 30) Γ dX3_loan_26 (by decide) ?_
    refine x_iret Γ rfl rfl (fun w2 e2 => ?_) ⟨Nat.le_of_ble_eq_true rfl, Nat.le_of_ble_eq_true rfl⟩ dX3_loan_30
    unfold gT1
    rw [fin_ok hk, ixn ht]
    exact ⟨rfl, e2⟩
set_option maxRecDepth 100000 in
theorem tm_whereOn {o : Nat} {ad : Nat → Nat} {A : xS} {L : List Nat} {w : xW} (h : MRep G w o ad A L) {n : Nat} {x v : Int32} (hI : aI A n)  : xMet l G yX3_whereOn cX3_whereOn 3 (some .int) ({ frames := 3, cells := 0, slots := 0, locals := 140 } : Room) [.ref o, .int x, .int v] w embI (fun r w' => r = (gWhereOn A L x v).1 ∧ mP G o ad (gWhereOn A L x v).2.1 (gWhereOn A L x v).2.2 w w') := by
  refine xMet_of (by decide) (Nat.le_of_ble_eq_true rfl) ?_
  intro p e s m below meth c Γ hnm
  have hn := hI.1
  have hn2 := hI.2.1
  refine m_in h ?_
  have hE : ∀ k : Int32, ¬ k = 0 → kWhereOn A x v = k → xJ p l e ({ frames := 3, cells := 0, slots := 0, locals := 140 } : Room) s m ([.ref o, .int x, .int v] : List Value).toArray below meth c G 3 (MQ below (xQ G embI (fun r w' => r = (gWhereOn A L x v).1 ∧ mP G o ad (gWhereOn A L x v).2.1 (gWhereOn A L x v).2.2 w w')) ([.ref o, .int x, .int v] : List Value).toArray s ({ frames := 3, cells := 0, slots := 0, locals := 140 } : Room).cells ({ frames := 3, cells := 0, slots := 0, locals := 140 } : Room).slots (xA G)) (mP G o ad A L w) 0 0 30 [(0, .ref o), (1, .int x), (2, .int v)] [.int k, .ref o] := by
    intro k h0 hk
    refine x_invV (emb := embI) (ci := 4) (rm := ({ frames := 0, cells := 0, slots := 0, locals := 0 } : Room)) Γ [.int k] (fun w1 r w2 => bq (k = 0) r ∧ mP G o ad (mU (A) 19 0 k) (L) w1 w2) rfl (fun w1 h1 => t_isFine h1.1) m_obj rfl k_656 k_6 k_653 k_655 s_24 hd_X3_isFine ⟨Nat.le_of_ble_eq_true rfl, Nat.le_of_ble_eq_true rfl⟩ ⟨Nat.le_of_ble_eq_true rfl, Nat.le_of_ble_eq_true rfl⟩ (Nat.le_of_ble_eq_true rfl) dX3_whereOn_30 (fun r => ?_)
    refine m_then (A' := mU (A) 19 0 k) (L' := L) (fun q => ?_)
    refine x_if_ne (tgt := 38) Γ dX3_whereOn_33 (by decide) (fun c33 => absurd (q.zero h0) c33) (fun c33 => ?_)
    refine x_iconst (v := 0) Γ dX3_whereOn_36 (by decide) ?_
    refine x_iret Γ rfl rfl (fun w2 e2 => ?_) ⟨Nat.le_of_ble_eq_true rfl, Nat.le_of_ble_eq_true rfl⟩ dX3_whereOn_37
    unfold gWhereOn
    rw [fin_no hk h0]
    exact ⟨rfl, e2⟩
  refine x_aload_n Γ dX3_whereOn_0 rfl rfl ?_
  refine x_aload_n Γ dX3_whereOn_1 rfl rfl ?_
  refine x_iload_n Γ dX3_whereOn_2 rfl rfl ?_
  refine x_invV (emb := embI) (ci := 4) (rm := ({ frames := 1, cells := 0, slots := 0, locals := 40 } : Room)) Γ [.int x] (fun w1 r w2 => bq (kT (A) (x)) r ∧ mP G o ad (A) (L) w1 w2) rfl (fun w1 h1 => t_isThing h1.1) m_obj rfl k_676 k_6 k_673 k_675 s_26 hd_X3_isThing ⟨Nat.le_of_ble_eq_true rfl, Nat.le_of_ble_eq_true rfl⟩ ⟨Nat.le_of_ble_eq_true rfl, Nat.le_of_ble_eq_true rfl⟩ (Nat.le_of_ble_eq_true rfl) dX3_whereOn_3 (fun r => ?_)
  refine m_then (A' := A) (L' := L) (fun q3 => ?_)
  refine x_if_ne (tgt := 13) Γ dX3_whereOn_6 (by decide) (fun c6 => ?_) (fun c6 => ?_)
  · obtain ⟨t, htn, ht, rfl⟩ := aI_kT hI (q3.ne c6)
    have hT := aI_toT hI htn
    refine x_iload_n Γ dX3_whereOn_13 rfl rfl ?_
    refine x_iconst (v := 0) Γ dX3_whereOn_14 (by decide) ?_
    refine x_aload_n Γ dX3_whereOn_15 rfl rfl ?_
    refine m_geti Γ 4 (by decide) (by decide) (fun _ => rfl) k_582 rfl dX3_whereOn_16 ?_
    refine x_invS (emb := embI) (rm := ({ frames := 0, cells := 0, slots := 0, locals := 0 } : Room)) Γ [.int (v), .int (0), .int (A 4 0)] (fun w1 r w2 => bq (rIn (0) (A 4 0) (v)) r ∧ w2 = w1) rfl (fun w1 h1 => t_in) k_652 k_6 k_650 k_651 hd_X3_in ⟨Nat.le_of_ble_eq_true rfl, Nat.le_of_ble_eq_true rfl⟩ ⟨Nat.le_of_ble_eq_true rfl, Nat.le_of_ble_eq_true rfl⟩ (Nat.le_of_ble_eq_true rfl) dX3_whereOn_19 (fun r => ?_)
    refine m_same (fun q19 => ?_)
    refine x_if_ne (tgt := 29) Γ dX3_whereOn_22 (by decide) (fun c22 => ?_) (fun c22 => ?_)
    · obtain ⟨dd, hdd, hd4⟩ := hI.2.2.1
      obtain ⟨d, hd, rfl⟩ : ∃ d, d ≤ dd ∧ v = nI d := rIn_nat (nI_int (by omega)) (by have := q19.ne c22; rw [hd4] at this; exact this)
      have hk : kWhereOn A (nI t) (nI d) = 0 := by
        unfold kWhereOn
        rw [if_neg (not_not_intro hT), if_neg (not_not_intro (q19.ne c22))]
      have h24 : 24 * nI d + nI t = nI (24 * d + t) := by
        rw [show (24 : Int32) = nI 24 from rfl, nI_mul, nI_add]
      refine x_iconst (v := 0) Γ dX3_whereOn_29 (by decide) ?_
      refine x_invV (emb := embI) (ci := 4) (rm := ({ frames := 0, cells := 0, slots := 0, locals := 0 } : Room)) Γ [.int 0] (fun w1 r w2 => bq (0 = 0) r ∧ mP G o ad (mU (A) 19 0 0) (L) w1 w2) rfl (fun w1 h1 => t_isFine h1.1) m_obj rfl k_656 k_6 k_653 k_655 s_24 hd_X3_isFine ⟨Nat.le_of_ble_eq_true rfl, Nat.le_of_ble_eq_true rfl⟩ ⟨Nat.le_of_ble_eq_true rfl, Nat.le_of_ble_eq_true rfl⟩ (Nat.le_of_ble_eq_true rfl) dX3_whereOn_30 (fun r => ?_)
      refine m_then (A' := mU (A) 19 0 0) (L' := L) (fun q => ?_)
      refine x_if_ne (tgt := 38) Γ dX3_whereOn_33 (by decide) (fun c33 => ?_) (fun c33 => absurd c33 (q.one rfl))
      refine x_iload_n Γ dX3_whereOn_38 rfl rfl ?_
      refine x_aload_n Γ dX3_whereOn_39 rfl rfl ?_
      refine m_geti Γ 4 (by decide) (by decide) (fun _ => rfl) k_582 rfl dX3_whereOn_40 ?_
      refine x_icmp_ne (tgt := 55) Γ dX3_whereOn_43 (by decide) (fun c43 => ?_) (fun c43 => ?_)
      · refine x_aload_n Γ dX3_whereOn_55 rfl rfl ?_
        refine m_geta Γ 18 (by decide) (fun _ => rfl) k_596 rfl dX3_whereOn_56 ?_
        refine x_bipush (v := 24) Γ dX3_whereOn_59 (by decide) ?_
        refine x_iload_n Γ dX3_whereOn_61 rfl rfl ?_
        refine x_imul Γ dX3_whereOn_62 ?_
        refine x_iload_n Γ dX3_whereOn_63 rfl rfl ?_
        refine x_iadd Γ dX3_whereOn_64 ?_
        rw [h24]
        refine m_ald Γ rfl rfl (by decide) (by show _ < 24048; omega) dX3_whereOn_65 ?_
        refine x_iret Γ rfl rfl (fun w2 e2 => ?_) ⟨Nat.le_of_ble_eq_true rfl, Nat.le_of_ble_eq_true rfl⟩ dX3_whereOn_66
        unfold gWhereOn
        rw [fin_ok hk, ixn ht, if_neg (show ¬ nI d = A 4 0 from c43), h24, ixn2 (by omega)]
        exact ⟨rfl, e2⟩
      · refine x_aload_n Γ dX3_whereOn_46 rfl rfl ?_
        refine m_geta Γ 9 (by decide) (fun _ => rfl) k_587 rfl dX3_whereOn_47 ?_
        refine x_iload_n Γ dX3_whereOn_50 rfl rfl ?_
        refine m_ald Γ rfl rfl (by decide) (by show _ < 24; omega) dX3_whereOn_51 ?_
        refine x_goto (tgt := 66) Γ dX3_whereOn_52 (by decide) ?_
        refine x_iret Γ rfl rfl (fun w2 e2 => ?_) ⟨Nat.le_of_ble_eq_true rfl, Nat.le_of_ble_eq_true rfl⟩ dX3_whereOn_66
        unfold gWhereOn
        rw [fin_ok hk, ixn ht, if_pos (show nI d = A 4 0 from c43)]
        exact ⟨rfl, e2⟩
    · have hk : kWhereOn A (nI t) v = 2 := by
        unfold kWhereOn
        rw [if_neg (not_not_intro hT), if_pos (q19.eq c22)]
      refine x_iconst (v := 2) Γ dX3_whereOn_25 (by decide) ?_
      refine x_goto (tgt := 30) Γ dX3_whereOn_26 (by decide) ?_
      exact hE 2 (by decide) hk
  · have hT := q3.eq c6
    have hk : kWhereOn A x v = 1 := by
      unfold kWhereOn
      exact if_pos (q3.eq c6)
    refine x_iconst (v := 1) Γ dX3_whereOn_9 (by decide) ?_
    refine x_goto (tgt := 30) Γ dX3_whereOn_10 (by decide) ?_
    exact hE 1 (by decide) hk
theorem ldF_thr (A : xS) (x c : Int32) (n : Nat) : ldF (mU A 19 0 x) c n = ldF A c n := by
  induction n with
  | zero => rfl
  | succ t ih => rw [ldF, ldF, ih]; rfl
theorem aI_thr {A : xS} {n : Nat} (h : aI A n) (x : Int32) : aI (mU A 19 0 x) n := h
set_option maxRecDepth 100000 in
theorem tm_load {o : Nat} {ad : Nat → Nat} {A : xS} {L : List Nat} {w : xW} (h : MRep G w o ad A L) {n : Nat} {c0 : Int32} (hI : aI A n)  : xMet l G yX3_load cX3_load 2 (some .int) ({ frames := 3, cells := 0, slots := 0, locals := 140 } : Room) [.ref o, .int c0] w embI (fun r w' => r = (gLoad A L c0).1 ∧ mP G o ad (gLoad A L c0).2.1 (gLoad A L c0).2.2 w w') := by
  refine xMet_of (by decide) (Nat.le_of_ble_eq_true rfl) ?_
  intro p e s m below meth c Γ hnm
  have hn := hI.1
  have hn2 := hI.2.1
  refine m_in h ?_
  have hE : ∀ k : Int32, ¬ k = 0 → kLoad c0 = k → xJ p l e ({ frames := 3, cells := 0, slots := 0, locals := 140 } : Room) s m ([.ref o, .int c0] : List Value).toArray below meth c G 2 (MQ below (xQ G embI (fun r w' => r = (gLoad A L c0).1 ∧ mP G o ad (gLoad A L c0).2.1 (gLoad A L c0).2.2 w w')) ([.ref o, .int c0] : List Value).toArray s ({ frames := 3, cells := 0, slots := 0, locals := 140 } : Room).cells ({ frames := 3, cells := 0, slots := 0, locals := 140 } : Room).slots (xA G)) (mP G o ad A L w) 0 0 13 [(0, .ref o), (1, .int c0)] [.int k, .ref o] := by
    intro k h0 hk
    refine x_invV (emb := embI) (ci := 4) (rm := ({ frames := 0, cells := 0, slots := 0, locals := 0 } : Room)) Γ [.int k] (fun w1 r w2 => bq (k = 0) r ∧ mP G o ad (mU (A) 19 0 k) (L) w1 w2) rfl (fun w1 h1 => t_isFine h1.1) m_obj rfl k_656 k_6 k_653 k_655 s_24 hd_X3_isFine ⟨Nat.le_of_ble_eq_true rfl, Nat.le_of_ble_eq_true rfl⟩ ⟨Nat.le_of_ble_eq_true rfl, Nat.le_of_ble_eq_true rfl⟩ (Nat.le_of_ble_eq_true rfl) dX3_load_13 (fun r => ?_)
    refine m_then (A' := mU (A) 19 0 k) (L' := L) (fun q => ?_)
    refine x_if_eq (tgt := 27) Γ dX3_load_16 (by decide) (fun c16 => ?_) (fun c16 => absurd (q.zero h0) c16)
    refine x_iconst (v := 0) Γ dX3_load_27 (by decide) ?_
    refine x_iret Γ rfl rfl (fun w2 e2 => ?_) ⟨Nat.le_of_ble_eq_true rfl, Nat.le_of_ble_eq_true rfl⟩ dX3_load_28
    unfold gLoad
    rw [fin_no hk h0]
    exact ⟨rfl, e2⟩
  refine x_aload_n Γ dX3_load_0 rfl rfl ?_
  refine x_iload_n Γ dX3_load_1 rfl rfl ?_
  refine x_invS (emb := embI) (rm := ({ frames := 1, cells := 0, slots := 0, locals := 40 } : Room)) Γ [.int (c0)] (fun w1 r w2 => bq (rIn 0 4 (c0)) r ∧ w2 = w1) rfl (fun w1 h1 => t_isCounter) k_649 k_6 k_647 k_648 hd_X3_isCounter ⟨Nat.le_of_ble_eq_true rfl, Nat.le_of_ble_eq_true rfl⟩ ⟨Nat.le_of_ble_eq_true rfl, Nat.le_of_ble_eq_true rfl⟩ (Nat.le_of_ble_eq_true rfl) dX3_load_2 (fun r => ?_)
  refine m_same (fun q2 => ?_)
  refine x_if_eq (tgt := 12) Γ dX3_load_5 (by decide) (fun c5 => ?_) (fun c5 => ?_)
  · have hk : kLoad c0 = 1 := by
      unfold kLoad
      exact if_neg (q2.eq c5)
    refine x_iconst (v := 1) Γ dX3_load_12 (by decide) ?_
    exact hE 1 (by decide) hk
  · have hk : kLoad c0 = 0 := by
      unfold kLoad
      exact if_pos (q2.ne c5)
    refine x_iconst (v := 0) Γ dX3_load_8 (by decide) ?_
    refine x_goto (tgt := 13) Γ dX3_load_9 (by decide) ?_
    refine x_invV (emb := embI) (ci := 4) (rm := ({ frames := 0, cells := 0, slots := 0, locals := 0 } : Room)) Γ [.int 0] (fun w1 r w2 => bq (0 = 0) r ∧ mP G o ad (mU (A) 19 0 0) (L) w1 w2) rfl (fun w1 h1 => t_isFine h1.1) m_obj rfl k_656 k_6 k_653 k_655 s_24 hd_X3_isFine ⟨Nat.le_of_ble_eq_true rfl, Nat.le_of_ble_eq_true rfl⟩ ⟨Nat.le_of_ble_eq_true rfl, Nat.le_of_ble_eq_true rfl⟩ (Nat.le_of_ble_eq_true rfl) dX3_load_13 (fun r => ?_)
    refine m_then (A' := mU (A) 19 0 0) (L' := L) (fun q => ?_)
    refine x_if_eq (tgt := 27) Γ dX3_load_16 (by decide) (fun c16 => absurd c16 (q.one rfl)) (fun c16 => ?_)
    refine x_aload_n Γ dX3_load_19 rfl rfl ?_
    refine x_iload_n Γ dX3_load_20 rfl rfl ?_
    refine x_invV (emb := embI) (ci := 4) (rm := ({ frames := 0, cells := 0, slots := 0, locals := 0 } : Room)) Γ [.int c0] (fun w1 r w2 => r = ldF A c0 n ∧ mP G o ad (mU A 19 0 0) (L) w1 w2) rfl (fun w1 h1 => by have := t_loadOf (l := l) (x := c0) h1.1 (aI_thr hI 0); rw [ldF_thr] at this; exact this) m_obj rfl k_668 k_6 k_665 k_667 s_25 hd_X3_loadOf ⟨Nat.le_of_ble_eq_true rfl, Nat.le_of_ble_eq_true rfl⟩ ⟨Nat.le_of_ble_eq_true rfl, Nat.le_of_ble_eq_true rfl⟩ (Nat.le_of_ble_eq_true rfl) dX3_load_21 (fun r => ?_)
    refine m_then (A' := mU A 19 0 0) (L' := L) (fun e21 => ?_)
    refine x_goto (tgt := 28) Γ dX3_load_24 (by decide) ?_
    refine x_iret Γ rfl rfl (fun w2 e2 => ?_) ⟨Nat.le_of_ble_eq_true rfl, Nat.le_of_ble_eq_true rfl⟩ dX3_load_28
    unfold gLoad
    rw [fin_ok hk, hn, ixn2 (by omega)]
    exact ⟨e21, e2⟩
set_option maxRecDepth 100000 in
theorem tm_purse {o : Nat} {ad : Nat → Nat} {A : xS} {L : List Nat} {w : xW} (h : MRep G w o ad A L) {n : Nat} {x : Int32} (hI : aI A n)  : xMet l G yX3_purse cX3_purse 2 (some .int) ({ frames := 3, cells := 0, slots := 0, locals := 140 } : Room) [.ref o, .int x] w embI (fun r w' => r = (gPurse A L x).1 ∧ mP G o ad (gPurse A L x).2.1 (gPurse A L x).2.2 w w') := by
  refine xMet_of (by decide) (Nat.le_of_ble_eq_true rfl) ?_
  intro p e s m below meth c Γ hnm
  have hn := hI.1
  have hn2 := hI.2.1
  refine m_in h ?_
  have hE : ∀ k : Int32, ¬ k = 0 → kPurse x = k → xJ p l e ({ frames := 3, cells := 0, slots := 0, locals := 140 } : Room) s m ([.ref o, .int x] : List Value).toArray below meth c G 2 (MQ below (xQ G embI (fun r w' => r = (gPurse A L x).1 ∧ mP G o ad (gPurse A L x).2.1 (gPurse A L x).2.2 w w')) ([.ref o, .int x] : List Value).toArray s ({ frames := 3, cells := 0, slots := 0, locals := 140 } : Room).cells ({ frames := 3, cells := 0, slots := 0, locals := 140 } : Room).slots (xA G)) (mP G o ad A L w) 0 0 16 [(0, .ref o), (1, .int x)] [.int k, .ref o] := by
    intro k h0 hk
    refine x_invV (emb := embI) (ci := 4) (rm := ({ frames := 0, cells := 0, slots := 0, locals := 0 } : Room)) Γ [.int k] (fun w1 r w2 => bq (k = 0) r ∧ mP G o ad (mU (A) 19 0 k) (L) w1 w2) rfl (fun w1 h1 => t_isFine h1.1) m_obj rfl k_656 k_6 k_653 k_655 s_24 hd_X3_isFine ⟨Nat.le_of_ble_eq_true rfl, Nat.le_of_ble_eq_true rfl⟩ ⟨Nat.le_of_ble_eq_true rfl, Nat.le_of_ble_eq_true rfl⟩ (Nat.le_of_ble_eq_true rfl) dX3_purse_16 (fun r => ?_)
    refine m_then (A' := mU (A) 19 0 k) (L' := L) (fun q => ?_)
    refine x_if_eq (tgt := 31) Γ dX3_purse_19 (by decide) (fun c19 => ?_) (fun c19 => absurd (q.zero h0) c19)
    refine x_iconst (v := 0) Γ dX3_purse_31 (by decide) ?_
    refine x_iret Γ rfl rfl (fun w2 e2 => ?_) ⟨Nat.le_of_ble_eq_true rfl, Nat.le_of_ble_eq_true rfl⟩ dX3_purse_32
    unfold gPurse
    rw [fin_no hk h0]
    exact ⟨rfl, e2⟩
  refine x_aload_n Γ dX3_purse_0 rfl rfl ?_
  refine x_iload_n Γ dX3_purse_1 rfl rfl ?_
  refine x_iconst (v := 0) Γ dX3_purse_2 (by decide) ?_
  refine x_bipush (v := 7) Γ dX3_purse_3 (by decide) ?_
  refine x_invS (emb := embI) (rm := ({ frames := 0, cells := 0, slots := 0, locals := 0 } : Room)) Γ [.int (x), .int (0), .int (7)] (fun w1 r w2 => bq (rIn (0) (7) (x)) r ∧ w2 = w1) rfl (fun w1 h1 => t_in) k_652 k_6 k_650 k_651 hd_X3_in ⟨Nat.le_of_ble_eq_true rfl, Nat.le_of_ble_eq_true rfl⟩ ⟨Nat.le_of_ble_eq_true rfl, Nat.le_of_ble_eq_true rfl⟩ (Nat.le_of_ble_eq_true rfl) dX3_purse_5 (fun r => ?_)
  refine m_same (fun q5 => ?_)
  refine x_if_eq (tgt := 15) Γ dX3_purse_8 (by decide) (fun c8 => ?_) (fun c8 => ?_)
  · have hk : kPurse x = 1 := by
      unfold kPurse
      exact if_neg (q5.eq c8)
    refine x_iconst (v := 1) Γ dX3_purse_15 (by decide) ?_
    exact hE 1 (by decide) hk
  · have hk : kPurse x = 0 := by
      unfold kPurse
      exact if_pos (q5.ne c8)
    obtain ⟨i, hi, rfl⟩ := rIn_nat (M := 7) (n := 7) (by decide) (q5.ne c8)
    refine x_iconst (v := 0) Γ dX3_purse_11 (by decide) ?_
    refine x_goto (tgt := 16) Γ dX3_purse_12 (by decide) ?_
    refine x_invV (emb := embI) (ci := 4) (rm := ({ frames := 0, cells := 0, slots := 0, locals := 0 } : Room)) Γ [.int 0] (fun w1 r w2 => bq (0 = 0) r ∧ mP G o ad (mU (A) 19 0 0) (L) w1 w2) rfl (fun w1 h1 => t_isFine h1.1) m_obj rfl k_656 k_6 k_653 k_655 s_24 hd_X3_isFine ⟨Nat.le_of_ble_eq_true rfl, Nat.le_of_ble_eq_true rfl⟩ ⟨Nat.le_of_ble_eq_true rfl, Nat.le_of_ble_eq_true rfl⟩ (Nat.le_of_ble_eq_true rfl) dX3_purse_16 (fun r => ?_)
    refine m_then (A' := mU (A) 19 0 0) (L' := L) (fun q => ?_)
    refine x_if_eq (tgt := 31) Γ dX3_purse_19 (by decide) (fun c19 => absurd c19 (q.one rfl)) (fun c19 => ?_)
    refine x_aload_n Γ dX3_purse_22 rfl rfl ?_
    refine m_geta Γ 2 (by decide) (fun _ => rfl) k_580 rfl dX3_purse_23 ?_
    refine x_iload_n Γ dX3_purse_26 rfl rfl ?_
    refine m_ald Γ rfl rfl (by decide) (by show _ < 8; omega) dX3_purse_27 ?_
    refine x_goto (tgt := 32) Γ dX3_purse_28 (by decide) ?_
    refine x_iret Γ rfl rfl (fun w2 e2 => ?_) ⟨Nat.le_of_ble_eq_true rfl, Nat.le_of_ble_eq_true rfl⟩ dX3_purse_32
    unfold gPurse
    rw [fin_ok hk, ixn (t := i) (by omega)]
    exact ⟨rfl, e2⟩
set_option maxRecDepth 100000 in
theorem tm_wish {o : Nat} {ad : Nat → Nat} {A : xS} {L : List Nat} {w : xW} (h : MRep G w o ad A L) {n : Nat} {x : Int32} (hI : aI A n) (hl : L.length ≤ n) : xMet l G yX3_wish cX3_wish 2 (some .int) ({ frames := 3, cells := 0, slots := 0, locals := 140 } : Room) [.ref o, .int x] w embI (fun r w' => r = (gWish A L x).1 ∧ mP G o ad (gWish A L x).2.1 (gWish A L x).2.2 w w') := by
  refine xMet_of (by decide) (Nat.le_of_ble_eq_true rfl) ?_
  intro p e s m below meth c Γ hnm
  have hn := hI.1
  have hn2 := hI.2.1
  refine m_in h ?_
  have hE : ∀ k : Int32, ¬ k = 0 → kWish L x = k → xJ p l e ({ frames := 3, cells := 0, slots := 0, locals := 140 } : Room) s m ([.ref o, .int x] : List Value).toArray below meth c G 2 (MQ below (xQ G embI (fun r w' => r = (gWish A L x).1 ∧ mP G o ad (gWish A L x).2.1 (gWish A L x).2.2 w w')) ([.ref o, .int x] : List Value).toArray s ({ frames := 3, cells := 0, slots := 0, locals := 140 } : Room).cells ({ frames := 3, cells := 0, slots := 0, locals := 140 } : Room).slots (xA G)) (mP G o ad A L w) 0 0 20 [(0, .ref o), (1, .int x)] [.int k, .ref o] := by
    intro k h0 hk
    refine x_invV (emb := embI) (ci := 4) (rm := ({ frames := 0, cells := 0, slots := 0, locals := 0 } : Room)) Γ [.int k] (fun w1 r w2 => bq (k = 0) r ∧ mP G o ad (mU (A) 19 0 k) (L) w1 w2) rfl (fun w1 h1 => t_isFine h1.1) m_obj rfl k_656 k_6 k_653 k_655 s_24 hd_X3_isFine ⟨Nat.le_of_ble_eq_true rfl, Nat.le_of_ble_eq_true rfl⟩ ⟨Nat.le_of_ble_eq_true rfl, Nat.le_of_ble_eq_true rfl⟩ (Nat.le_of_ble_eq_true rfl) dX3_wish_20 (fun r => ?_)
    refine m_then (A' := mU (A) 19 0 k) (L' := L) (fun q => ?_)
    refine x_if_eq (tgt := 35) Γ dX3_wish_23 (by decide) (fun c23 => ?_) (fun c23 => absurd (q.zero h0) c23)
    refine x_iconst (v := 0) Γ dX3_wish_35 (by decide) ?_
    refine x_iret Γ rfl rfl (fun w2 e2 => ?_) ⟨Nat.le_of_ble_eq_true rfl, Nat.le_of_ble_eq_true rfl⟩ dX3_wish_36
    unfold gWish
    rw [fin_no hk h0]
    exact ⟨rfl, e2⟩
  refine x_aload_n Γ dX3_wish_0 rfl rfl ?_
  refine x_iload_n Γ dX3_wish_1 rfl rfl ?_
  refine x_iconst (v := 0) Γ dX3_wish_2 (by decide) ?_
  refine x_aload_n Γ dX3_wish_3 rfl rfl ?_
  refine m_getw Γ k_595 dX3_wish_4 ?_
  refine x_iconst (v := 1) Γ dX3_wish_7 (by decide) ?_
  refine x_isub Γ dX3_wish_8 ?_
  refine x_invS (emb := embI) (rm := ({ frames := 0, cells := 0, slots := 0, locals := 0 } : Room)) Γ [.int (x), .int (0), .int (nI L.length - 1)] (fun w1 r w2 => bq (rIn (0) (nI L.length - 1) (x)) r ∧ w2 = w1) rfl (fun w1 h1 => t_in) k_652 k_6 k_650 k_651 hd_X3_in ⟨Nat.le_of_ble_eq_true rfl, Nat.le_of_ble_eq_true rfl⟩ ⟨Nat.le_of_ble_eq_true rfl, Nat.le_of_ble_eq_true rfl⟩ (Nat.le_of_ble_eq_true rfl) dX3_wish_9 (fun r => ?_)
  refine m_same (fun q9 => ?_)
  refine x_if_eq (tgt := 19) Γ dX3_wish_12 (by decide) (fun c12 => ?_) (fun c12 => ?_)
  · have hk : kWish L x = 1 := by
      unfold kWish
      exact if_neg (q9.eq c12)
    refine x_iconst (v := 1) Γ dX3_wish_19 (by decide) ?_
    exact hE 1 (by decide) hk
  · have hk : kWish L x = 0 := by
      unfold kWish
      exact if_pos (q9.ne c12)
    obtain ⟨i, hi, rfl⟩ := rT_nat (by omega) (q9.ne c12)
    obtain ⟨j, hj⟩ : ∃ j, L[i]? = some j := ⟨L[i], List.getElem?_eq_getElem hi⟩
    refine x_iconst (v := 0) Γ dX3_wish_15 (by decide) ?_
    refine x_goto (tgt := 20) Γ dX3_wish_16 (by decide) ?_
    refine x_invV (emb := embI) (ci := 4) (rm := ({ frames := 0, cells := 0, slots := 0, locals := 0 } : Room)) Γ [.int 0] (fun w1 r w2 => bq (0 = 0) r ∧ mP G o ad (mU (A) 19 0 0) (L) w1 w2) rfl (fun w1 h1 => t_isFine h1.1) m_obj rfl k_656 k_6 k_653 k_655 s_24 hd_X3_isFine ⟨Nat.le_of_ble_eq_true rfl, Nat.le_of_ble_eq_true rfl⟩ ⟨Nat.le_of_ble_eq_true rfl, Nat.le_of_ble_eq_true rfl⟩ (Nat.le_of_ble_eq_true rfl) dX3_wish_20 (fun r => ?_)
    refine m_then (A' := mU (A) 19 0 0) (L' := L) (fun q => ?_)
    refine x_if_eq (tgt := 35) Γ dX3_wish_23 (by decide) (fun c23 => absurd c23 (q.one rfl)) (fun c23 => ?_)
    refine x_aload_n Γ dX3_wish_26 rfl rfl ?_
    refine m_geta Γ 16 (by decide) (fun _ => rfl) k_594 rfl dX3_wish_27 ?_
    refine x_iload_n Γ dX3_wish_30 rfl rfl ?_
    refine m_aldw Γ (t := j) (L := L) (i := i) hj (by omega) dX3_wish_31 ?_
    refine x_goto (tgt := 36) Γ dX3_wish_32 (by decide) ?_
    refine x_iret Γ rfl rfl (fun w2 e2 => ?_) ⟨Nat.le_of_ble_eq_true rfl, Nat.le_of_ble_eq_true rfl⟩ dX3_wish_36
    unfold gWish
    rw [fin_ok hk, ixn2 (by omega), List.getD_eq_getElem?_getD, hj]
    exact ⟨rfl, e2⟩
end XM5

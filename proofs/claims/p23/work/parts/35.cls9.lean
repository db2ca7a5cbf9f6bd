section XC9
theorem leave_cB {A : xS} {n D : Nat} {L : List Nat} {ow z c0 : Int32} (hI : pI A n L) (hn : n < 24) (q2 : Nat) : tFs (cB (bLeave (mU A 19 0 0) n ow z c0)) n (.ref q2) = [.int (nI n), .int ow, .int z, .int (A 4 0), .int (20 * z), .int c0, .ref q2, .int (-1), .int 0, .int 0, .int (-1), .int (-1)] := by
  obtain ⟨g1, g2, -⟩ := hI.2.2.2.2.2.2.2.2 n (Nat.le_refl n) hn
  have e11 : bLeave (mU A 19 0 0) n ow z c0 11 n = 0 := by
    unfold bLeave
    rw [mU_j (by decide), mU_j (by decide), mU_j (by decide), mU_j (by decide), mU_j (by decide), mU_j (by decide), mU_j (by decide), mU_j (by decide), mU_j (by decide)]
    exact g1
  have e12 : bLeave (mU A 19 0 0) n ow z c0 12 n = 0 := by
    unfold bLeave
    rw [mU_j (by decide), mU_j (by decide), mU_j (by decide), mU_j (by decide), mU_j (by decide), mU_j (by decide), mU_j (by decide), mU_j (by decide), mU_j (by decide)]
    exact g2
  have e13 : cB (bLeave (mU A 19 0 0) n ow z c0) 13 n = -1 := by
    show (if 0 < bLeave (mU A 19 0 0) n ow z c0 12 n then _ else -1) = -1
    rw [e12]
    rfl
  unfold tFs
  rw [e13, cB_j (show (11 : Nat) ≠ 13 by decide), e11, cB_j (show (12 : Nat) ≠ 13 by decide), e12]
  simp [cB, bLeave, mU]
theorem leave_ne {A : xS} {n t j : Nat} {ow z c0 : Int32} (h : t ≠ n) (hj : j ≠ 5) (hj2 : j ≠ 19) : bLeave (mU A 19 0 0) n ow z c0 j t = A j t := by
  unfold bLeave
  rw [mU_j hj, mU_i h, mU_i h, mU_i h, mU_i h, mU_i h, mU_i h, mU_i h, mU_j hj2]
theorem leave_j {A : xS} {n j : Nat} {ow z c0 : Int32} (hj : j = 0 ∨ j = 1 ∨ j = 2 ∨ j = 3 ∨ j = 4 ∨ j = 11 ∨ j = 12 ∨ j = 13 ∨ j = 18) : bLeave (mU A 19 0 0) n ow z c0 j = A j := by
  unfold bLeave
  rw [mU_j (by omega), mU_j (by omega), mU_j (by omega), mU_j (by omega), mU_j (by omega), mU_j (by omega), mU_j (by omega), mU_j (by omega), mU_j (by omega)]
theorem CRaw.leave {G : xG} {w1 w3 w4 : xW} {ca th : Nat → Nat} {A : xS} {n D q q2 : Nat} {L : List Nat} {T : Nat → xTg} {ow z c0 : Int32} (h : CRaw G w1 ca th (cB A) n L T) (hI : pI A n L) (hT : tgI A n D T) (hD : A 4 0 = nI D) (hD1 : D ≤ 1000) (hn : n < 24)
    (hk : ∀ b x, w1 b = some x → w3 b = some x) (h3 : w3 q = some (200 + n, .inr (2, [.int (nI n), .int ow, .int z, .int (A 4 0), .int (20 * z), .int c0, .ref q2, .int (-1), .int 0, .int 0, .int (-1), .int (-1)]))) (h32 : w3 q2 = some (110, .inr (1, [.int c0, .int (A 4 0 + 1), .null])))
    (hl : LstAt G w4 (ca 3) 104 (n + 1) (fun i => if i = n then q else th i)) (hL : KpL 104 w3 w4) :
    cQ G ca (fun i => if i = n then q else th i) (bLeave (mU A 19 0 0) n ow z c0) (n + 1) L D w1 w4 := by
  have k1 : xKp (fun k => k ≠ 104 ∧ k ≠ 106) w1 w4 := fun b k e hb hs => hL b k e (hk b _ hb) hs.1 hs.2
  have k3 : xKp (fun k => k ≠ 104 ∧ k ≠ 106) w3 w4 := fun b k e hb hs => hL b k e hb hs.1 hs.2
  obtain ⟨h1, h2, h21, h4, h5, h6⟩ := h
  refine ⟨⟨fun i => if i = n then [(c0, nI (D + 1))] else T i, fun t ht => ?_, k1 _ _ _ ?_ (by omega), ?_, ?_, hl, ?_, fun t ht => ?_⟩, k1.mono (by intro k hk; omega)⟩
  · by_cases e : t = n
    · subst e
      dsimp only
      rw [if_pos rfl]
      refine ⟨⟨nI (D + 1), [], ?_⟩, fun r hr => ?_, fun d hd => ?_⟩
      · congr 2
        unfold bLeave
        rw [mU_j (by decide), mU_j (by decide), mU_j (by decide), mU_j (by decide), mU_eq]
      · rw [List.mem_singleton.mp hr]
        exact Int32.le_refl _
      · rw [lkp, if_neg (nI_ge (by omega) (by omega)), leave_j (by omega)]
        exact ((hI.2.2.2.2.2.2.2.2 t (Nat.le_refl t) hn).2.2 d (by omega)).symm
    · dsimp only
      rw [if_neg e, leave_ne e (by decide) (by decide), leave_j (j := 18) (by omega)]
      exact hT t (by omega)
  · unfold xFs at h1 ⊢
    rw [cB_j (by decide), cB_j (by decide), cB_j (by decide), leave_j (by omega), leave_j (by omega), leave_j (by omega)]
    exact h1
  · rw [cB_j (by decide), leave_j (by omega)]
    exact k1 _ _ _ h2 (by omega)
  · rw [cB_j (by decide), leave_j (by omega)]
    exact k1 _ _ _ h21 (by omega)
  · refine (h5.kp k1 (by omega) (by omega)).congr (fun i hi => ?_)
    have hm : L.getD i 0 < n := by
      rw [List.getD_eq_getElem?_getD, List.getElem?_eq_getElem hi]
      exact (hI.2.1.2.2 _ (List.getElem_mem hi)).1
    exact if_neg (by omega)
  · by_cases e : t = n
    · subst e
      dsimp only
      rw [if_pos rfl, if_pos rfl]
      refine ⟨.ref q2, ?_, ⟨q2, .null, rfl, ?_, rfl⟩⟩
      · rw [leave_cB (D := D) hI hn]
        exact k3 _ _ _ h3 (by omega)
      · rw [hD, nI_1] at h32
        exact k3 _ _ _ h32 (by omega)
    · dsimp only
      rw [if_neg e, if_neg e]
      obtain ⟨b, g1, g2⟩ := h6 t (by omega)
      refine ⟨b, ?_, tgAt.kp k1 (by omega) g2⟩
      have et : tFs (cB (bLeave (mU A 19 0 0) n ow z c0)) t b = tFs (cB A) t b := by
        have e13 : cB (bLeave (mU A 19 0 0) n ow z c0) 13 t = cB A 13 t := by
          show (if 0 < bLeave (mU A 19 0 0) n ow z c0 12 t then bLeave (mU A 19 0 0) n ow z c0 13 t else -1) = _
          rw [leave_j (j := 12) (by omega), leave_j (j := 13) (by omega)]
          rfl
        have ej : ∀ j, j ≠ 13 → j ≠ 5 → j ≠ 19 → cB (bLeave (mU A 19 0 0) n ow z c0) j t = cB A j t := fun j g1 g2 g3 => by rw [cB_j g1, cB_j g1, leave_ne e g2 g3]
        unfold tFs
        rw [e13, ej 6 (by decide) (by decide) (by decide), ej 7 (by decide) (by decide) (by decide), ej 10 (by decide) (by decide) (by decide), ej 8 (by decide) (by decide) (by decide), ej 9 (by decide) (by decide) (by decide), ej 15 (by decide) (by decide) (by decide), ej 11 (by decide) (by decide) (by decide), ej 12 (by decide) (by decide) (by decide), ej 14 (by decide) (by decide) (by decide)]
      rw [et]
      exact k1 _ _ _ g1 (by omega)
variable {l : Launch} {G : xG}
set_option maxRecDepth 100000 in
theorem tc_leave {ca th : Nat → Nat} {A : xS} {n : Nat} {L : List Nat} {T : Nat → xTg} {w : xW} (h : CRaw G w ca th (cB A) n L T) (hfl : l.stackTraces = false) {ow z c0 : Int32} {D : Nat} (hI : pI A n L) (hT : tgI A n D T) (hD : A 4 0 = nI D) (hD1 : D ≤ 1000) : xMetX l G yX2_leave cX2_leave 5 (some .int) ({ frames := 8, cells := 60, slots := 400, locals := 320 } : Room) [.ref (ca 0), .int ow, .int z, .int c0] w embI (fun r w' => (kLeave A ow z c0 = 0 ∧ r = (gLeave A L ow z c0).1) ∧ ∃ th', cQ G ca th' (gLeave A L ow z c0).2.1 (n + 1) (gLeave A L ow z c0).2.2 D w w') (fun E w' => ((E = "java/lang/IllegalArgumentException" ∧ kLeave A ow z c0 = 1) ∨ (E = "java/lang/IllegalStateException" ∧ kLeave A ow z c0 = 2)) ∧ cP G ca th (cB A) n L T w w') := by
  refine xMetX_of (by decide) (Nat.le_of_ble_eq_true rfl) ?_
  intro p e s m below meth c Γ hout
  have hn := hI.1.2.1
  have hn5 := hI.1.1
  have hlL : L.length ≤ 24 := Nat.le_trans hI.2.1.1 hn
  have hL : ∀ q ∈ L, q < n := fun q hq => (hI.2.1.2.2 q hq).1
  refine c_in h ?_
  refine x_iload_n Γ dX2_leave_0 rfl rfl ?_
  refine x_invS (emb := embI) (rm := ({ frames := 0, cells := 0, slots := 0, locals := 0 } : Room)) Γ [.int (ow)] (fun w1 r w2 => bq (rIn 0 7 (ow)) r ∧ w2 = w1) rfl (fun w1 h1 => t2_isPerson) k_196 k_1 k_194 k_195 hd_X2_isPerson ⟨Nat.le_of_ble_eq_true rfl, Nat.le_of_ble_eq_true rfl⟩ ⟨Nat.le_of_ble_eq_true rfl, Nat.le_of_ble_eq_true rfl⟩ (Nat.le_of_ble_eq_true rfl) dX2_leave_1 (fun r => ?_)
  refine m_same (fun q1 => ?_)
  refine x_if_eq (tgt := 24) Γ dX2_leave_4 (by decide) (fun c4 => ?_) (fun c4 => ?_)
  · have hk : kLeave A ow z c0 = 1 := by
      unfold kLeave
      exact if_pos (fun y => q1.eq c4 y.1)
    exact x_throw Γ hfl (by decide) k_110 k_10 (show (61, "owner, size or counter is out of range") ∈ xStr by simp [xStr]) at_IAE dX2_leave_24 dX2_leave_27 dX2_leave_28 dX2_leave_30 dX2_leave_33 hout ⟨Nat.le_of_ble_eq_true rfl, Nat.le_of_ble_eq_true rfl⟩ ⟨Nat.le_of_ble_eq_true rfl, Nat.le_of_ble_eq_true rfl⟩ (fun w9 h9 => ⟨Or.inl (⟨rfl, hk⟩), h9⟩) ⟨Nat.le_of_ble_eq_true rfl, Nat.le_of_ble_eq_true rfl⟩
  · refine x_iload_n Γ dX2_leave_7 rfl rfl ?_
    refine x_iconst (v := 1) Γ dX2_leave_8 (by decide) ?_
    refine x_icmp_lt (tgt := 24) Γ dX2_leave_9 (by decide) (fun c9 => ?_) (fun c9 => ?_)
    · have hk : kLeave A ow z c0 = 1 := by
        unfold kLeave
        exact if_pos (fun y => absurd c9 (Int32.not_lt.mpr y.2.1.1))
      exact x_throw Γ hfl (by decide) k_110 k_10 (show (61, "owner, size or counter is out of range") ∈ xStr by simp [xStr]) at_IAE dX2_leave_24 dX2_leave_27 dX2_leave_28 dX2_leave_30 dX2_leave_33 hout ⟨Nat.le_of_ble_eq_true rfl, Nat.le_of_ble_eq_true rfl⟩ ⟨Nat.le_of_ble_eq_true rfl, Nat.le_of_ble_eq_true rfl⟩ (fun w9 h9 => ⟨Or.inl (⟨rfl, hk⟩), h9⟩) ⟨Nat.le_of_ble_eq_true rfl, Nat.le_of_ble_eq_true rfl⟩
    · refine x_iload_n Γ dX2_leave_12 rfl rfl ?_
      refine x_iconst (v := 3) Γ dX2_leave_13 (by decide) ?_
      refine x_icmp_gt (tgt := 24) Γ dX2_leave_14 (by decide) (fun c14 => ?_) (fun c14 => ?_)
      · have hk : kLeave A ow z c0 = 1 := by
          unfold kLeave
          exact if_pos (fun y => absurd c14 (Int32.not_lt.mpr y.2.1.2))
        exact x_throw Γ hfl (by decide) k_110 k_10 (show (61, "owner, size or counter is out of range") ∈ xStr by simp [xStr]) at_IAE dX2_leave_24 dX2_leave_27 dX2_leave_28 dX2_leave_30 dX2_leave_33 hout ⟨Nat.le_of_ble_eq_true rfl, Nat.le_of_ble_eq_true rfl⟩ ⟨Nat.le_of_ble_eq_true rfl, Nat.le_of_ble_eq_true rfl⟩ (fun w9 h9 => ⟨Or.inl (⟨rfl, hk⟩), h9⟩) ⟨Nat.le_of_ble_eq_true rfl, Nat.le_of_ble_eq_true rfl⟩
      · refine x_iload_n Γ dX2_leave_17 rfl rfl ?_
        refine x_invS (emb := embI) (rm := ({ frames := 0, cells := 0, slots := 0, locals := 0 } : Room)) Γ [.int (c0)] (fun w1 r w2 => bq (rIn 0 4 (c0)) r ∧ w2 = w1) rfl (fun w1 h1 => t2_isCounter) k_106 k_1 k_104 k_105 hd_X2_isCounter ⟨Nat.le_of_ble_eq_true rfl, Nat.le_of_ble_eq_true rfl⟩ ⟨Nat.le_of_ble_eq_true rfl, Nat.le_of_ble_eq_true rfl⟩ (Nat.le_of_ble_eq_true rfl) dX2_leave_18 (fun r => ?_)
        refine m_same (fun q18 => ?_)
        refine x_if_ne (tgt := 34) Γ dX2_leave_21 (by decide) (fun c21 => ?_) (fun c21 => ?_)
        · have hR : rIn 0 7 ow ∧ rIn 1 3 z ∧ rIn 0 4 c0 := ⟨q1.ne c4, ⟨Int32.not_lt.mp c9, Int32.not_lt.mp c14⟩, q18.ne c21⟩
          refine x_aload_n Γ dX2_leave_34 rfl rfl ?_
          refine c_this Γ 2 rfl (by decide) k_60 rfl dX2_leave_35 ?_
          refine x_invV (emb := embI) (ci := 0) (rm := ({ frames := 0, cells := 0, slots := 0, locals := 0 } : Room)) Γ [] (fun w1 r w2 => r = nI n ∧ w2 = w1) rfl (fun w1 h1 => t_size h1.1.2.2.2.1) c_lst3 rfl k_91 k_4 k_88 k_89 k_90 hd_Jx4a65c_size_8abf5 ⟨Nat.le_of_ble_eq_true rfl, Nat.le_of_ble_eq_true rfl⟩ ⟨Nat.le_of_ble_eq_true rfl, Nat.le_of_ble_eq_true rfl⟩ (Nat.le_of_ble_eq_true rfl) dX2_leave_38 (fun r => ?_)
          refine m_same (fun e9 => ?_)
          subst e9
          refine x_istore Γ dX2_leave_41 rfl (by decide) ?_
          refine x_iload Γ dX2_leave_43 rfl ?_
          refine x_bipush (v := 24) Γ dX2_leave_45 (by decide) ?_
          refine x_icmp_ge (tgt := 59) Γ dX2_leave_47 (by decide) (fun c47 => ?_) (fun c47 => ?_)
          · have hk : kLeave A ow z c0 = 2 := by
              unfold kLeave
              rw [if_neg (not_not_intro hR), hn5, ixn2 (t := n) (by omega)]
              exact if_pos (Or.inl (by have h9 : n = 24 := Nat.le_antisymm hn ((nI_leI (a := 24) (by omega) (by omega)).mp c47); rw [h9]; rfl))
            exact x_throw Γ hfl (by decide) k_221 k_13 (show (73, "no room for it, or too many things") ∈ xStr by simp [xStr]) at_ISE dX2_leave_59 dX2_leave_62 dX2_leave_63 dX2_leave_65 dX2_leave_68 hout ⟨Nat.le_of_ble_eq_true rfl, Nat.le_of_ble_eq_true rfl⟩ ⟨Nat.le_of_ble_eq_true rfl, Nat.le_of_ble_eq_true rfl⟩ (fun w9 h9 => ⟨Or.inr (⟨rfl, hk⟩), h9⟩) ⟨Nat.le_of_ble_eq_true rfl, Nat.le_of_ble_eq_true rfl⟩
          · refine x_aload_n Γ dX2_leave_50 rfl rfl ?_
            refine x_iload_n Γ dX2_leave_51 rfl rfl ?_
            refine x_iload_n Γ dX2_leave_52 rfl rfl ?_
            refine x_invV (emb := embI) (ci := 3) (rm := ({ frames := 4, cells := 0, slots := 0, locals := 120 } : Room)) Γ [.int c0, .int z] (fun w1 r w2 => bq (rIn 0 4 c0 ∧ ldF (cB A) c0 n + z ≤ cB A 0 (ix c0)) r ∧ cP G ca th (cB A) n (L) (T) w1 w2) rfl (fun w1 h1 => t_hasRoom h1.1 hn) c_self rfl k_201 k_1 k_198 k_200 s_1 hd_X2_hasRoomFor ⟨Nat.le_of_ble_eq_true rfl, Nat.le_of_ble_eq_true rfl⟩ ⟨Nat.le_of_ble_eq_true rfl, Nat.le_of_ble_eq_true rfl⟩ (Nat.le_of_ble_eq_true rfl) dX2_leave_53 (fun r => ?_)
            refine c_then (B' := cB A) (L' := L) (T' := T) (fun qH => ?_)
            refine x_if_ne (tgt := 69) Γ dX2_leave_56 (by decide) (fun c56 => ?_) (fun c56 => ?_)
            · have hk : kLeave A ow z c0 = 0 := by
                unfold kLeave
                rw [if_neg (not_not_intro hR), hn5, ixn2 (t := n) (by omega)]
                exact if_neg (fun y => y.elim (fun y => c47 (by rw [y]; exact Int32.le_refl _)) (fun y => Int32.not_lt.mpr (by have := (qH.ne c56).2; rw [ldF_cB] at this; exact this) y))
              have hlt : n < 24 := by
                rcases Nat.lt_or_ge n 24 with h9 | h9
                · exact h9
                · exact absurd (nI_le (a := 24) h9 (by omega)) c47
              refine x_ends ?_
              refine x_pin (fun w1 hw1 => ?_)
              obtain ⟨hC1, hK1⟩ := hw1
              refine x_aload_n Γ dX2_leave_69 rfl rfl ?_
              refine x_getf Γ kl3 2 (xv_get hC1.1 rfl) (by decide) k_60 (Or.inl rfl) dX2_leave_70 ?_
              refine x_new (F := fun q w2 => w2 = xu w1 q (200 + n, .inr (2, [.int 0, .int 0, .int 0, .int 0, .int 0, .int 0, .null, .int 0, .int 0, .int 0, .int 0, .int 0])) ∧ w1 q = none) Γ kl2 [.int 0, .int 0, .int 0, .int 0, .int 0, .int 0, .null, .int 0, .int 0, .int 0, .int 0, .int 0] (200 + n) (by decide) k_220 k_237 k_14 (fun w9 q e9 h9 => by subst e9; exact ⟨rfl, h9⟩) ⟨Nat.le_of_ble_eq_true rfl, Nat.le_of_ble_eq_true rfl⟩ dX2_leave_73 ?_
              intro q
              refine x_then (P2 := fun w2 => w2 = xu w1 q (200 + n, .inr (2, [.int 0, .int 0, .int 0, .int 0, .int 0, .int 0, .null, .int 0, .int 0, .int 0, .int 0, .int 0]))) (φ := w1 q = none) (fun w9 h9 => ⟨h9.2, h9.1⟩) (fun hq => ?_)
              have hk12 : ∀ b x, w1 b = some x → (xu w1 q (200 + n, .inr (2, [.int 0, .int 0, .int 0, .int 0, .int 0, .int 0, .null, .int 0, .int 0, .int 0, .int 0, .int 0]))) b = some x := fun b x hb => xu_new hb hq
              refine x_dup Γ dX2_leave_76 rfl ?_
              refine x_iload Γ dX2_leave_77 rfl ?_
              refine x_iload_n Γ dX2_leave_79 rfl rfl ?_
              refine x_iload_n Γ dX2_leave_80 rfl rfl ?_
              refine x_iload_n Γ dX2_leave_81 rfl rfl ?_
              refine x_aload_n Γ dX2_leave_82 rfl rfl ?_
              refine x_getf (v := .int (A 4 0)) Γ kl3 5 (fun w9 e9 => by rw [e9]; exact ⟨_, _, hk12 _ _ hC1.1, rfl⟩) (by decide) k_63 (Or.inl rfl) dX2_leave_83 ?_
              refine x_invIN (rm := ({ frames := 2, cells := 1, slots := 3, locals := 60 } : Room)) Γ [.int (nI n), .int ow, .int z, .int c0, .int (A 4 0)] (fun w2 _ w3 => ∃ q2, w2 q2 = none ∧ q2 ≠ q ∧ w3 = xu (xu w2 q2 (110, .inr (1, [.int c0, .int (A 4 0 + 1), .null]))) q (200 + n, .inr (2, [.int (nI n), .int ow, .int z, .int (A 4 0), .int (20 * z), .int c0, .ref q2, .int (-1), .int 0, .int 0, .int (-1), .int (-1)]))) rfl (fun w2 h2 => t_thing (by rw [h2]; exact xu_eq _ _ _)) rfl k_240 k_14 k_238 k_239 hd_X1_init ⟨Nat.le_of_ble_eq_true rfl, Nat.le_of_ble_eq_true rfl⟩ ⟨Nat.le_of_ble_eq_true rfl, Nat.le_of_ble_eq_true rfl⟩ (Nat.le_of_ble_eq_true rfl) dX2_leave_86 (fun _ => ?_)
              refine x_pin (fun w3 hw3 => ?_)
              obtain ⟨w2, hw2, q2, hq2, hqq, hw3⟩ := hw3
              have hk13 : ∀ b x, w1 b = some x → w3 b = some x := fun b x hb => by
                rw [hw3, xu_ne (fun y => by rw [y, hq] at hb; cases hb)]
                exact xu_new (by rw [hw2]; exact hk12 b x hb) hq2
              have h3q : w3 q = some (200 + n, .inr (2, [.int (nI n), .int ow, .int z, .int (A 4 0), .int (20 * z), .int c0, .ref q2, .int (-1), .int 0, .int 0, .int (-1), .int (-1)])) := by rw [hw3]; exact xu_eq _ _ _
              have h32 : w3 q2 = some (110, .inr (1, [.int c0, .int (A 4 0 + 1), .null])) := by rw [hw3, xu_ne hqq]; exact xu_eq _ _ _
              have hKk : xKp (fun _ => True) w1 w3 := fun b k e hb _ => hk13 b _ hb
              have hLs := hC1.2.2.2.1.kp hKk trivial trivial
              refine x_invV (emb := embI) (ci := 0) (rm := ({ frames := 6, cells := 1, slots := 40, locals := 205 } : Room)) Γ [.ref q] (fun w1 _ w4 => LstAt G w4 (ca 3) 104 (n + 1) (fun i => if i = n then q else th i) ∧ KpL 104 w1 w4) rfl (fun w9 e9 => by rw [e9]; exact t_add hLs hn (fun j hj => by obtain ⟨b9, g1, g2⟩ := hC1.2.2.2.2.2 j hj; exact ⟨_, _, hk13 _ _ g1, by omega, by omega⟩) h3q ⟨by omega, by omega⟩) (fun w9 e9 => by rw [e9]; exact hLs.obj) rfl k_312 k_4 k_309 k_310 k_311 hd_Jx4a65c_add_9ea2d ⟨Nat.le_of_ble_eq_true rfl, Nat.le_of_ble_eq_true rfl⟩ ⟨Nat.le_of_ble_eq_true rfl, Nat.le_of_ble_eq_true rfl⟩ (Nat.le_of_ble_eq_true rfl) dX2_leave_89 (fun r => ?_)
              refine x_pop Γ dX2_leave_92 rfl ?_
              refine x_iload Γ dX2_leave_93 rfl ?_
              refine x_iret Γ rfl rfl (fun w2 e2 => ?_) ⟨Nat.le_of_ble_eq_true rfl, Nat.le_of_ble_eq_true rfl⟩ dX2_leave_95
              obtain ⟨w9, e9, h7, h8⟩ := e2
              unfold gLeave
              rw [fin_ok hk, hn5, ixn2 (by omega)]
              subst e9
              have hfin := hC1.leave hI hT hD hD1 hlt hk13 h3q h32 h7 h8
              exact ⟨⟨hk, rfl⟩, _, hfin.1, hK1.tr hfin.2⟩
            · have hk : kLeave A ow z c0 = 2 := by
                unfold kLeave
                rw [if_neg (not_not_intro hR), hn5, ixn2 (t := n) (by omega)]
                exact if_pos (Or.inr (Int32.not_le.mp (fun y => qH.eq c56 ⟨hR.2.2, by rw [ldF_cB]; exact y⟩)))
              exact x_throw Γ hfl (by decide) k_221 k_13 (show (73, "no room for it, or too many things") ∈ xStr by simp [xStr]) at_ISE dX2_leave_59 dX2_leave_62 dX2_leave_63 dX2_leave_65 dX2_leave_68 hout ⟨Nat.le_of_ble_eq_true rfl, Nat.le_of_ble_eq_true rfl⟩ ⟨Nat.le_of_ble_eq_true rfl, Nat.le_of_ble_eq_true rfl⟩ (fun w9 h9 => ⟨Or.inr (⟨rfl, hk⟩), h9⟩) ⟨Nat.le_of_ble_eq_true rfl, Nat.le_of_ble_eq_true rfl⟩
        · have hk : kLeave A ow z c0 = 1 := by
            unfold kLeave
            exact if_pos (fun y => q18.eq c21 y.2.2)
          exact x_throw Γ hfl (by decide) k_110 k_10 (show (61, "owner, size or counter is out of range") ∈ xStr by simp [xStr]) at_IAE dX2_leave_24 dX2_leave_27 dX2_leave_28 dX2_leave_30 dX2_leave_33 hout ⟨Nat.le_of_ble_eq_true rfl, Nat.le_of_ble_eq_true rfl⟩ ⟨Nat.le_of_ble_eq_true rfl, Nat.le_of_ble_eq_true rfl⟩ (fun w9 h9 => ⟨Or.inl (⟨rfl, hk⟩), h9⟩) ⟨Nat.le_of_ble_eq_true rfl, Nat.le_of_ble_eq_true rfl⟩
end XC9

section XC5
def cQ (G : xG) (ca th : Nat → Nat) (A : xS) (n : Nat) (L : List Nat) (D : Nat) (w0 : xW) : xW → Prop := fun w => (∃ T, tgI A n D T ∧ CRaw G w ca th (cB A) n L T) ∧ KpX w0 w
theorem mU_id {A : xS} {j i : Nat} {v : Int32} (h : v = A j i) : mU A j i v = A := by
  funext j' i'
  by_cases hq : j' = j ∧ i' = i
  · rw [hq.1, hq.2, mU_eq, h]
  · exact if_neg hq
theorem cB_mU {A : xS} {j t : Nat} {v : Int32} (h : j ≠ 12) (h2 : j ≠ 13) : cB (mU A j t v) = mU (cB A) j t v := by
  funext j' i
  by_cases e : j' = 13
  · subst e
    rw [mU_j (Ne.symm h2)]
    show (if 0 < mU A j t v 12 i then mU A j t v 13 i else -1) = (if 0 < A 12 i then A 13 i else -1)
    rw [mU_j (Ne.symm h), mU_j (Ne.symm h2)]
  · rw [cB_j e]
    by_cases e2 : j' = j ∧ i = t
    · rw [e2.1, e2.2, mU_eq, mU_eq]
    · by_cases e3 : j' = j
      · subst e3
        have e4 : i ≠ t := fun z => e2 ⟨rfl, z⟩
        rw [mU_i e4, mU_i e4, cB_j e]
      · rw [mU_j e3, mU_j e3, cB_j e]
theorem imn_min (x y : Int32) : (if y < x then y else x) = imn x y := by
  unfold imn
  by_cases h1 : y < x
  · rw [if_pos h1, if_neg (fun h2 => by rw [Int32.lt_iff_toInt_lt] at h1 h2; omega)]
  · rw [if_neg h1]
    by_cases h2 : x < y
    · rw [if_pos h2]
    · rw [if_neg h2]
      exact Int32.le_antisymm (Int32.not_lt.mp h1) (Int32.not_lt.mp h2)
theorem fPut_in {B : xS} {i : Nat} {z : Int32} (h : i < 8) : fPut B (nI i) z = mU B 2 i (B 2 i + z) := by
  unfold fPut
  rw [if_pos ⟨nI_pos' (by omega), nI_le (b := 7) (by omega) (by omega)⟩, ixn (by omega)]
theorem sell_B1 {A : xS} {n t : Nat} {L : List Nat} (h : pI A n L) (ht : t < n) : fPut (cB A) (cB A 13 t) (sBack A t) 2 = sA1 A t 2 ∧ ∀ j, j ≠ 2 → fPut (cB A) (cB A 13 t) (sBack A t) j = cB A j := by
  obtain ⟨h1, h2, h3, h4, h5, h6, h7, h8, h9⟩ := h
  obtain ⟨lr, hlr, hl⟩ := h1.2.2.2.2 t (by have := h1.2.1; omega)
  rcases h6 t ht with g | g
  · have e : cB A 13 t = -1 := by
      show (if 0 < A 12 t then A 13 t else -1) = -1
      rw [if_neg (by rw [g]; decide)]
    have e2 : fPut (cB A) (-1) (sBack A t) = cB A := if_neg (by decide)
    have e3 : ¬ 0 < sBack A t := by
      unfold sBack imn
      rw [g]
      split
      · decide
      · assumption
    rw [e, e2]
    refine ⟨?_, fun j _ => rfl⟩
    unfold sA1
    rw [if_neg e3]
    exact cB_j (by decide)
  · have e : cB A 13 t = nI lr := by
      show (if 0 < A 12 t then A 13 t else -1) = _
      rw [if_pos g.1, hl]
    rw [e, fPut_in hlr]
    refine ⟨?_, fun j hj => mU_j hj⟩
    unfold sA1
    by_cases e3 : 0 < sBack A t
    · rw [if_pos e3, hl, ixn (by omega), mU_row, mU_row, cB_j (by decide)]
    · rw [if_neg e3]
      have e4 : sBack A t = 0 := by
        refine Int32.le_antisymm (Int32.not_lt.mp e3) ?_
        unfold sBack imn
        split
        · exact Int32.le_of_lt g.1
        · exact h8 t ht
      rw [e4, mU_id (by rw [Int32.add_zero])]
      exact cB_j (by decide)
theorem fDE_for {B : xS} {t : Nat} {L : List Nat} (h1 : B 15 t = -1) (h2 : ∀ q ∈ L, q ≠ t → ¬ B 15 q = -1) : fDE B L = fFor t L := by
  unfold fDE fFor
  refine List.filter_congr (fun q hq => ?_)
  by_cases e : q = t
  · subst e
    simp [h1]
  · rw [show (B 15 q == -1) = false from beq_eq_false_iff_ne.mpr (h2 q hq e), show (q == t) = false from beq_eq_false_iff_ne.mpr e]
theorem nI_nm1 {c : Nat} (h : c < 100) : ¬ nI c = -1 := fun z => by
  have h9 := nI_int (n := c) (by omega)
  rw [z] at h9
  have : ((-1 : Int32)).toInt = -1 := by decide
  omega
theorem sell_fin {A B1 : xS} {n t ow : Nat} (how : A 6 t = nI ow) (ho : ow < 8) (hB2 : B1 2 = sA1 A t 2) (hBr : ∀ j, j ≠ 2 → B1 j = cB A j) (X : Int32) (hX : X = A 8 t - sBack A t - sPaid A t) :
    cEq n (fGa (fPut (mU (mU (mU B1 13 t (-1)) 12 t 0) 14 t (-1)) (nI ow) X) t (sPaid A t) 11) (cB (fSell t A)) := by
  subst hX
  rw [fPut_in ho]
  have s2 : fSell t A 2 = upd (sA1 A t 2) ow (sA1 A t 2 ow + (A 8 t - sBack A t - sPaid A t)) := by
    unfold fSell sA3
    rw [mU_j (by decide), mU_j (by decide), mU_j (by decide), mU_j (by decide), how, ixn (by omega), mU_row]
    unfold sA2
    rw [mU_j (by decide), mU_j (by decide)]
  have s3 : fSell t A 3 0 = A 3 0 + sPaid A t := by
    unfold fSell sA3
    rw [mU_j (by decide), mU_j (by decide), mU_j (by decide), mU_j (by decide), mU_j (by decide)]
    unfold sA2
    rw [mU_eq]
  have s11 : ∀ i, fSell t A 11 i = if i = t then sPaid A t else A 11 i := fun i => by
    unfold fSell sA3
    rw [mU_j (by decide), mU_j (by decide), mU_j (by decide), mU_j (by decide), mU_j (by decide)]
    unfold sA2
    rw [mU_j (by decide)]
    by_cases e : i = t
    · subst e; rw [mU_eq, if_pos rfl]
    · rw [mU_i e, if_neg e, sA1_j (by decide)]
  refine ⟨?_, ?_, ⟨?_, ?_, ?_⟩, fun i hi => ?_⟩
  · unfold fGa
    simp only [mU_j (show (0 : Nat) ≠ 2 by decide), mU_j (show (0 : Nat) ≠ 3 by decide), mU_j (show (0 : Nat) ≠ 9 by decide), mU_j (show (0 : Nat) ≠ 11 by decide), mU_j (show (0 : Nat) ≠ 12 by decide), mU_j (show (0 : Nat) ≠ 13 by decide), mU_j (show (0 : Nat) ≠ 14 by decide), mU_j (show (0 : Nat) ≠ 15 by decide)]
    rw [hBr 0 (by decide), cB_j (by decide), cB_j (by decide), sell_j rfl]
  · unfold fGa
    simp only [mU_j (show (2 : Nat) ≠ 3 by decide), mU_j (show (2 : Nat) ≠ 9 by decide), mU_j (show (2 : Nat) ≠ 11 by decide), mU_j (show (2 : Nat) ≠ 12 by decide), mU_j (show (2 : Nat) ≠ 13 by decide), mU_j (show (2 : Nat) ≠ 14 by decide), mU_j (show (2 : Nat) ≠ 15 by decide), mU_row, hB2]
    rw [cB_j (by decide), s2]
  · unfold fGa
    simp only [mU_j (show (1 : Nat) ≠ 2 by decide), mU_j (show (1 : Nat) ≠ 3 by decide), mU_j (show (1 : Nat) ≠ 9 by decide), mU_j (show (1 : Nat) ≠ 11 by decide), mU_j (show (1 : Nat) ≠ 12 by decide), mU_j (show (1 : Nat) ≠ 13 by decide), mU_j (show (1 : Nat) ≠ 14 by decide), mU_j (show (1 : Nat) ≠ 15 by decide)]
    rw [hBr 1 (by decide), cB_j (by decide), cB_j (by decide), sell_j rfl]
  · unfold fGa
    simp only [mU_j (show (3 : Nat) ≠ 2 by decide), mU_j (show (3 : Nat) ≠ 9 by decide), mU_j (show (3 : Nat) ≠ 11 by decide), mU_j (show (3 : Nat) ≠ 12 by decide), mU_j (show (3 : Nat) ≠ 13 by decide), mU_j (show (3 : Nat) ≠ 14 by decide), mU_j (show (3 : Nat) ≠ 15 by decide), mU_eq]
    rw [hBr 3 (by decide), cB_j (by decide), cB_j (by decide), s3]
  · unfold fGa
    simp only [mU_j (show (4 : Nat) ≠ 2 by decide), mU_j (show (4 : Nat) ≠ 3 by decide), mU_j (show (4 : Nat) ≠ 9 by decide), mU_j (show (4 : Nat) ≠ 11 by decide), mU_j (show (4 : Nat) ≠ 12 by decide), mU_j (show (4 : Nat) ≠ 13 by decide), mU_j (show (4 : Nat) ≠ 14 by decide), mU_j (show (4 : Nat) ≠ 15 by decide)]
    rw [hBr 4 (by decide), cB_j (by decide), cB_j (by decide), sell_j rfl]
  · have c13 : cB (fSell t A) 13 i = if i = t then -1 else cB A 13 i := by
      show (if 0 < fSell t A 12 i then fSell t A 13 i else -1) = _
      by_cases e : i = t
      · subst e
        rw [sell_12, if_pos rfl]
        rfl
      · rw [if_neg e, sell_ne e (by decide) (by decide), sell_j (j := 13) rfl]
        rfl
    rw [c13, cB_j (show (6 : Nat) ≠ 13 by decide), cB_j (show (7 : Nat) ≠ 13 by decide), cB_j (show (10 : Nat) ≠ 13 by decide), cB_j (show (8 : Nat) ≠ 13 by decide), cB_j (show (9 : Nat) ≠ 13 by decide), cB_j (show (15 : Nat) ≠ 13 by decide), cB_j (show (11 : Nat) ≠ 13 by decide), cB_j (show (12 : Nat) ≠ 13 by decide), cB_j (show (14 : Nat) ≠ 13 by decide), s11, sell_j (j := 6) rfl, sell_j (j := 7) rfl, sell_j (j := 10) rfl, sell_j (j := 8) rfl]
    have b := fun j (h : j ≠ 2) => congrFun (hBr j h) i
    by_cases e : i = t
    · subst e
      rw [sell_9, sell_at15, sell_12, sell_14]
      simp [fGa, mU, b, cB]
    · rw [sell_ne e (by decide) (by decide), sell_ne e (by decide) (by decide), sell_ne e (by decide) (by decide), sell_ne e (by decide) (by decide)]
      simp [fGa, mU, b, cB, e]
section XC5a
variable {p : Program} {l : Launch} {e : Env} {R : Room} {s : State} {m : MethodId} {args : Array Value} {below : List Frame} {meth : Method} {c : Code} {G : xG} {cc : ByteArray} {nL : Nat} {own : String} {rt : Option FieldType} {Q : State → Prop} {P P' : xW → Prop} {k n pc : Nat} {lv : List (Nat × Value)} {st : List Value}
variable {ca th : Nat → Nat} {A A' B : xS} {N D : Nat} {L L' : List Nat} {T : Nat → xTg} {w0 : xW}
theorem c_thenQ (kk : ∀ T', tgI A' N D T' → xJ p l e R s m args below meth c G nL Q (cP G ca th (cB A') N L' T' w0) k n pc lv st) : xJ p l e R s m args below meth c G nL Q (fun w' => ∃ w1, cP G ca th B N L T w0 w1 ∧ cQ G ca th A' N L' D w1 w') k n pc lv st := fun w H locs ls hp hh hs hl => by
  obtain ⟨w1, h1, ⟨T', h2, h3⟩, h4⟩ := hp
  exact kk T' h2 w H locs ls ⟨h3, h1.2.tr h4⟩ hh hs hl
theorem c_thenQ1 {φ : Prop} (kk : φ → ∀ T', tgI A' N D T' → xJ p l e R s m args below meth c G nL Q (cP G ca th (cB A') N L' T' w0) k n pc lv st) : xJ p l e R s m args below meth c G nL Q (fun w' => ∃ w1, cP G ca th B N L T w0 w1 ∧ φ ∧ cQ G ca th A' N L' D w1 w') k n pc lv st := fun w H locs ls hp hh hs hl => by
  obtain ⟨w1, h1, h5, ⟨T', h2, h3⟩, h4⟩ := hp
  exact kk h5 T' h2 w H locs ls ⟨h3, h1.2.tr h4⟩ hh hs hl
theorem c_at (hB : B = cB A) (kk : xJ p l e R s m args below meth c G nL Q (cP G ca th (cB A) N L T w0) k n pc lv st) : xJ p l e R s m args below meth c G nL Q (cP G ca th B N L T w0) k n pc lv st := by subst hB; exact kk
end XC5a
variable {l : Launch} {G : xG}
set_option maxRecDepth 100000 in
theorem t_sell {ca th : Nat → Nat} {A : xS} {n : Nat} {L : List Nat} {T : Nat → xTg} {w : xW} (h : CRaw G w ca th (cB A) n L T) {t : Nat} (htn : t < n) {D : Nat} (hI : pI A n L) (hT : tgI A n D T) (hD : A 4 0 = nI D) (hD1 : D ≤ 1000) : xMet l G yX2_sell cX2_sell 5 none ({ frames := 5, cells := 1, slots := 3, locals := 190 } : Room) [.ref (ca 0), .ref (th t)] w embV (fun _ w' => cQ G ca th (fSell t A) n (fFor t L) D w w') := by
  refine xMet_of (by decide) (Nat.le_of_ble_eq_true rfl) ?_
  intro p e s m below meth c Γ hnm
  have hn := hI.1.2.1
  have hlL : L.length ≤ 24 := Nat.le_trans hI.2.1.1 hn
  have hL : ∀ q ∈ L, q < n := fun q hq => (hI.2.1.2.2 q hq).1
  obtain ⟨ow, how8, how⟩ := hI.1.2.2.2.1 t (by omega)
  obtain ⟨hB2, hBr⟩ := sell_B1 hI htn
  refine c_in h ?_
  refine x_aload_n Γ dX2_sell_0 rfl rfl ?_
  refine c_getT Γ 9 htn (fun _ => rfl) (by decide) k_279 dX2_sell_1 ?_
  refine x_aload_n Γ dX2_sell_4 rfl rfl ?_
  refine c_getT Γ 4 htn (fun _ => rfl) (by decide) k_270 dX2_sell_5 ?_
  refine x_min Γ k_507 k_357 k_358 k_17 ⟨Nat.le_of_ble_eq_true rfl, Nat.le_of_ble_eq_true rfl, Nat.le_of_ble_eq_true rfl, Nat.le_of_ble_eq_true rfl⟩ dX2_sell_8 ?_
  rw [imn_min, show imn (cB A 12 t) (cB A 8 t) = sBack A t from rfl]
  refine x_istore_n Γ dX2_sell_11 rfl rfl (by decide) ?_
  refine x_aload_n Γ dX2_sell_12 rfl rfl ?_
  refine x_aload_n Γ dX2_sell_13 rfl rfl ?_
  refine c_getT Γ 10 htn (fun _ => rfl) (by decide) k_281 dX2_sell_14 ?_
  refine x_iload_n Γ dX2_sell_17 rfl rfl ?_
  refine x_invV (emb := embV) (ci := 3) (rm := ({ frames := 1, cells := 0, slots := 0, locals := 40 } : Room)) Γ [.int (cB A 13 t), .int (sBack A t)] (fun w1 _ w2 => cP G ca th (fPut (cB A) (cB A 13 t) (sBack A t)) n (L) (T) w1 w2) rfl (fun w1 h1 => t_putPurse h1.1) c_self rfl k_457 k_1 k_454 k_456 s_14 hd_X2_putIntoPurse ⟨Nat.le_of_ble_eq_true rfl, Nat.le_of_ble_eq_true rfl⟩ ⟨Nat.le_of_ble_eq_true rfl, Nat.le_of_ble_eq_true rfl⟩ (Nat.le_of_ble_eq_true rfl) dX2_sell_18 (fun _ => ?_)
  refine c_then0 (B' := fPut (cB A) (cB A 13 t) (sBack A t)) (L' := L) (T' := T) ?_
  generalize fPut (cB A) (cB A 13 t) (sBack A t) = B1 at hB2 hBr ⊢
  refine x_aload_n Γ dX2_sell_21 rfl rfl ?_
  refine x_invVN (emb := embV) (ci := 2) (rm := ({ frames := 0, cells := 0, slots := 0, locals := 0 } : Room)) Γ [] (fun w1 _ w2 => cP G ca th (mU (mU (mU B1 13 t (-1)) 12 t 0) 14 t (-1)) n (L) (T) w1 w2) rfl (fun w1 h1 => t_cendLoan h1.1 htn) (c_thing htn) rfl k_469 k_14 k_466 k_468 s_15 hd_X1_endLoan ⟨Nat.le_of_ble_eq_true rfl, Nat.le_of_ble_eq_true rfl⟩ ⟨Nat.le_of_ble_eq_true rfl, Nat.le_of_ble_eq_true rfl⟩ (Nat.le_of_ble_eq_true rfl) dX2_sell_22 (fun _ => ?_)
  refine c_then0 (B' := mU (mU (mU B1 13 t (-1)) 12 t 0) 14 t (-1)) (L' := L) (T' := T) ?_
  refine x_aload_n Γ dX2_sell_25 rfl rfl ?_
  refine c_getT (v := .int (A 8 t)) Γ 4 htn (fun _ => by show some (Value.int (B1 8 t)) = _; rw [hBr 8 (by decide), cB_j (by decide)]) (by decide) k_270 dX2_sell_26 ?_
  refine x_iload_n Γ dX2_sell_29 rfl rfl ?_
  refine x_isub Γ dX2_sell_30 ?_
  refine x_istore_n Γ dX2_sell_31 rfl rfl (by decide) ?_
  refine x_aload_n Γ dX2_sell_32 rfl rfl ?_
  refine c_getT (v := .int (A 11 t)) Γ 8 htn (fun _ => by show some (Value.int (B1 11 t)) = _; rw [hBr 11 (by decide), cB_j (by decide)]) (by decide) k_277 dX2_sell_33 ?_
  refine x_iload_n Γ dX2_sell_36 rfl rfl ?_
  refine x_min Γ k_507 k_357 k_358 k_17 ⟨Nat.le_of_ble_eq_true rfl, Nat.le_of_ble_eq_true rfl, Nat.le_of_ble_eq_true rfl, Nat.le_of_ble_eq_true rfl⟩ dX2_sell_37 ?_
  rw [imn_min, show imn (A 11 t) (A 8 t - sBack A t) = sPaid A t from rfl]
  refine x_istore Γ dX2_sell_40 rfl (by decide) ?_
  refine x_aload_n Γ dX2_sell_42 rfl rfl ?_
  refine x_aload_n Γ dX2_sell_43 rfl rfl ?_
  refine c_getT (v := .int (nI ow)) Γ 1 htn (fun _ => by show some (Value.int (B1 6 t)) = _; rw [hBr 6 (by decide), cB_j (by decide), how]) (by decide) k_264 dX2_sell_44 ?_
  refine x_iload_n Γ dX2_sell_47 rfl rfl ?_
  refine x_iload Γ dX2_sell_48 rfl ?_
  refine x_isub Γ dX2_sell_50 ?_
  refine x_invV (emb := embV) (ci := 3) (rm := ({ frames := 1, cells := 0, slots := 0, locals := 40 } : Room)) Γ [.int (nI ow), .int (A 8 t - sBack A t - sPaid A t)] (fun w1 _ w2 => cP G ca th (fPut (mU (mU (mU B1 13 t (-1)) 12 t 0) 14 t (-1)) (nI ow) (A 8 t - sBack A t - sPaid A t)) n (L) (T) w1 w2) rfl (fun w1 h1 => t_putPurse h1.1) c_self rfl k_457 k_1 k_454 k_456 s_14 hd_X2_putIntoPurse ⟨Nat.le_of_ble_eq_true rfl, Nat.le_of_ble_eq_true rfl⟩ ⟨Nat.le_of_ble_eq_true rfl, Nat.le_of_ble_eq_true rfl⟩ (Nat.le_of_ble_eq_true rfl) dX2_sell_51 (fun _ => ?_)
  refine c_then0 (B' := fPut (mU (mU (mU B1 13 t (-1)) 12 t 0) 14 t (-1)) (nI ow) (A 8 t - sBack A t - sPaid A t)) (L' := L) (T' := T) ?_
  refine x_aload_n Γ dX2_sell_54 rfl rfl ?_
  refine x_aload_n Γ dX2_sell_55 rfl rfl ?_
  refine x_iload Γ dX2_sell_56 rfl ?_
  refine x_bipush (v := 11) Γ dX2_sell_58 (by decide) ?_
  refine x_invV (emb := embV) (ci := 3) (rm := ({ frames := 4, cells := 1, slots := 3, locals := 150 } : Room)) Γ [.ref (th t), .int (sPaid A t), .int 11] (fun w1 _ w2 => cP G ca th (fGa (fPut (mU (mU (mU B1 13 t (-1)) 12 t 0) 14 t (-1)) (nI ow) (A 8 t - sBack A t - sPaid A t)) t (sPaid A t) 11) n (fDE (mU (mU (mU (fPut (mU (mU (mU B1 13 t (-1)) 12 t 0) 14 t (-1)) (nI ow) (A 8 t - sBack A t - sPaid A t)) 3 0 ((fPut (mU (mU (mU B1 13 t (-1)) 12 t 0) 14 t (-1)) (nI ow) (A 8 t - sBack A t - sPaid A t)) 3 0 + sPaid A t)) 11 t (sPaid A t)) 15 t (-1)) L) (tUp T t (11, (fPut (mU (mU (mU B1 13 t (-1)) 12 t 0) 14 t (-1)) (nI ow) (A 8 t - sBack A t - sPaid A t)) 4 0 + 1)) w1 w2) rfl (fun w1 h1 => t_giveAway h1.1 htn hn hL hlL) c_self rfl k_405 k_1 k_402 k_404 s_9 hd_X2_giveAway ⟨Nat.le_of_ble_eq_true rfl, Nat.le_of_ble_eq_true rfl⟩ ⟨Nat.le_of_ble_eq_true rfl, Nat.le_of_ble_eq_true rfl⟩ (Nat.le_of_ble_eq_true rfl) dX2_sell_60 (fun _ => ?_)
  refine c_then0 (B' := fGa (fPut (mU (mU (mU B1 13 t (-1)) 12 t 0) 14 t (-1)) (nI ow) (A 8 t - sBack A t - sPaid A t)) t (sPaid A t) 11) (L' := fDE (mU (mU (mU (fPut (mU (mU (mU B1 13 t (-1)) 12 t 0) 14 t (-1)) (nI ow) (A 8 t - sBack A t - sPaid A t)) 3 0 ((fPut (mU (mU (mU B1 13 t (-1)) 12 t 0) 14 t (-1)) (nI ow) (A 8 t - sBack A t - sPaid A t)) 3 0 + sPaid A t)) 11 t (sPaid A t)) 15 t (-1)) L) (T' := tUp T t (11, (fPut (mU (mU (mU B1 13 t (-1)) 12 t 0) 14 t (-1)) (nI ow) (A 8 t - sBack A t - sPaid A t)) 4 0 + 1)) ?_
  refine x_vret Γ rfl (fun w2 e2 => ?_) ⟨Nat.le_of_ble_eq_true rfl, Nat.le_of_ble_eq_true rfl⟩ dX2_sell_63
  have e4 : (fPut (mU (mU (mU B1 13 t (-1)) 12 t 0) 14 t (-1)) (nI ow) (A 8 t - sBack A t - sPaid A t)) 4 0 + 1 = nI (D + 1) := by
    rw [fPut_in how8, mU_j (by decide), mU_j (by decide), mU_j (by decide), mU_j (by decide), hBr 4 (by decide), cB_j (by decide), hD, nI_1]
  have e15 : fDE (mU (mU (mU (fPut (mU (mU (mU B1 13 t (-1)) 12 t 0) 14 t (-1)) (nI ow) (A 8 t - sBack A t - sPaid A t)) 3 0 ((fPut (mU (mU (mU B1 13 t (-1)) 12 t 0) 14 t (-1)) (nI ow) (A 8 t - sBack A t - sPaid A t)) 3 0 + sPaid A t)) 11 t (sPaid A t)) 15 t (-1)) L = fFor t L := by
    refine fDE_for (mU_eq _ _ _ _) (fun q hq hqt => ?_)
    rw [mU_i hqt, mU_j (by decide), mU_j (by decide), fPut_in how8, mU_j (by decide), mU_j (by decide), mU_j (by decide), mU_j (by decide), hBr 15 (by decide), cB_j (by decide)]
    obtain ⟨-, ci, hci, hg⟩ := hI.2.1.2.2 q hq
    rw [hg]
    exact nI_nm1 (by omega)
  rw [e4, e15] at e2
  exact ⟨⟨_, hT.move hD1 (fun i hi => sell_ne hi (by decide) (by decide)) (sell_9 A t) (sell_j rfl), e2.1.congr (sell_fin how how8 hB2 hBr _ rfl)⟩, e2.2⟩
set_option maxRecDepth 100000 in
theorem t_oweFees {ca th : Nat → Nat} {A : xS} {n : Nat} {L : List Nat} {T : Nat → xTg} {w : xW} (h : CRaw G w ca th (cB A) n L T) (hI : pI A n L) : xMet l G yX2_oweFees cX2_oweFees 3 none ({ frames := 3, cells := 0, slots := 0, locals := 80 } : Room) [.ref (ca 0)] w embV (fun _ w' => cP G ca th (cB (fOwe n A)) n L T w w') := by
  refine xMet_of (by decide) (Nat.le_of_ble_eq_true rfl) ?_
  intro p e s m below meth c Γ hnm
  have hn := hI.1.2.1
  refine c_in h ?_
  have loop : ∀ d t, t + d = n → xJ p l e ({ frames := 3, cells := 0, slots := 0, locals := 80 } : Room) s m ([.ref (ca 0)] : List Value).toArray below meth c G 3 (MQ below (xQ G embV (fun _ w' => cP G ca th (cB (fOwe n A)) n L T w w')) ([.ref (ca 0)] : List Value).toArray s ({ frames := 3, cells := 0, slots := 0, locals := 80 } : Room).cells ({ frames := 3, cells := 0, slots := 0, locals := 80 } : Room).slots (xA G)) (cP G ca th (cB (fOwe t A)) n L T w) 0 0 2 [(0, .ref (ca 0)), (1, .int (nI t))] [] := by
    intro d
    induction d with
    | zero =>
      intro t ht
      refine x_iload_n Γ dX2_oweFees_2 rfl rfl ?_
      refine x_aload_n Γ dX2_oweFees_3 rfl rfl ?_
      refine c_this Γ 2 rfl (by decide) k_60 rfl dX2_oweFees_4 ?_
      refine x_invV (emb := embI) (ci := 0) (rm := ({ frames := 0, cells := 0, slots := 0, locals := 0 } : Room)) Γ [] (fun w1 r w2 => r = nI n ∧ w2 = w1) rfl (fun w1 h1 => t_size h1.1.2.2.2.1) c_lst3 rfl k_91 k_4 k_88 k_89 k_90 hd_Jx4a65c_size_8abf5 ⟨Nat.le_of_ble_eq_true rfl, Nat.le_of_ble_eq_true rfl⟩ ⟨Nat.le_of_ble_eq_true rfl, Nat.le_of_ble_eq_true rfl⟩ (Nat.le_of_ble_eq_true rfl) dX2_oweFees_7 (fun r => ?_)
      refine m_same (fun e9 => ?_)
      subst e9
      refine x_icmp_ge (tgt := 64) Γ dX2_oweFees_10 (by decide) (fun c10 => ?_) (fun c10 => absurd (nI_le (by omega) (by omega)) c10)
      refine x_vret Γ rfl (fun w2 e2 => ?_) ⟨Nat.le_of_ble_eq_true rfl, Nat.le_of_ble_eq_true rfl⟩ dX2_oweFees_64
      have hnt : t = n := by omega
      subst hnt
      exact e2
    | succ d ih =>
      intro t ht
      have htn : t < n := by omega
      obtain ⟨i1, i2, i3, i4, i5, i6, i7, i8, i9⟩ := pI.owes hI t (by omega)
      have hnx : ∀ x2 B, B = cB (fOwe (t + 1) A) → xJ p l e ({ frames := 3, cells := 0, slots := 0, locals := 80 } : Room) s m ([.ref (ca 0)] : List Value).toArray below meth c G 3 (MQ below (xQ G embV (fun _ w' => cP G ca th (cB (fOwe n A)) n L T w w')) ([.ref (ca 0)] : List Value).toArray s ({ frames := 3, cells := 0, slots := 0, locals := 80 } : Room).cells ({ frames := 3, cells := 0, slots := 0, locals := 80 } : Room).slots (xA G)) (cP G ca th B n L T w) 0 0 58 [(2, .ref x2), (0, .ref (ca 0)), (1, .int (nI t))] [] := by
        intro x2 B hB
        subst hB
        refine x_iinc (v := _ + 1) Γ dX2_oweFees_58 rfl rfl rfl (by decide) ?_
        rw [nI_1]
        refine x_goto (tgt := 2) Γ dX2_oweFees_61 (by decide) ?_
        refine x_lv [0, 1] rfl ?_
        exact ih (t + 1) (by omega)
      refine x_iload_n Γ dX2_oweFees_2 rfl rfl ?_
      refine x_aload_n Γ dX2_oweFees_3 rfl rfl ?_
      refine c_this Γ 2 rfl (by decide) k_60 rfl dX2_oweFees_4 ?_
      refine x_invV (emb := embI) (ci := 0) (rm := ({ frames := 0, cells := 0, slots := 0, locals := 0 } : Room)) Γ [] (fun w1 r w2 => r = nI n ∧ w2 = w1) rfl (fun w1 h1 => t_size h1.1.2.2.2.1) c_lst3 rfl k_91 k_4 k_88 k_89 k_90 hd_Jx4a65c_size_8abf5 ⟨Nat.le_of_ble_eq_true rfl, Nat.le_of_ble_eq_true rfl⟩ ⟨Nat.le_of_ble_eq_true rfl, Nat.le_of_ble_eq_true rfl⟩ (Nat.le_of_ble_eq_true rfl) dX2_oweFees_7 (fun r => ?_)
      refine m_same (fun e9 => ?_)
      subst e9
      refine x_icmp_ge (tgt := 64) Γ dX2_oweFees_10 (by decide) (fun c10 => absurd c10 (nI_ge (by omega) (by omega))) (fun c10 => ?_)
      refine x_aload_n Γ dX2_oweFees_13 rfl rfl ?_
      refine c_this Γ 2 rfl (by decide) k_60 rfl dX2_oweFees_14 ?_
      refine x_iload_n Γ dX2_oweFees_17 rfl rfl ?_
      refine x_invV (emb := embA) (ci := 0) (rm := ({ frames := 2, cells := 0, slots := 0, locals := 43 } : Room)) Γ [.int (nI t)] (fun w1 r w2 => r = th t ∧ w2 = w1) rfl (fun w1 h1 => t_get h1.1.2.2.2.1 htn) c_lst3 rfl k_209 k_4 k_206 k_207 k_208 hd_Jx4a65c_get_915e3 ⟨Nat.le_of_ble_eq_true rfl, Nat.le_of_ble_eq_true rfl⟩ ⟨Nat.le_of_ble_eq_true rfl, Nat.le_of_ble_eq_true rfl⟩ (Nat.le_of_ble_eq_true rfl) dX2_oweFees_18 (fun r => ?_)
      refine m_same (fun e9 => ?_)
      subst e9
      refine x_cast (C := RX1) (T := TX1) (N := 12) (ci := 2) Γ rfl (c_thing htn) k_220 dX2_oweFees_21 ?_
      refine x_astore_n Γ dX2_oweFees_24 rfl rfl (by decide) ?_
      refine x_aload_n Γ dX2_oweFees_25 rfl rfl ?_
      refine x_invVN (emb := embI) (ci := 2) (rm := ({ frames := 1, cells := 0, slots := 0, locals := 40 } : Room)) Γ [] (fun w1 r w2 => bq (rIn 0 4 ((cB (fOwe t A)) 9 t)) r ∧ w2 = w1) rfl (fun w1 h1 => by obtain ⟨b9, g1, g2⟩ := h1.1.2.2.2.2.2 t htn; exact t_isAtC g1 rfl) (c_thing htn) rfl k_395 k_14 k_392 k_394 s_7 hd_X1_isAtCounter ⟨Nat.le_of_ble_eq_true rfl, Nat.le_of_ble_eq_true rfl⟩ ⟨Nat.le_of_ble_eq_true rfl, Nat.le_of_ble_eq_true rfl⟩ (Nat.le_of_ble_eq_true rfl) dX2_oweFees_26 (fun r => ?_)
      refine m_same (fun qA => ?_)
      refine x_if_eq (tgt := 58) Γ dX2_oweFees_29 (by decide) (fun c29 => ?_) (fun c29 => ?_)
      · refine x_lv [2, 0, 1] rfl ?_
        refine hnx _ _ ?_
        rw [fOwe]
        have ev : owes (fOwe t A) t = 0 := by
          unfold owes
          rw [if_pos (show ¬ fOwe t A 9 t < 5 from fun z => qA.eq c29 ⟨i4 t htn, (lt_le (by decide)).mp z⟩)]
        rw [ev, Int32.add_zero, mU_id rfl]
      · have hat : fOwe t A 9 t < 5 := (lt_le (by decide)).mpr (qA.ne c29).2
        refine x_aload_n Γ dX2_oweFees_32 rfl rfl ?_
        refine x_dup Γ dX2_oweFees_33 rfl ?_
        refine c_getT Γ 8 htn (fun _ => rfl) (by decide) k_277 dX2_oweFees_34 ?_
        refine x_aload_n Γ dX2_oweFees_37 rfl rfl ?_
        refine c_getT Γ 2 htn (fun _ => rfl) (by decide) k_266 dX2_oweFees_38 ?_
        refine x_aload_n Γ dX2_oweFees_41 rfl rfl ?_
        refine x_invVN (emb := embI) (ci := 2) (rm := ({ frames := 0, cells := 0, slots := 0, locals := 0 } : Room)) Γ [] (fun w1 r w2 => bq (0 < (cB (fOwe t A)) 12 t) r ∧ w2 = w1) rfl (fun w1 h1 => by obtain ⟨b9, g1, g2⟩ := h1.1.2.2.2.2.2 t htn; exact t_hasLoan g1 rfl) (c_thing htn) rfl k_400 k_14 k_397 k_399 s_8 hd_X1_hasLoan ⟨Nat.le_of_ble_eq_true rfl, Nat.le_of_ble_eq_true rfl⟩ ⟨Nat.le_of_ble_eq_true rfl, Nat.le_of_ble_eq_true rfl⟩ (Nat.le_of_ble_eq_true rfl) dX2_oweFees_42 (fun r => ?_)
        refine m_same (fun qL => ?_)
        refine x_if_eq (tgt := 52) Γ dX2_oweFees_45 (by decide) (fun c45 => ?_) (fun c45 => ?_)
        · have hlo : ¬ 0 < fOwe t A 12 t := qL.eq c45
          have ev : owes (fOwe t A) t = fOwe t A 7 t * 2 := by
            unfold owes
            rw [if_neg (not_not_intro hat), if_neg hlo]
            exact Int32.mul_comm _ _
          refine x_iconst (v := 2) Γ dX2_oweFees_52 (by decide) ?_
          refine x_imul Γ dX2_oweFees_53 ?_
          refine x_iadd Γ dX2_oweFees_54 ?_
          refine c_putT Γ 8 11 htn (fun _ => by simp [tFs, mU]) (by decide) (by decide) k_277 rfl rfl dX2_oweFees_55 ?_
          refine x_lv [2, 0, 1] rfl ?_
          refine hnx _ _ ?_
          rw [fOwe, cB_mU (by decide) (by decide)]
          rw [ev]
          rfl
        · have hlo : 0 < fOwe t A 12 t := qL.ne c45
          have ev : owes (fOwe t A) t = fOwe t A 7 t * 1 := by
            unfold owes
            rw [if_neg (not_not_intro hat), if_pos hlo]
            exact (Int32.mul_one _).symm
          refine x_iconst (v := 1) Γ dX2_oweFees_48 (by decide) ?_
          refine x_goto (tgt := 53) Γ dX2_oweFees_49 (by decide) ?_
          refine x_imul Γ dX2_oweFees_53 ?_
          refine x_iadd Γ dX2_oweFees_54 ?_
          refine c_putT Γ 8 11 htn (fun _ => by simp [tFs, mU]) (by decide) (by decide) k_277 rfl rfl dX2_oweFees_55 ?_
          refine x_lv [2, 0, 1] rfl ?_
          refine hnx _ _ ?_
          rw [fOwe, cB_mU (by decide) (by decide)]
          rw [ev]
          rfl
  refine x_iconst (v := 0) Γ dX2_oweFees_0 (by decide) ?_
  refine x_istore_n Γ dX2_oweFees_1 rfl rfl (by decide) ?_
  refine x_lv [0, 1] rfl ?_
  exact loop n 0 (by omega)
set_option maxRecDepth 100000 in
theorem t_sellCalled {ca th : Nat → Nat} {A : xS} {n : Nat} {L : List Nat} {T : Nat → xTg} {w : xW} (h : CRaw G w ca th (cB A) n L T) {kb : Nat} {D : Nat} (hI : pI A n L) (hT : tgI A n D T) (hD : A 4 0 = nI D) (hD1 : D ≤ 1000) (hC : calI A n) (hkb : phi A n L ≤ phv n (fCal n (0, A, L)) + kb) : xMet l G yX2_sellCalled cX2_sellCalled 4 (some .int) ({ frames := 6, cells := kb, slots := 3 * kb, locals := 230 } : Room) [.ref (ca 0)] w embI (fun r w' => r = (fCal n (0, A, L)).1 ∧ cQ G ca th (fCal n (0, A, L)).2.1 n (fCal n (0, A, L)).2.2 D w w') := by
  refine xMet_of (by decide) (Nat.le_of_ble_eq_true rfl) ?_
  intro p e s m below meth c Γ hnm
  have hn := hI.1.2.1
  have hmono := fun m h9 => fCal_phi (n := n) (0, A, L) m (n - m) h9
  refine c_in h ?_
  have loop : ∀ d t T, t + d = n → tgI (fCal t (0, A, L)).2.1 n D T → xJ p l e ({ frames := 6, cells := kb, slots := 3 * kb, locals := 230 } : Room) s m ([.ref (ca 0)] : List Value).toArray below meth c G 4 (MQ below (xQ G embI (fun r w' => r = (fCal n (0, A, L)).1 ∧ cQ G ca th (fCal n (0, A, L)).2.1 n (fCal n (0, A, L)).2.2 D w w')) ([.ref (ca 0)] : List Value).toArray s ({ frames := 6, cells := kb, slots := 3 * kb, locals := 230 } : Room).cells ({ frames := 6, cells := kb, slots := 3 * kb, locals := 230 } : Room).slots (xA G)) (cP G ca th (cB (fCal t (0, A, L)).2.1) n (fCal t (0, A, L)).2.2 T w) (phi A n L - phv n (fCal t (0, A, L))) (3 * (phi A n L - phv n (fCal t (0, A, L)))) 4 [(0, .ref (ca 0)), (1, .int (fCal t (0, A, L)).1), (2, .int (nI t))] [] := by
    intro d
    induction d with
    | zero =>
      intro t T ht hTt
      have hmt := hmono t (by omega)
      rw [show t + (n - t) = n by omega] at hmt
      refine x_iload_n Γ dX2_sellCalled_4 rfl rfl ?_
      refine x_aload_n Γ dX2_sellCalled_5 rfl rfl ?_
      refine c_this Γ 2 rfl (by decide) k_60 rfl dX2_sellCalled_6 ?_
      refine x_invV (emb := embI) (ci := 0) (rm := ({ frames := 0, cells := 0, slots := 0, locals := 0 } : Room)) Γ [] (fun w1 r w2 => r = nI n ∧ w2 = w1) rfl (fun w1 h1 => t_size h1.1.2.2.2.1) c_lst3 rfl k_91 k_4 k_88 k_89 k_90 hd_Jx4a65c_size_8abf5 ⟨Nat.le_of_ble_eq_true rfl, Nat.le_of_ble_eq_true rfl⟩ ⟨by show phi A n L - phv n (fCal t (0, A, L)) ≤ kb; omega, by show 3 * (phi A n L - phv n (fCal t (0, A, L))) ≤ 3 * kb; omega⟩ (Nat.le_of_ble_eq_true rfl) dX2_sellCalled_9 (fun r => ?_)
      refine m_same (fun e9 => ?_)
      subst e9
      refine x_icmp_ge (tgt := 59) Γ dX2_sellCalled_12 (by decide) (fun c12 => ?_) (fun c12 => absurd (nI_le (by omega) (by omega)) c12)
      refine x_iload_n Γ dX2_sellCalled_59 rfl rfl ?_
      have hnt : t = n := by omega
      subst hnt
      exact x_iret Γ rfl rfl (fun w2 e2 => ⟨rfl, ⟨_, hTt, e2.1⟩, e2.2⟩) ⟨by show phi A t L - phv t (fCal t (0, A, L)) ≤ kb; omega, by show 3 * (phi A t L - phv t (fCal t (0, A, L))) ≤ 3 * kb; omega⟩ dX2_sellCalled_60
    | succ d ih =>
      intro t T ht hTt
      have htn : t < n := by omega
      have ip := fCal_P (0 : Int32) hI hC t (by omega)
      have hIt := ip.1
      obtain ⟨hs, -⟩ := fCal_I (n := n) (0, A, L) t hI.2.1
      have h4 : (fCal t (0, A, L)).2.1 4 0 = nI D := (congrFun (hs 4 rfl) 0).trans hD
      have hm0 : phv n (fCal t (0, A, L)) ≤ phi A n L := by have := fCal_phi (n := n) (0, A, L) 0 t (by omega); rw [Nat.zero_add] at this; exact this
      have hmt := hmono t (by omega)
      rw [show t + (n - t) = n by omega] at hmt
      have hm1 := hmono (t + 1) (by omega)
      rw [show t + 1 + (n - (t + 1)) = n by omega] at hm1
      have hnx : ∀ (V2 : xV) T' lx, fCal (t + 1) (0, A, L) = V2 → tgI V2.2.1 n D T' → xpick lx [0, 1, 2] = [(0, .ref (ca 0)), (1, .int V2.1), (2, .int (nI t))] → xJ p l e ({ frames := 6, cells := kb, slots := 3 * kb, locals := 230 } : Room) s m ([.ref (ca 0)] : List Value).toArray below meth c G 4 (MQ below (xQ G embI (fun r w' => r = (fCal n (0, A, L)).1 ∧ cQ G ca th (fCal n (0, A, L)).2.1 n (fCal n (0, A, L)).2.2 D w w')) ([.ref (ca 0)] : List Value).toArray s ({ frames := 6, cells := kb, slots := 3 * kb, locals := 230 } : Room).cells ({ frames := 6, cells := kb, slots := 3 * kb, locals := 230 } : Room).slots (xA G)) (cP G ca th (cB V2.2.1) n V2.2.2 T' w) (phi A n L - phv n V2) (3 * (phi A n L - phv n V2)) 53 lx [] := by
        intro V2 T' lx hV hT2 hlx
        subst hV
        refine x_lv [0, 1, 2] hlx ?_
        refine x_iinc (v := _ + 1) Γ dX2_sellCalled_53 rfl rfl rfl (by decide) ?_
        rw [nI_1]
        refine x_goto (tgt := 4) Γ dX2_sellCalled_56 (by decide) ?_
        refine x_lv [0, 1, 2] rfl ?_
        exact ih (t + 1) T' (by omega) hT2
      refine x_iload_n Γ dX2_sellCalled_4 rfl rfl ?_
      refine x_aload_n Γ dX2_sellCalled_5 rfl rfl ?_
      refine c_this Γ 2 rfl (by decide) k_60 rfl dX2_sellCalled_6 ?_
      refine x_invV (emb := embI) (ci := 0) (rm := ({ frames := 0, cells := 0, slots := 0, locals := 0 } : Room)) Γ [] (fun w1 r w2 => r = nI n ∧ w2 = w1) rfl (fun w1 h1 => t_size h1.1.2.2.2.1) c_lst3 rfl k_91 k_4 k_88 k_89 k_90 hd_Jx4a65c_size_8abf5 ⟨Nat.le_of_ble_eq_true rfl, Nat.le_of_ble_eq_true rfl⟩ ⟨by show phi A n L - phv n (fCal t (0, A, L)) ≤ kb; omega, by show 3 * (phi A n L - phv n (fCal t (0, A, L))) ≤ 3 * kb; omega⟩ (Nat.le_of_ble_eq_true rfl) dX2_sellCalled_9 (fun r => ?_)
      refine m_same (fun e9 => ?_)
      subst e9
      refine x_icmp_ge (tgt := 59) Γ dX2_sellCalled_12 (by decide) (fun c12 => absurd c12 (nI_ge (by omega) (by omega))) (fun c12 => ?_)
      refine x_aload_n Γ dX2_sellCalled_15 rfl rfl ?_
      refine c_this Γ 2 rfl (by decide) k_60 rfl dX2_sellCalled_16 ?_
      refine x_iload_n Γ dX2_sellCalled_19 rfl rfl ?_
      refine x_invV (emb := embA) (ci := 0) (rm := ({ frames := 2, cells := 0, slots := 0, locals := 43 } : Room)) Γ [.int (nI t)] (fun w1 r w2 => r = th t ∧ w2 = w1) rfl (fun w1 h1 => t_get h1.1.2.2.2.1 htn) c_lst3 rfl k_209 k_4 k_206 k_207 k_208 hd_Jx4a65c_get_915e3 ⟨Nat.le_of_ble_eq_true rfl, Nat.le_of_ble_eq_true rfl⟩ ⟨by show phi A n L - phv n (fCal t (0, A, L)) ≤ kb; omega, by show 3 * (phi A n L - phv n (fCal t (0, A, L))) ≤ 3 * kb; omega⟩ (Nat.le_of_ble_eq_true rfl) dX2_sellCalled_20 (fun r => ?_)
      refine m_same (fun e9 => ?_)
      subst e9
      refine x_cast (C := RX1) (T := TX1) (N := 12) (ci := 2) Γ rfl (c_thing htn) k_220 dX2_sellCalled_23 ?_
      refine x_astore_n Γ dX2_sellCalled_26 rfl rfl (by decide) ?_
      refine x_aload_n Γ dX2_sellCalled_27 rfl rfl ?_
      refine x_invVN (emb := embI) (ci := 2) (rm := ({ frames := 0, cells := 0, slots := 0, locals := 0 } : Room)) Γ [] (fun w1 r w2 => bq (¬ (cB (fCal t (0, A, L)).2.1) 14 t = -1) r ∧ w2 = w1) rfl (fun w1 h1 => by obtain ⟨b9, g1, g2⟩ := h1.1.2.2.2.2.2 t htn; exact t_isCalled g1 rfl) (c_thing htn) rfl k_480 k_14 k_477 k_479 s_16 hd_X1_isCalled ⟨Nat.le_of_ble_eq_true rfl, Nat.le_of_ble_eq_true rfl⟩ ⟨by show phi A n L - phv n (fCal t (0, A, L)) ≤ kb; omega, by show 3 * (phi A n L - phv n (fCal t (0, A, L))) ≤ 3 * kb; omega⟩ (Nat.le_of_ble_eq_true rfl) dX2_sellCalled_28 (fun r => ?_)
      refine m_same (fun qC => ?_)
      refine x_if_eq (tgt := 53) Γ dX2_sellCalled_31 (by decide) (fun c31 => ?_) (fun c31 => ?_)
      · exact hnx (fCal t (0, A, L)) T _ (by rw [fCal, if_neg (fun z => qC.eq c31 ((fCalT_iff hIt ip.2.1 htn).mp z).1)]) hTt rfl
      · refine x_aload_n Γ dX2_sellCalled_34 rfl rfl ?_
        refine c_getT Γ 11 htn (fun _ => rfl) (by decide) k_283 dX2_sellCalled_35 ?_
        refine x_aload_n Γ dX2_sellCalled_38 rfl rfl ?_
        refine c_this Γ 5 rfl (by decide) k_63 rfl dX2_sellCalled_39 ?_
        refine x_icmp_gt (tgt := 53) Γ dX2_sellCalled_42 (by decide) (fun c42 => ?_) (fun c42 => ?_)
        · exact hnx (fCal t (0, A, L)) T _ (by rw [fCal, if_neg (fun z => absurd c42 (Int32.not_lt.mpr ((fCalT_iff hIt ip.2.1 htn).mp z).2))]) hTt rfl
        · refine x_aload_n Γ dX2_sellCalled_45 rfl rfl ?_
          refine x_aload_n Γ dX2_sellCalled_46 rfl rfl ?_
          have hc : fCalT (fCal t (0, A, L)).2.1 t := (fCalT_iff hIt ip.2.1 htn).mpr ⟨qC.ne c31, Int32.not_lt.mp c42⟩
          have hps := phi_sell (L := (fCal t (0, A, L)).2.2) htn hc.1
          have hstep : fCal (t + 1) (0, A, L) = vSell t (fCal t (0, A, L)) := by rw [fCal, if_pos hc]
          rw [hstep] at hm1
          have hps : phv n (vSell t (fCal t (0, A, L))) + 1 ≤ phv n (fCal t (0, A, L)) := hps
          refine x_invV (emb := embV) (ci := 3) (rm := ({ frames := 5, cells := 1, slots := 3, locals := 190 } : Room)) Γ [.ref (th t)] (fun w1 _ w2 => cQ G ca th (fSell t (fCal t (0, A, L)).2.1) n (fFor t (fCal t (0, A, L)).2.2) D w1 w2) rfl (fun w1 h1 => t_sell h1.1 htn hIt hTt h4 hD1) c_self rfl k_506 k_1 k_503 k_505 s_20 hd_X2_sell ⟨Nat.le_of_ble_eq_true rfl, Nat.le_of_ble_eq_true rfl⟩ ⟨by show phi A n L - phv n (fCal t (0, A, L)) + 1 ≤ kb; omega, by show 3 * (phi A n L - phv n (fCal t (0, A, L))) + 3 ≤ 3 * kb; omega⟩ (Nat.le_of_ble_eq_true rfl) dX2_sellCalled_47 (fun _ => ?_)
          refine c_thenQ (A' := fSell t (fCal t (0, A, L)).2.1) (L' := fFor t (fCal t (0, A, L)).2.2) (D := D) (fun T' hT' => ?_)
          refine x_wide (k' := phi A n L - phv n (vSell t (fCal t (0, A, L)))) (n' := 3 * (phi A n L - phv n (vSell t (fCal t (0, A, L))))) (by show phi A n L - phv n (fCal t (0, A, L)) + 1 ≤ phi A n L - phv n (vSell t (fCal t (0, A, L))); omega) (by show 3 * (phi A n L - phv n (fCal t (0, A, L))) + 3 ≤ 3 * (phi A n L - phv n (vSell t (fCal t (0, A, L)))); omega) ?_
          refine x_iinc (v := _ + 1) Γ dX2_sellCalled_50 rfl rfl rfl (by decide) ?_
          exact hnx (vSell t (fCal t (0, A, L))) T' _ hstep hT' rfl
  refine x_iconst (v := 0) Γ dX2_sellCalled_0 (by decide) ?_
  refine x_istore_n Γ dX2_sellCalled_1 rfl rfl (by decide) ?_
  refine x_iconst (v := 0) Γ dX2_sellCalled_2 (by decide) ?_
  refine x_istore_n Γ dX2_sellCalled_3 rfl rfl (by decide) ?_
  refine x_lv [0, 1, 2] rfl ?_
  refine x_wide (k' := phi A n L - phv n (fCal 0 (0, A, L))) (n' := 3 * (phi A n L - phv n (fCal 0 (0, A, L)))) (Nat.zero_le _) (Nat.zero_le _) ?_
  exact loop n 0 T (by omega) hT
set_option maxRecDepth 100000 in
theorem t_sellUnfetched {ca th : Nat → Nat} {A : xS} {n : Nat} {L : List Nat} {T : Nat → xTg} {w : xW} (h : CRaw G w ca th (cB A) n L T) {kb : Nat} {D : Nat} (hI : pI A n L) (hT : tgI A n D T) (hD : A 4 0 = nI D) (hD1 : D ≤ 1000) (hC : calS A n) (hkb : phi A n L ≤ phv n (fUnf n (0, A, L)) + kb) : xMet l G yX2_sellUnfetched cX2_sellUnfetched 5 (some .int) ({ frames := 6, cells := kb, slots := 3 * kb, locals := 230 } : Room) [.ref (ca 0)] w embI (fun r w' => r = (fUnf n (0, A, L)).1 ∧ cQ G ca th (fUnf n (0, A, L)).2.1 n (fUnf n (0, A, L)).2.2 D w w') := by
  refine xMet_of (by decide) (Nat.le_of_ble_eq_true rfl) ?_
  intro p e s m below meth c Γ hnm
  have hn := hI.1.2.1
  have hmono := fun m h9 => fUnf_phi (n := n) (0, A, L) m (n - m) h9
  refine c_in h ?_
  have loop : ∀ d t T, t + d = n → tgI (fUnf t (0, A, L)).2.1 n D T → xJ p l e ({ frames := 6, cells := kb, slots := 3 * kb, locals := 230 } : Room) s m ([.ref (ca 0)] : List Value).toArray below meth c G 5 (MQ below (xQ G embI (fun r w' => r = (fUnf n (0, A, L)).1 ∧ cQ G ca th (fUnf n (0, A, L)).2.1 n (fUnf n (0, A, L)).2.2 D w w')) ([.ref (ca 0)] : List Value).toArray s ({ frames := 6, cells := kb, slots := 3 * kb, locals := 230 } : Room).cells ({ frames := 6, cells := kb, slots := 3 * kb, locals := 230 } : Room).slots (xA G)) (cP G ca th (cB (fUnf t (0, A, L)).2.1) n (fUnf t (0, A, L)).2.2 T w) (phi A n L - phv n (fUnf t (0, A, L))) (3 * (phi A n L - phv n (fUnf t (0, A, L)))) 4 [(0, .ref (ca 0)), (1, .int (fUnf t (0, A, L)).1), (2, .int (nI t))] [] := by
    intro d
    induction d with
    | zero =>
      intro t T ht hTt
      have hmt := hmono t (by omega)
      rw [show t + (n - t) = n by omega] at hmt
      refine x_iload_n Γ dX2_sellUnfetched_4 rfl rfl ?_
      refine x_aload_n Γ dX2_sellUnfetched_5 rfl rfl ?_
      refine c_this Γ 2 rfl (by decide) k_60 rfl dX2_sellUnfetched_6 ?_
      refine x_invV (emb := embI) (ci := 0) (rm := ({ frames := 0, cells := 0, slots := 0, locals := 0 } : Room)) Γ [] (fun w1 r w2 => r = nI n ∧ w2 = w1) rfl (fun w1 h1 => t_size h1.1.2.2.2.1) c_lst3 rfl k_91 k_4 k_88 k_89 k_90 hd_Jx4a65c_size_8abf5 ⟨Nat.le_of_ble_eq_true rfl, Nat.le_of_ble_eq_true rfl⟩ ⟨by show phi A n L - phv n (fUnf t (0, A, L)) ≤ kb; omega, by show 3 * (phi A n L - phv n (fUnf t (0, A, L))) ≤ 3 * kb; omega⟩ (Nat.le_of_ble_eq_true rfl) dX2_sellUnfetched_9 (fun r => ?_)
      refine m_same (fun e9 => ?_)
      subst e9
      refine x_icmp_ge (tgt := 75) Γ dX2_sellUnfetched_12 (by decide) (fun c12 => ?_) (fun c12 => absurd (nI_le (by omega) (by omega)) c12)
      refine x_iload_n Γ dX2_sellUnfetched_75 rfl rfl ?_
      have hnt : t = n := by omega
      subst hnt
      exact x_iret Γ rfl rfl (fun w2 e2 => ⟨rfl, ⟨_, hTt, e2.1⟩, e2.2⟩) ⟨by show phi A t L - phv t (fUnf t (0, A, L)) ≤ kb; omega, by show 3 * (phi A t L - phv t (fUnf t (0, A, L))) ≤ 3 * kb; omega⟩ dX2_sellUnfetched_76
    | succ d ih =>
      intro t T ht hTt
      have htn : t < n := by omega
      have ip := fUnf_P (0 : Int32) hI hC t (by omega)
      have hIt := ip.1
      obtain ⟨hs, -⟩ := fUnf_I (n := n) (0, A, L) t hI.2.1
      have h4 : (fUnf t (0, A, L)).2.1 4 0 = nI D := (congrFun (hs 4 rfl) 0).trans hD
      have hm0 : phv n (fUnf t (0, A, L)) ≤ phi A n L := by have := fUnf_phi (n := n) (0, A, L) 0 t (by omega); rw [Nat.zero_add] at this; exact this
      have hmt := hmono t (by omega)
      rw [show t + (n - t) = n by omega] at hmt
      have hm1 := hmono (t + 1) (by omega)
      rw [show t + 1 + (n - (t + 1)) = n by omega] at hm1
      have hnx : ∀ (V2 : xV) T' lx, fUnf (t + 1) (0, A, L) = V2 → tgI V2.2.1 n D T' → xpick lx [0, 1, 2] = [(0, .ref (ca 0)), (1, .int V2.1), (2, .int (nI t))] → xJ p l e ({ frames := 6, cells := kb, slots := 3 * kb, locals := 230 } : Room) s m ([.ref (ca 0)] : List Value).toArray below meth c G 5 (MQ below (xQ G embI (fun r w' => r = (fUnf n (0, A, L)).1 ∧ cQ G ca th (fUnf n (0, A, L)).2.1 n (fUnf n (0, A, L)).2.2 D w w')) ([.ref (ca 0)] : List Value).toArray s ({ frames := 6, cells := kb, slots := 3 * kb, locals := 230 } : Room).cells ({ frames := 6, cells := kb, slots := 3 * kb, locals := 230 } : Room).slots (xA G)) (cP G ca th (cB V2.2.1) n V2.2.2 T' w) (phi A n L - phv n V2) (3 * (phi A n L - phv n V2)) 69 lx [] := by
        intro V2 T' lx hV hT2 hlx
        subst hV
        refine x_lv [0, 1, 2] hlx ?_
        refine x_iinc (v := _ + 1) Γ dX2_sellUnfetched_69 rfl rfl rfl (by decide) ?_
        rw [nI_1]
        refine x_goto (tgt := 4) Γ dX2_sellUnfetched_72 (by decide) ?_
        refine x_lv [0, 1, 2] rfl ?_
        exact ih (t + 1) T' (by omega) hT2
      refine x_iload_n Γ dX2_sellUnfetched_4 rfl rfl ?_
      refine x_aload_n Γ dX2_sellUnfetched_5 rfl rfl ?_
      refine c_this Γ 2 rfl (by decide) k_60 rfl dX2_sellUnfetched_6 ?_
      refine x_invV (emb := embI) (ci := 0) (rm := ({ frames := 0, cells := 0, slots := 0, locals := 0 } : Room)) Γ [] (fun w1 r w2 => r = nI n ∧ w2 = w1) rfl (fun w1 h1 => t_size h1.1.2.2.2.1) c_lst3 rfl k_91 k_4 k_88 k_89 k_90 hd_Jx4a65c_size_8abf5 ⟨Nat.le_of_ble_eq_true rfl, Nat.le_of_ble_eq_true rfl⟩ ⟨by show phi A n L - phv n (fUnf t (0, A, L)) ≤ kb; omega, by show 3 * (phi A n L - phv n (fUnf t (0, A, L))) ≤ 3 * kb; omega⟩ (Nat.le_of_ble_eq_true rfl) dX2_sellUnfetched_9 (fun r => ?_)
      refine m_same (fun e9 => ?_)
      subst e9
      refine x_icmp_ge (tgt := 75) Γ dX2_sellUnfetched_12 (by decide) (fun c12 => absurd c12 (nI_ge (by omega) (by omega))) (fun c12 => ?_)
      refine x_aload_n Γ dX2_sellUnfetched_15 rfl rfl ?_
      refine c_this Γ 2 rfl (by decide) k_60 rfl dX2_sellUnfetched_16 ?_
      refine x_iload_n Γ dX2_sellUnfetched_19 rfl rfl ?_
      refine x_invV (emb := embA) (ci := 0) (rm := ({ frames := 2, cells := 0, slots := 0, locals := 43 } : Room)) Γ [.int (nI t)] (fun w1 r w2 => r = th t ∧ w2 = w1) rfl (fun w1 h1 => t_get h1.1.2.2.2.1 htn) c_lst3 rfl k_209 k_4 k_206 k_207 k_208 hd_Jx4a65c_get_915e3 ⟨Nat.le_of_ble_eq_true rfl, Nat.le_of_ble_eq_true rfl⟩ ⟨by show phi A n L - phv n (fUnf t (0, A, L)) ≤ kb; omega, by show 3 * (phi A n L - phv n (fUnf t (0, A, L))) ≤ 3 * kb; omega⟩ (Nat.le_of_ble_eq_true rfl) dX2_sellUnfetched_20 (fun r => ?_)
      refine m_same (fun e9 => ?_)
      subst e9
      refine x_cast (C := RX1) (T := TX1) (N := 12) (ci := 2) Γ rfl (c_thing htn) k_220 dX2_sellUnfetched_23 ?_
      refine x_astore_n Γ dX2_sellUnfetched_26 rfl rfl (by decide) ?_
      refine x_aload_n Γ dX2_sellUnfetched_27 rfl rfl ?_
      refine c_this Γ 5 rfl (by decide) k_63 rfl dX2_sellUnfetched_28 ?_
      refine x_iconst (v := 1) Γ dX2_sellUnfetched_31 (by decide) ?_
      refine x_iadd Γ dX2_sellUnfetched_32 ?_
      refine x_aload_n Γ dX2_sellUnfetched_33 rfl rfl ?_
      refine c_getT Γ 3 htn (fun _ => rfl) (by decide) k_268 dX2_sellUnfetched_34 ?_
      refine x_isub Γ dX2_sellUnfetched_37 ?_
      refine x_istore Γ dX2_sellUnfetched_38 rfl (by decide) ?_
      refine x_aload_n Γ dX2_sellUnfetched_40 rfl rfl ?_
      have esub : (fUnf t (0, A, L)).2.1 4 0 + 1 - (fUnf t (0, A, L)).2.1 10 t = (fUnf t (0, A, L)).2.1 4 0 - (fUnf t (0, A, L)).2.1 10 t + 1 := by rw [Int32.sub_eq_add_neg, Int32.sub_eq_add_neg, Int32.add_assoc, Int32.add_comm 1, Int32.add_assoc]
      refine x_invVN (emb := embI) (ci := 2) (rm := ({ frames := 1, cells := 0, slots := 0, locals := 40 } : Room)) Γ [] (fun w1 r w2 => bq (rIn 0 4 ((cB (fUnf t (0, A, L)).2.1) 9 t)) r ∧ w2 = w1) rfl (fun w1 h1 => by obtain ⟨b9, g1, g2⟩ := h1.1.2.2.2.2.2 t htn; exact t_isAtC g1 rfl) (c_thing htn) rfl k_395 k_14 k_392 k_394 s_7 hd_X1_isAtCounter ⟨Nat.le_of_ble_eq_true rfl, Nat.le_of_ble_eq_true rfl⟩ ⟨by show phi A n L - phv n (fUnf t (0, A, L)) ≤ kb; omega, by show 3 * (phi A n L - phv n (fUnf t (0, A, L))) ≤ 3 * kb; omega⟩ (Nat.le_of_ble_eq_true rfl) dX2_sellUnfetched_41 (fun r => ?_)
      refine m_same (fun qA => ?_)
      refine x_if_eq (tgt := 69) Γ dX2_sellUnfetched_44 (by decide) (fun c44 => ?_) (fun c44 => ?_)
      · exact hnx (fUnf t (0, A, L)) T _ (by rw [fUnf, if_neg (fun z => qA.eq c44 ⟨hIt.2.2.2.1 t htn, (lt_le (by decide)).mp z.1⟩)]) hTt rfl
      · refine x_aload_n Γ dX2_sellUnfetched_47 rfl rfl ?_
        refine x_invVN (emb := embI) (ci := 2) (rm := ({ frames := 0, cells := 0, slots := 0, locals := 0 } : Room)) Γ [] (fun w1 r w2 => bq (0 < (cB (fUnf t (0, A, L)).2.1) 12 t) r ∧ w2 = w1) rfl (fun w1 h1 => by obtain ⟨b9, g1, g2⟩ := h1.1.2.2.2.2.2 t htn; exact t_hasLoan g1 rfl) (c_thing htn) rfl k_400 k_14 k_397 k_399 s_8 hd_X1_hasLoan ⟨Nat.le_of_ble_eq_true rfl, Nat.le_of_ble_eq_true rfl⟩ ⟨by show phi A n L - phv n (fUnf t (0, A, L)) ≤ kb; omega, by show 3 * (phi A n L - phv n (fUnf t (0, A, L))) ≤ 3 * kb; omega⟩ (Nat.le_of_ble_eq_true rfl) dX2_sellUnfetched_48 (fun r => ?_)
        refine m_same (fun qL => ?_)
        refine x_if_ne (tgt := 69) Γ dX2_sellUnfetched_51 (by decide) (fun c51 => ?_) (fun c51 => ?_)
        · exact hnx (fUnf t (0, A, L)) T _ (by rw [fUnf, if_neg (fun z => c51 (qL.zero (show ¬ 0 < (fUnf t (0, A, L)).2.1 12 t by rw [z.2.1]; decide)))]) hTt rfl
        · refine x_iload Γ dX2_sellUnfetched_54 rfl ?_
          refine x_bipush (v := 30) Γ dX2_sellUnfetched_56 (by decide) ?_
          refine x_icmp_lt (tgt := 69) Γ dX2_sellUnfetched_58 (by decide) (fun c58 => ?_) (fun c58 => ?_)
          · exact hnx (fUnf t (0, A, L)) T _ (by rw [fUnf, if_neg (fun z => absurd c58 (Int32.not_lt.mpr (by show 30 ≤ (fUnf t (0, A, L)).2.1 4 0 + 1 - (fUnf t (0, A, L)).2.1 10 t; rw [esub]; exact z.2.2)))]) hTt rfl
          · refine x_aload_n Γ dX2_sellUnfetched_61 rfl rfl ?_
            refine x_aload_n Γ dX2_sellUnfetched_62 rfl rfl ?_
            have hc : fUnfT (fUnf t (0, A, L)).2.1 t := ⟨(lt_le (by decide)).mpr (qA.ne c44).2, (hIt.2.2.2.2.2.1 t htn).elim id (fun z => absurd z.1 (qL.eq (by first | exact c51 | exact Decidable.not_not.mp c51))), by rw [← esub]; exact Int32.not_lt.mp c58⟩
            have hps := phi_sell (L := (fUnf t (0, A, L)).2.2) htn hc.1
            have hstep : fUnf (t + 1) (0, A, L) = vSell t (fUnf t (0, A, L)) := by rw [fUnf, if_pos hc]
            rw [hstep] at hm1
            have hps : phv n (vSell t (fUnf t (0, A, L))) + 1 ≤ phv n (fUnf t (0, A, L)) := hps
            refine x_invV (emb := embV) (ci := 3) (rm := ({ frames := 5, cells := 1, slots := 3, locals := 190 } : Room)) Γ [.ref (th t)] (fun w1 _ w2 => cQ G ca th (fSell t (fUnf t (0, A, L)).2.1) n (fFor t (fUnf t (0, A, L)).2.2) D w1 w2) rfl (fun w1 h1 => t_sell h1.1 htn hIt hTt h4 hD1) c_self rfl k_506 k_1 k_503 k_505 s_20 hd_X2_sell ⟨Nat.le_of_ble_eq_true rfl, Nat.le_of_ble_eq_true rfl⟩ ⟨by show phi A n L - phv n (fUnf t (0, A, L)) + 1 ≤ kb; omega, by show 3 * (phi A n L - phv n (fUnf t (0, A, L))) + 3 ≤ 3 * kb; omega⟩ (Nat.le_of_ble_eq_true rfl) dX2_sellUnfetched_63 (fun _ => ?_)
            refine c_thenQ (A' := fSell t (fUnf t (0, A, L)).2.1) (L' := fFor t (fUnf t (0, A, L)).2.2) (D := D) (fun T' hT' => ?_)
            refine x_wide (k' := phi A n L - phv n (vSell t (fUnf t (0, A, L)))) (n' := 3 * (phi A n L - phv n (vSell t (fUnf t (0, A, L))))) (by show phi A n L - phv n (fUnf t (0, A, L)) + 1 ≤ phi A n L - phv n (vSell t (fUnf t (0, A, L))); omega) (by show 3 * (phi A n L - phv n (fUnf t (0, A, L))) + 3 ≤ 3 * (phi A n L - phv n (vSell t (fUnf t (0, A, L)))); omega) ?_
            refine x_iinc (v := _ + 1) Γ dX2_sellUnfetched_66 rfl rfl rfl (by decide) ?_
            exact hnx (vSell t (fUnf t (0, A, L))) T' _ hstep hT' rfl
  refine x_iconst (v := 0) Γ dX2_sellUnfetched_0 (by decide) ?_
  refine x_istore_n Γ dX2_sellUnfetched_1 rfl rfl (by decide) ?_
  refine x_iconst (v := 0) Γ dX2_sellUnfetched_2 (by decide) ?_
  refine x_istore_n Γ dX2_sellUnfetched_3 rfl rfl (by decide) ?_
  refine x_lv [0, 1, 2] rfl ?_
  refine x_wide (k' := phi A n L - phv n (fUnf 0 (0, A, L))) (n' := 3 * (phi A n L - phv n (fUnf 0 (0, A, L)))) (Nat.zero_le _) (Nat.zero_le _) ?_
  exact loop n 0 T (by omega) hT
end XC5

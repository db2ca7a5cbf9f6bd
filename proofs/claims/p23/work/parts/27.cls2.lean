section XC2
theorem tFs_move (B : xS) (t q : Nat) (b : Value) (v : Int32) : ((tFs B t b).set 5 (.int v)).set 6 (.ref q) = tFs (mU B 9 t v) t (.ref q) := by simp [tFs, mU]
def tUp (T : Nat → xTg) (t : Nat) (q : Int32 × Int32) : Nat → xTg := fun i => if i = t then q :: T t else T i
theorem CRaw.move {G : xG} {w w' : xW} {ca th : Nat → Nat} {B : xS} {n t q : Nat} {L : List Nat} {T : Nat → xTg} {np dy : Int32} {b : Value} (h : CRaw G w ca th B n L T) (ht : t < n) (g1 : w (th t) = some (200 + t, .inr (2, tFs B t b))) (g2 : tgAt w (T t) b) (hq : w q = none) (hqa : q ≠ th t)
    (hw : w' = xu (xu w q (110, .inr (1, [.int np, .int dy, b]))) (th t) (200 + t, .inr (2, ((tFs B t b).set 5 (.int np)).set 6 (.ref q)))) : CRaw G w' ca th (mU B 9 t np) n L (tUp T t (np, dy)) ∧ KpX w w' := by
  have k1 : xKp (fun k => k ≠ 200 + t) w (xu w q (110, .inr (1, [.int np, .int dy, b]))) := xKp.new hq
  have hth : xu w q (110, .inr (1, [.int np, .int dy, b])) (th t) = some (200 + t, .inr (2, tFs B t b)) := by rw [xu_ne (fun z => hqa z.symm)]; exact g1
  have k2 : xKp (fun k => k ≠ 200 + t) w w' := by
    rw [hw]
    exact k1.tr (xKp.set hth (fun z => z rfl))
  refine ⟨h.thing (b' := .ref q) k2 (by rw [hw, xu_eq, tFs_move]) ?_ ⟨mU_j (by decide), mU_j (by decide), by rw [mU_j (by decide)], by rw [mU_j (by decide)], by rw [mU_j (by decide)]⟩ (fun i hi => ⟨if_neg hi, fun b => tFs_mU hi⟩), k2.mono (by intro k hk; omega)⟩
  have e : tUp T t (np, dy) t = (np, dy) :: T t := if_pos rfl
  rw [e]
  exact ⟨q, b, rfl, by rw [hw, xu_ne hqa]; exact xu_eq _ _ _, tgAt.kp k2 (by omega) g2⟩
theorem CRaw.hel {G : xG} {w : xW} {ca th : Nat → Nat} {B : xS} {n : Nat} {L : List Nat} {T : Nat → xTg} (h : CRaw G w ca th B n L T) {R : List Nat} (hR : ∀ q ∈ R, q < n) : ∀ j, j < R.length → ∃ k1 fs, w (th (R.getD j 0)) = some (k1, .inr (2, fs)) ∧ k1 ≠ 105 ∧ k1 ≠ 105 + 2 := fun j hj => by
  rw [List.getD_eq_getElem?_getD, List.getElem?_eq_getElem hj]
  obtain ⟨b, g1, -⟩ := h.2.2.2.2.2 R[j] (hR _ (List.getElem_mem hj))
  exact ⟨_, _, g1, by omega, by omega⟩
/-- the wishes' list anew -/
theorem CRaw.wish {G : xG} {w w' : xW} {ca th : Nat → Nat} {B : xS} {n : Nat} {L L' : List Nat} {T : Nat → xTg} (h : CRaw G w ca th B n L T) (hl : LstAt G w' (ca 4) 105 L'.length (fun j => th (L'.getD j 0))) (hk : KpL 105 w w') : CRaw G w' ca th B n L' T ∧ KpX w w' := by
  obtain ⟨h1, h2, h3, h4, h5, h6⟩ := h
  have k1 : xKp (fun k => k ≠ 105 ∧ k ≠ 107) w w' := fun b k e hb hs => hk b k e hb hs.1 hs.2
  refine ⟨⟨k1 _ _ _ h1 (by omega), k1 _ _ _ h2 (by omega), k1 _ _ _ h3 (by omega), h4.kp k1 (by omega) (by omega), hl, fun t ht => ?_⟩, k1.mono (by intro k hk; omega)⟩
  obtain ⟨b, g1, g2⟩ := h6 t ht
  exact ⟨b, k1 _ _ _ g1 (by omega), tgAt.kp k1 (by omega) g2⟩
theorem getD_erase (R : List Nat) (i j : Nat) : (R.eraseIdx i).getD j 0 = if j < i then R.getD j 0 else R.getD (j + 1) 0 := by
  rw [List.getD_eq_getElem?_getD, List.getElem?_eraseIdx, List.getD_eq_getElem?_getD, List.getD_eq_getElem?_getD]
  split <;> rfl
def fDE (B : xS) (L : List Nat) : List Nat := L.filter (fun q => !(B 15 q == -1))
variable {l : Launch} {G : xG}
set_option maxRecDepth 100000 in
theorem t_sizesAt {ca th : Nat → Nat} {B : xS} {n : Nat} {L : List Nat} {T : Nat → xTg} {w : xW} (h : CRaw G w ca th B n L T) (hn : n ≤ 24) {x : Int32} : xMet l G yX2_sizesAt cX2_sizesAt 5 (some .int) ({ frames := 3, cells := 0, slots := 0, locals := 80 } : Room) [.ref (ca 0), .int x] w embI (fun r w' => r = ldF B x n ∧ cP G ca th (B) n (L) (T) w w') := by
  refine xMet_of (by decide) (Nat.le_of_ble_eq_true rfl) ?_
  intro p e s m below meth c Γ hnm
  refine c_in h ?_
  have loop : ∀ d t, t + d = n → xJ p l e ({ frames := 3, cells := 0, slots := 0, locals := 80 } : Room) s m ([.ref (ca 0), .int x] : List Value).toArray below meth c G 5 (MQ below (xQ G embI (fun r w' => r = ldF B x n ∧ cP G ca th (B) n (L) (T) w w')) ([.ref (ca 0), .int x] : List Value).toArray s ({ frames := 3, cells := 0, slots := 0, locals := 80 } : Room).cells ({ frames := 3, cells := 0, slots := 0, locals := 80 } : Room).slots (xA G)) (cP G ca th B n L T w) 0 0 4 [(0, .ref (ca 0)), (1, .int x), (2, .int (ldF B x t)), (3, .int (nI t))] [] := by
    intro d
    induction d with
    | zero =>
      intro t ht
      refine x_iload_n Γ dX2_sizesAt_4 rfl rfl ?_
      refine x_aload_n Γ dX2_sizesAt_5 rfl rfl ?_
      refine c_this Γ 2 rfl (by decide) k_60 rfl dX2_sizesAt_6 ?_
      refine x_invV (emb := embI) (ci := 0) (rm := ({ frames := 0, cells := 0, slots := 0, locals := 0 } : Room)) Γ [] (fun w1 r w2 => r = nI n ∧ w2 = w1) rfl (fun w1 h1 => t_size h1.1.2.2.2.1) c_lst3 rfl k_91 k_4 k_88 k_89 k_90 hd_Jx4a65c_size_8abf5 ⟨Nat.le_of_ble_eq_true rfl, Nat.le_of_ble_eq_true rfl⟩ ⟨Nat.le_of_ble_eq_true rfl, Nat.le_of_ble_eq_true rfl⟩ (Nat.le_of_ble_eq_true rfl) dX2_sizesAt_9 (fun r => ?_)
      refine m_same (fun e9 => ?_)
      subst e9
      refine x_icmp_ge (tgt := 51) Γ dX2_sizesAt_12 (by decide) (fun c12 => ?_) (fun c12 => absurd (nI_le (by omega) (by omega)) c12)
      refine x_iload_n Γ dX2_sizesAt_51 rfl rfl ?_
      exact x_iret Γ rfl rfl (fun w2 e2 => ⟨by rw [show t = n by omega], e2⟩) ⟨Nat.le_of_ble_eq_true rfl, Nat.le_of_ble_eq_true rfl⟩ dX2_sizesAt_52
    | succ d ih =>
      intro t ht
      have htn : t < n := by omega
      have hend : ∀ v x4, v = ldF B x (t + 1) → xJ p l e ({ frames := 3, cells := 0, slots := 0, locals := 80 } : Room) s m ([.ref (ca 0), .int x] : List Value).toArray below meth c G 5 (MQ below (xQ G embI (fun r w' => r = ldF B x n ∧ cP G ca th (B) n (L) (T) w w')) ([.ref (ca 0), .int x] : List Value).toArray s ({ frames := 3, cells := 0, slots := 0, locals := 80 } : Room).cells ({ frames := 3, cells := 0, slots := 0, locals := 80 } : Room).slots (xA G)) (cP G ca th B n L T w) 0 0 45 [(4, .ref x4), (0, .ref (ca 0)), (1, .int x), (2, .int v), (3, .int (nI t))] [] := by
        intro v x4 hv
        subst hv
        refine x_iinc (v := _ + 1) Γ dX2_sizesAt_45 rfl rfl rfl (by decide) ?_
        rw [nI_1]
        refine x_goto (tgt := 4) Γ dX2_sizesAt_48 (by decide) ?_
        refine x_lv [0, 1, 2, 3] rfl ?_
        exact ih (t + 1) (by omega)
      refine x_iload_n Γ dX2_sizesAt_4 rfl rfl ?_
      refine x_aload_n Γ dX2_sizesAt_5 rfl rfl ?_
      refine c_this Γ 2 rfl (by decide) k_60 rfl dX2_sizesAt_6 ?_
      refine x_invV (emb := embI) (ci := 0) (rm := ({ frames := 0, cells := 0, slots := 0, locals := 0 } : Room)) Γ [] (fun w1 r w2 => r = nI n ∧ w2 = w1) rfl (fun w1 h1 => t_size h1.1.2.2.2.1) c_lst3 rfl k_91 k_4 k_88 k_89 k_90 hd_Jx4a65c_size_8abf5 ⟨Nat.le_of_ble_eq_true rfl, Nat.le_of_ble_eq_true rfl⟩ ⟨Nat.le_of_ble_eq_true rfl, Nat.le_of_ble_eq_true rfl⟩ (Nat.le_of_ble_eq_true rfl) dX2_sizesAt_9 (fun r => ?_)
      refine m_same (fun e9 => ?_)
      subst e9
      refine x_icmp_ge (tgt := 51) Γ dX2_sizesAt_12 (by decide) (fun c12 => absurd c12 (nI_ge (by omega) (by omega))) (fun c12 => ?_)
      refine x_aload_n Γ dX2_sizesAt_15 rfl rfl ?_
      refine c_this Γ 2 rfl (by decide) k_60 rfl dX2_sizesAt_16 ?_
      refine x_iload_n Γ dX2_sizesAt_19 rfl rfl ?_
      refine x_invV (emb := embA) (ci := 0) (rm := ({ frames := 2, cells := 0, slots := 0, locals := 43 } : Room)) Γ [.int (nI t)] (fun w1 r w2 => r = th t ∧ w2 = w1) rfl (fun w1 h1 => t_get h1.1.2.2.2.1 htn) c_lst3 rfl k_209 k_4 k_206 k_207 k_208 hd_Jx4a65c_get_915e3 ⟨Nat.le_of_ble_eq_true rfl, Nat.le_of_ble_eq_true rfl⟩ ⟨Nat.le_of_ble_eq_true rfl, Nat.le_of_ble_eq_true rfl⟩ (Nat.le_of_ble_eq_true rfl) dX2_sizesAt_20 (fun r => ?_)
      refine m_same (fun e9 => ?_)
      subst e9
      refine x_cast (C := RX1) (T := TX1) (N := 12) (ci := 2) Γ rfl (c_thing htn) k_220 dX2_sizesAt_23 ?_
      refine x_astore Γ dX2_sizesAt_26 rfl (by decide) ?_
      refine x_aload Γ dX2_sizesAt_28 rfl ?_
      refine c_getT Γ 5 htn (fun _ => rfl) (by decide) k_272 dX2_sizesAt_30 ?_
      refine x_iload_n Γ dX2_sizesAt_33 rfl rfl ?_
      refine x_icmp_ne (tgt := 45) Γ dX2_sizesAt_34 (by decide) (fun c34 => ?_) (fun c34 => ?_)
      · refine x_lv [4, 0, 1, 2, 3] rfl ?_
        exact hend _ _ (by rw [ldF]; first | rw [if_pos c34] | rw [if_neg c34, Int32.add_zero])
      · refine x_iload_n Γ dX2_sizesAt_37 rfl rfl ?_
        refine x_aload Γ dX2_sizesAt_38 rfl ?_
        refine c_getT Γ 2 htn (fun _ => rfl) (by decide) k_266 dX2_sizesAt_40 ?_
        refine x_iadd Γ dX2_sizesAt_43 ?_
        refine x_istore_n Γ dX2_sizesAt_44 rfl rfl (by decide) ?_
        refine x_lv [4, 0, 1, 2, 3] rfl ?_
        exact hend _ _ (by rw [ldF]; first | rw [if_pos c34] | rw [if_neg c34, Int32.add_zero])
  refine x_iconst (v := 0) Γ dX2_sizesAt_0 (by decide) ?_
  refine x_istore_n Γ dX2_sizesAt_1 rfl rfl (by decide) ?_
  refine x_iconst (v := 0) Γ dX2_sizesAt_2 (by decide) ?_
  refine x_istore_n Γ dX2_sizesAt_3 rfl rfl (by decide) ?_
  refine x_lv [0, 1, 2, 3] rfl ?_
  exact loop n 0 (by omega)
set_option maxRecDepth 100000 in
theorem t_hasRoom {ca th : Nat → Nat} {B : xS} {n : Nat} {L : List Nat} {T : Nat → xTg} {w : xW} (h : CRaw G w ca th B n L T) (hn : n ≤ 24) {x z : Int32} : xMet l G yX2_hasRoomFor cX2_hasRoomFor 3 (some .boolean) ({ frames := 4, cells := 0, slots := 0, locals := 120 } : Room) [.ref (ca 0), .int x, .int z] w embI (fun r w' => bq (rIn 0 4 x ∧ ldF B x n + z ≤ B 0 (ix x)) r ∧ cP G ca th (B) n (L) (T) w w') := by
  refine xMet_of (by decide) (Nat.le_of_ble_eq_true rfl) ?_
  intro p e s m below meth c Γ hnm
  refine c_in h ?_
  refine x_iload_n Γ dX2_hasRoomFor_0 rfl rfl ?_
  refine x_invS (emb := embI) (rm := ({ frames := 0, cells := 0, slots := 0, locals := 0 } : Room)) Γ [.int (x)] (fun w1 r w2 => bq (rIn 0 4 (x)) r ∧ w2 = w1) rfl (fun w1 h1 => t2_isCounter) k_106 k_1 k_104 k_105 hd_X2_isCounter ⟨Nat.le_of_ble_eq_true rfl, Nat.le_of_ble_eq_true rfl⟩ ⟨Nat.le_of_ble_eq_true rfl, Nat.le_of_ble_eq_true rfl⟩ (Nat.le_of_ble_eq_true rfl) dX2_hasRoomFor_1 (fun r => ?_)
  refine m_same (fun q1 => ?_)
  refine x_if_eq (tgt := 27) Γ dX2_hasRoomFor_4 (by decide) (fun c4 => ?_) (fun c4 => ?_)
  · refine x_iconst (v := 0) Γ dX2_hasRoomFor_27 (by decide) ?_
    exact x_iret Γ rfl rfl (fun w2 e2 => ⟨Or.inr ⟨fun y => q1.eq c4 y.1, rfl⟩, e2⟩) ⟨Nat.le_of_ble_eq_true rfl, Nat.le_of_ble_eq_true rfl⟩ dX2_hasRoomFor_28
  · obtain ⟨i, hi, rfl⟩ := rIn_nat (M := 4) (n := 4) (by decide) (q1.ne c4)
    refine x_aload_n Γ dX2_hasRoomFor_7 rfl rfl ?_
    refine x_iload_n Γ dX2_hasRoomFor_8 rfl rfl ?_
    refine x_invV (emb := embI) (ci := 3) (rm := ({ frames := 3, cells := 0, slots := 0, locals := 80 } : Room)) Γ [.int (nI i)] (fun w1 r w2 => r = ldF B (nI i) n ∧ cP G ca th (B) n (L) (T) w1 w2) rfl (fun w1 h1 => t_sizesAt h1.1 hn) c_self rfl k_205 k_1 k_202 k_204 s_2 hd_X2_sizesAt ⟨Nat.le_of_ble_eq_true rfl, Nat.le_of_ble_eq_true rfl⟩ ⟨Nat.le_of_ble_eq_true rfl, Nat.le_of_ble_eq_true rfl⟩ (Nat.le_of_ble_eq_true rfl) dX2_hasRoomFor_9 (fun r => ?_)
    refine c_then (B' := B) (L' := L) (T' := T) (fun e9 => ?_)
    subst e9
    refine x_iload_n Γ dX2_hasRoomFor_12 rfl rfl ?_
    refine x_iadd Γ dX2_hasRoomFor_13 ?_
    refine x_aload_n Γ dX2_hasRoomFor_14 rfl rfl ?_
    refine c_this Γ 0 rfl (by decide) k_58 rfl dX2_hasRoomFor_15 ?_
    refine x_iload_n Γ dX2_hasRoomFor_18 rfl rfl ?_
    refine c_ald (jj := 0) Γ rfl (Or.inl ⟨rfl, rfl, by omega⟩) dX2_hasRoomFor_19 ?_
    refine x_icmp_gt (tgt := 27) Γ dX2_hasRoomFor_20 (by decide) (fun c20 => ?_) (fun c20 => ?_)
    · refine x_iconst (v := 0) Γ dX2_hasRoomFor_27 (by decide) ?_
      exact x_iret Γ rfl rfl (fun w2 e2 => ⟨Or.inr ⟨fun y => Int32.not_le.mpr c20 (by have := y.2; rw [ixn (t := i) (by omega)] at this; exact this), rfl⟩, e2⟩) ⟨Nat.le_of_ble_eq_true rfl, Nat.le_of_ble_eq_true rfl⟩ dX2_hasRoomFor_28
    · refine x_iconst (v := 1) Γ dX2_hasRoomFor_23 (by decide) ?_
      refine x_goto (tgt := 28) Γ dX2_hasRoomFor_24 (by decide) ?_
      exact x_iret Γ rfl rfl (fun w2 e2 => ⟨Or.inl ⟨⟨q1.ne c4, by rw [ixn (t := i) (by omega)]; exact Int32.not_lt.mp c20⟩, rfl⟩, e2⟩) ⟨Nat.le_of_ble_eq_true rfl, Nat.le_of_ble_eq_true rfl⟩ dX2_hasRoomFor_28
def fPut (B : xS) (x z : Int32) : xS := if rIn 0 7 x then mU B 2 (ix x) (B 2 (ix x) + z) else B
set_option maxRecDepth 100000 in
theorem t_putPurse {ca th : Nat → Nat} {B : xS} {n : Nat} {L : List Nat} {T : Nat → xTg} {w : xW} (h : CRaw G w ca th B n L T) {x z : Int32} : xMet l G yX2_putIntoPurse cX2_putIntoPurse 3 none ({ frames := 1, cells := 0, slots := 0, locals := 40 } : Room) [.ref (ca 0), .int x, .int z] w embV (fun _ w' => cP G ca th (fPut B x z) n (L) (T) w w') := by
  refine xMet_of (by decide) (Nat.le_of_ble_eq_true rfl) ?_
  intro p e s m below meth c Γ hnm
  refine c_in h ?_
  refine x_iload_n Γ dX2_putIntoPurse_0 rfl rfl ?_
  refine x_invS (emb := embI) (rm := ({ frames := 0, cells := 0, slots := 0, locals := 0 } : Room)) Γ [.int (x)] (fun w1 r w2 => bq (rIn 0 7 (x)) r ∧ w2 = w1) rfl (fun w1 h1 => t2_isPerson) k_196 k_1 k_194 k_195 hd_X2_isPerson ⟨Nat.le_of_ble_eq_true rfl, Nat.le_of_ble_eq_true rfl⟩ ⟨Nat.le_of_ble_eq_true rfl, Nat.le_of_ble_eq_true rfl⟩ (Nat.le_of_ble_eq_true rfl) dX2_putIntoPurse_1 (fun r => ?_)
  refine m_same (fun q1 => ?_)
  refine x_if_eq (tgt := 17) Γ dX2_putIntoPurse_4 (by decide) (fun c4 => ?_) (fun c4 => ?_)
  · exact x_vret Γ rfl (fun w2 e2 => by unfold fPut; rw [if_neg (q1.eq c4)]; exact e2) ⟨Nat.le_of_ble_eq_true rfl, Nat.le_of_ble_eq_true rfl⟩ dX2_putIntoPurse_17
  · obtain ⟨i, hi, rfl⟩ := rIn_nat (M := 7) (n := 7) (by decide) (q1.ne c4)
    refine x_aload_n Γ dX2_putIntoPurse_7 rfl rfl ?_
    refine c_this Γ 1 rfl (by decide) k_59 rfl dX2_putIntoPurse_8 ?_
    refine x_iload_n Γ dX2_putIntoPurse_11 rfl rfl ?_
    refine x_dup2 Γ dX2_putIntoPurse_12 rfl rfl ?_
    refine c_ald (jj := 2) Γ rfl (Or.inr ⟨rfl, rfl, by omega⟩) dX2_putIntoPurse_13 ?_
    refine x_iload_n Γ dX2_putIntoPurse_14 rfl rfl ?_
    refine x_iadd Γ dX2_putIntoPurse_15 ?_
    refine c_ast (jj := 2) Γ rfl (Or.inr ⟨rfl, rfl, rfl⟩) (by omega) dX2_putIntoPurse_16 ?_
    exact x_vret Γ rfl (fun w2 e2 => by unfold fPut; rw [if_pos (q1.ne c4), ixn (t := i) (by omega)]; exact e2) ⟨Nat.le_of_ble_eq_true rfl, Nat.le_of_ble_eq_true rfl⟩ dX2_putIntoPurse_17
set_option maxRecDepth 100000 in
theorem t_dropEnded {ca th : Nat → Nat} {B : xS} {n : Nat} {L : List Nat} {T : Nat → xTg} {w : xW} (h : CRaw G w ca th B n L T) (hn : n ≤ 24) (hL : ∀ q ∈ L, q < n) (hlL : L.length ≤ 24) : xMet l G yX2_dropEndedWishes cX2_dropEndedWishes 2 none ({ frames := 3, cells := 0, slots := 0, locals := 110 } : Room) [.ref (ca 0)] w embV (fun _ w' => cP G ca th (B) n (fDE B L) (T) w w') := by
  refine xMet_of (by decide) (Nat.le_of_ble_eq_true rfl) ?_
  intro p e s m below meth c Γ hnm
  refine c_in h ?_
  have loop : ∀ k, k ≤ L.length → xJ p l e ({ frames := 3, cells := 0, slots := 0, locals := 110 } : Room) s m ([.ref (ca 0)] : List Value).toArray below meth c G 2 (MQ below (xQ G embV (fun _ w' => cP G ca th (B) n (fDE B L) (T) w w')) ([.ref (ca 0)] : List Value).toArray s ({ frames := 3, cells := 0, slots := 0, locals := 110 } : Room).cells ({ frames := 3, cells := 0, slots := 0, locals := 110 } : Room).slots (xA G)) (cP G ca th B n (L.take k ++ fDE B (L.drop k)) T w) 0 0 10 [(0, .ref (ca 0)), (1, .int (nI k - 1))] [] := by
    intro k
    induction k with
    | zero =>
      intro hk
      refine x_iload_n Γ dX2_dropEndedWishes_10 rfl rfl ?_
      refine x_if_lt (tgt := 47) Γ dX2_dropEndedWishes_11 (by decide) (fun c11 => ?_) (fun c11 => absurd (by decide) c11)
      exact x_vret Γ rfl (fun w2 e2 => e2) ⟨Nat.le_of_ble_eq_true rfl, Nat.le_of_ble_eq_true rfl⟩ dX2_dropEndedWishes_47
    | succ k ih =>
      intro hk
      obtain ⟨t, hq⟩ : ∃ t, L[k]? = some t := ⟨L[k], List.getElem?_eq_getElem (by omega)⟩
      have htn : t < n := hL t (List.mem_of_getElem? hq)
      have hd : L.drop k = t :: L.drop (k + 1) := by
        rw [List.drop_eq_getElem_cons (by omega)]
        congr 1
        exact Option.some.inj ((List.getElem?_eq_getElem (by omega)).symm.trans hq)
      have ht1 : L.take (k + 1) = L.take k ++ [t] := by rw [List.take_add_one, hq]; rfl
      have hlk : (L.take k).length = k := by rw [List.length_take]; omega
      have hat : (L.take (k + 1) ++ fDE B (L.drop (k + 1)))[k]? = some t := by
        rw [ht1, List.append_assoc, List.getElem?_append_right (by omega), hlk, Nat.sub_self]
        rfl
      have hmem : ∀ q ∈ L.take (k + 1) ++ fDE B (L.drop (k + 1)), q < n := fun q h9 => by
        rcases List.mem_append.mp h9 with h8 | h8
        · exact hL q (List.mem_of_mem_take h8)
        · exact hL q (List.mem_of_mem_drop (List.mem_filter.mp h8).1)
      have hlen2 : k < (L.take (k + 1) ++ fDE B (L.drop (k + 1))).length := (List.getElem?_eq_some_iff.mp hat).1
      rw [nI_pred]
      have hnx : xJ p l e ({ frames := 3, cells := 0, slots := 0, locals := 110 } : Room) s m ([.ref (ca 0)] : List Value).toArray below meth c G 2 (MQ below (xQ G embV (fun _ w' => cP G ca th (B) n (fDE B L) (T) w w')) ([.ref (ca 0)] : List Value).toArray s ({ frames := 3, cells := 0, slots := 0, locals := 110 } : Room).cells ({ frames := 3, cells := 0, slots := 0, locals := 110 } : Room).slots (xA G)) (cP G ca th B n (L.take k ++ fDE B (L.drop k)) T w) 0 0 41 [(0, .ref (ca 0)), (1, .int (nI k))] [] := by
        refine x_iinc (v := nI k - 1) Γ dX2_dropEndedWishes_41 rfl (by rw [Int32.sub_eq_add_neg]; rfl) rfl (by decide) ?_
        refine x_goto (tgt := 10) Γ dX2_dropEndedWishes_44 (by decide) ?_
        refine x_lv [0, 1] rfl ?_
        exact ih (by omega)
      refine x_iload_n Γ dX2_dropEndedWishes_10 rfl rfl ?_
      refine x_if_lt (tgt := 47) Γ dX2_dropEndedWishes_11 (by decide) (fun c11 => absurd c11 (nI_pos (by omega))) (fun c11 => ?_)
      refine x_aload_n Γ dX2_dropEndedWishes_14 rfl rfl ?_
      refine c_this Γ 3 rfl (by decide) k_61 rfl dX2_dropEndedWishes_15 ?_
      refine x_iload_n Γ dX2_dropEndedWishes_18 rfl rfl ?_
      refine x_invV (emb := embA) (ci := 0) (rm := ({ frames := 2, cells := 0, slots := 0, locals := 43 } : Room)) Γ [.int (nI k)] (fun w1 r w2 => r = th t ∧ w2 = w1) rfl (fun w1 h1 => by have h9 := t_get (l := l) (j := k) h1.1.2.2.2.2.1 (List.getElem?_eq_some_iff.mp hat).1; rw [List.getD_eq_getElem?_getD, hat] at h9; exact h9) c_lst4 rfl k_209 k_4 k_206 k_207 k_208 hd_Jx4a65c_get_915e3 ⟨Nat.le_of_ble_eq_true rfl, Nat.le_of_ble_eq_true rfl⟩ ⟨Nat.le_of_ble_eq_true rfl, Nat.le_of_ble_eq_true rfl⟩ (Nat.le_of_ble_eq_true rfl) dX2_dropEndedWishes_19 (fun r => ?_)
      refine m_same (fun e9 => ?_)
      subst e9
      refine x_cast (C := RX1) (T := TX1) (N := 12) (ci := 2) Γ rfl (c_thing htn) k_220 dX2_dropEndedWishes_22 ?_
      refine c_getT Γ 7 htn (fun _ => rfl) (by decide) k_275 dX2_dropEndedWishes_25 ?_
      refine x_iconst (v := (-1)) Γ dX2_dropEndedWishes_28 (by decide) ?_
      refine x_icmp_ne (tgt := 41) Γ dX2_dropEndedWishes_29 (by decide) (fun c29 => ?_) (fun c29 => ?_)
      · have hkeep : L.take k ++ fDE B (L.drop k) = L.take (k + 1) ++ fDE B (L.drop (k + 1)) := by
          rw [hd, ht1, List.append_assoc]
          congr 1
          unfold fDE
          rw [List.filter_cons_of_pos (by simpa using c29)]
          rfl
        rw [← hkeep]
        refine x_lv [0, 1] rfl ?_
        exact hnx
      · have hgone : (L.take (k + 1) ++ fDE B (L.drop (k + 1))).eraseIdx k = L.take k ++ fDE B (L.drop k) := by
          rw [hd, ht1, List.append_assoc, List.eraseIdx_append_of_length_le (by omega), hlk, Nat.sub_self]
          congr 1
          unfold fDE
          rw [List.filter_cons_of_neg (by simpa using c29)]
          rfl
        refine x_aload_n Γ dX2_dropEndedWishes_32 rfl rfl ?_
        refine c_this Γ 3 rfl (by decide) k_61 rfl dX2_dropEndedWishes_33 ?_
        refine x_iload_n Γ dX2_dropEndedWishes_36 rfl rfl ?_
        refine x_invV (emb := embA) (ci := 0) (rm := ({ frames := 2, cells := 0, slots := 0, locals := 70 } : Room)) Γ [.int (nI k)] (fun w1 r w2 => r = (fun j => th ((L.take (k + 1) ++ fDE B (L.drop (k + 1))).getD j 0)) k ∧ LstAt G w2 (ca 4) 105 ((L.take (k + 1) ++ fDE B (L.drop (k + 1))).length - 1) (fun j => if j < k then (fun j => th ((L.take (k + 1) ++ fDE B (L.drop (k + 1))).getD j 0)) j else (fun j => th ((L.take (k + 1) ++ fDE B (L.drop (k + 1))).getD j 0)) (j + 1)) ∧ KpL 105 w1 w2) rfl (fun w1 h1 => t_remove h1.1.2.2.2.2.1 (h1.1.hel hmem) hlen2) c_lst4 rfl k_413 k_4 k_410 k_411 k_412 hd_Jx4a65c_remove_915e3 ⟨Nat.le_of_ble_eq_true rfl, Nat.le_of_ble_eq_true rfl⟩ ⟨Nat.le_of_ble_eq_true rfl, Nat.le_of_ble_eq_true rfl⟩ (Nat.le_of_ble_eq_true rfl) dX2_dropEndedWishes_37 (fun r => ?_)
        refine x_weak (P' := cP G ca th B n (L.take k ++ fDE B (L.drop k)) T w) (fun w2 h2 => ?_) ?_
        · obtain ⟨w1, h1, -, h3, h4⟩ := h2
          have h9 := h1.1.wish (L' := L.take k ++ fDE B (L.drop k)) ?_ h4
          · exact ⟨h9.1, h1.2.tr h9.2⟩
          · rw [← hgone, List.length_eraseIdx_of_lt hlen2]
            exact h3.congr (fun i hi => by rw [getD_erase]; split <;> rfl)
        refine x_pop Γ dX2_dropEndedWishes_40 rfl ?_
        refine x_lv [0, 1] rfl ?_
        exact hnx
  refine x_aload_n Γ dX2_dropEndedWishes_0 rfl rfl ?_
  refine c_this Γ 3 rfl (by decide) k_61 rfl dX2_dropEndedWishes_1 ?_
  refine x_invV (emb := embI) (ci := 0) (rm := ({ frames := 0, cells := 0, slots := 0, locals := 0 } : Room)) Γ [] (fun w1 r w2 => r = nI (L).length ∧ w2 = w1) rfl (fun w1 h1 => t_size h1.1.2.2.2.2.1) c_lst4 rfl k_91 k_4 k_88 k_89 k_90 hd_Jx4a65c_size_8abf5 ⟨Nat.le_of_ble_eq_true rfl, Nat.le_of_ble_eq_true rfl⟩ ⟨Nat.le_of_ble_eq_true rfl, Nat.le_of_ble_eq_true rfl⟩ (Nat.le_of_ble_eq_true rfl) dX2_dropEndedWishes_4 (fun r => ?_)
  refine m_same (fun e9 => ?_)
  subst e9
  refine x_iconst (v := 1) Γ dX2_dropEndedWishes_7 (by decide) ?_
  refine x_isub Γ dX2_dropEndedWishes_8 ?_
  refine x_istore_n Γ dX2_dropEndedWishes_9 rfl rfl (by decide) ?_
  refine x_lv [0, 1] rfl ?_
  have h9 := loop L.length (Nat.le_refl _)
  rw [List.take_length, List.drop_length, show fDE B [] = [] from rfl, List.append_nil] at h9
  exact h9
end XC2

section XC3
theorem xMet_post {l : Launch} {G : xG} {α : Type} {y : MethodName} {cc : ByteArray} {maxL : Nat} {rt : Option FieldType} {rm : Room} {av : List Value} {w : xW} {emb : α → Option Value} {post post' : α → xW → Prop} (h : xMet l G y cc maxL rt rm av w emb post) (hp : ∀ r w', post r w' → post' r w') : xMet l G y cc maxL rt rm av w emb post' := by
  intro p e hadm hf hc s m args below hinv happ hP hK
  obtain ⟨n, oc, h1, h2, h3, ⟨⟨v, w', h4, h5, h6⟩, h7⟩, h8⟩ := h p e hadm hf hc s m args below hinv happ hP hK
  exact ⟨n, oc, h1, h2, h3, ⟨⟨v, w', h4, hp v w' h5, h6⟩, h7⟩, h8⟩
variable {l : Launch} {G : xG}
theorem t_cmove {ca th : Nat → Nat} {B : xS} {n : Nat} {L : List Nat} {T : Nat → xTg} {w : xW} (h : CRaw G w ca th B n L T) {t : Nat} (htn : t < n) {np dy : Int32} : xMet l G yX1_moveTo cX1_moveTo 3 none ({ frames := 2, cells := 1, slots := 3, locals := 60 } : Room) [.ref (th t), .int np, .int dy] w embV (fun _ w' => cP G ca th (mU B 9 t np) n L (tUp T t (np, dy + 1)) w w') := by
  obtain ⟨b, g1, g2⟩ := h.2.2.2.2.2 t htn
  refine xMet_post (t_moveTo g1 rfl rfl (tgAt_ref g2)) (fun _ w' h9 => ?_)
  obtain ⟨q, h1, h2, h3⟩ := h9
  exact h.move htn g1 g2 h1 h2 h3
theorem t_cbeginLoan {ca th : Nat → Nat} {B : xS} {n : Nat} {L : List Nat} {T : Nat → xTg} {w : xW} (h : CRaw G w ca th B n L T) {t : Nat} (htn : t < n) {x z : Int32} : xMet l G yX1_beginLoan cX1_beginLoan 3 none ({ frames := 0, cells := 0, slots := 0, locals := 0 } : Room) [.ref (th t), .int x, .int z] w embV (fun _ w' => cP G ca th (mU (mU B 13 t x) 12 t z) n L T w w') := by
  obtain ⟨b, g1, g2⟩ := h.2.2.2.2.2 t htn
  refine xMet_post (t_beginLoan g1 rfl) (fun _ w' h9 => ?_)
  have k1 : xKp (fun k => k ≠ 200 + t) w w' := by rw [h9]; exact xKp.set g1 (fun z => z rfl)
  refine ⟨h.thing (b' := b) k1 (by rw [h9, xu_eq]; simp [tFs, mU]) (tgAt.kp k1 (by omega) g2) ⟨by simp [mU_j], by simp [mU_j], by simp [mU_j], by simp [mU_j], by simp [mU_j]⟩ (fun i hi => ⟨rfl, fun b => by simp only [tFs_mU hi]⟩), k1.mono (by intro k hk; omega)⟩
theorem t_cendLoan {ca th : Nat → Nat} {B : xS} {n : Nat} {L : List Nat} {T : Nat → xTg} {w : xW} (h : CRaw G w ca th B n L T) {t : Nat} (htn : t < n) : xMet l G yX1_endLoan cX1_endLoan 1 none ({ frames := 0, cells := 0, slots := 0, locals := 0 } : Room) [.ref (th t)] w embV (fun _ w' => cP G ca th (mU (mU (mU B 13 t (-1)) 12 t 0) 14 t (-1)) n L T w w') := by
  obtain ⟨b, g1, g2⟩ := h.2.2.2.2.2 t htn
  refine xMet_post (t_endLoan g1 rfl) (fun _ w' h9 => ?_)
  have k1 : xKp (fun k => k ≠ 200 + t) w w' := by rw [h9]; exact xKp.set g1 (fun z => z rfl)
  refine ⟨h.thing (b' := b) k1 (by rw [h9, xu_eq]; simp [tFs, mU]) (tgAt.kp k1 (by omega) g2) ⟨by simp [mU_j], by simp [mU_j], by simp [mU_j], by simp [mU_j], by simp [mU_j]⟩ (fun i hi => ⟨rfl, fun b => by simp only [tFs_mU hi]⟩), k1.mono (by intro k hk; omega)⟩
def fGa (B : xS) (t : Nat) (pd pl : Int32) : xS := mU (mU (mU (mU B 3 0 (B 3 0 + pd)) 11 t pd) 15 t (-1)) 9 t pl
set_option maxRecDepth 100000 in
theorem t_giveAway {ca th : Nat → Nat} {B : xS} {n : Nat} {L : List Nat} {T : Nat → xTg} {w : xW} (h : CRaw G w ca th B n L T) {t : Nat} (htn : t < n) (hn : n ≤ 24) (hL : ∀ q ∈ L, q < n) (hlL : L.length ≤ 24) {pd pl : Int32} : xMet l G yX2_giveAway cX2_giveAway 4 none ({ frames := 4, cells := 1, slots := 3, locals := 150 } : Room) [.ref (ca 0), .ref (th t), .int pd, .int pl] w embV (fun _ w' => cP G ca th (fGa B t pd pl) n (fDE (mU (mU (mU B 3 0 (B 3 0 + pd)) 11 t pd) 15 t (-1)) L) (tUp T t (pl, B 4 0 + 1)) w w') := by
  refine xMet_of (by decide) (Nat.le_of_ble_eq_true rfl) ?_
  intro p e s m below meth c Γ hnm
  refine c_in h ?_
  refine x_aload_n Γ dX2_giveAway_0 rfl rfl ?_
  refine x_dup Γ dX2_giveAway_1 rfl ?_
  refine c_this Γ 6 rfl (by decide) k_64 rfl dX2_giveAway_2 ?_
  refine x_iload_n Γ dX2_giveAway_5 rfl rfl ?_
  refine x_iadd Γ dX2_giveAway_6 ?_
  refine c_putthis Γ 6 3 rfl (by decide) (by decide) k_64 rfl rfl rfl dX2_giveAway_7 ?_
  refine x_aload_n Γ dX2_giveAway_10 rfl rfl ?_
  refine x_iload_n Γ dX2_giveAway_11 rfl rfl ?_
  refine c_putT Γ 8 11 htn (fun _ => by simp [tFs, mU]) (by decide) (by decide) k_277 rfl rfl dX2_giveAway_12 ?_
  refine x_aload_n Γ dX2_giveAway_15 rfl rfl ?_
  refine x_iconst (v := (-1)) Γ dX2_giveAway_16 (by decide) ?_
  refine c_putT Γ 7 15 htn (fun _ => by simp [tFs, mU]) (by decide) (by decide) k_275 rfl rfl dX2_giveAway_17 ?_
  refine x_aload_n Γ dX2_giveAway_20 rfl rfl ?_
  refine x_invV (emb := embV) (ci := 3) (rm := ({ frames := 3, cells := 0, slots := 0, locals := 110 } : Room)) Γ [] (fun w1 _ w2 => cP G ca th (mU (mU (mU B 3 0 (B 3 0 + pd)) 11 t pd) 15 t (-1)) n (fDE (mU (mU (mU B 3 0 (B 3 0 + pd)) 11 t pd) 15 t (-1)) L) (T) w1 w2) rfl (fun w1 h1 => t_dropEnded h1.1 hn hL hlL) c_self rfl k_409 k_1 k_406 k_408 s_10 hd_X2_dropEndedWishes ⟨Nat.le_of_ble_eq_true rfl, Nat.le_of_ble_eq_true rfl⟩ ⟨Nat.le_of_ble_eq_true rfl, Nat.le_of_ble_eq_true rfl⟩ (Nat.le_of_ble_eq_true rfl) dX2_giveAway_21 (fun _ => ?_)
  refine c_then0 (B' := mU (mU (mU B 3 0 (B 3 0 + pd)) 11 t pd) 15 t (-1)) (L' := fDE (mU (mU (mU B 3 0 (B 3 0 + pd)) 11 t pd) 15 t (-1)) L) (T' := T) ?_
  refine x_aload_n Γ dX2_giveAway_24 rfl rfl ?_
  refine x_iload_n Γ dX2_giveAway_25 rfl rfl ?_
  refine x_aload_n Γ dX2_giveAway_26 rfl rfl ?_
  refine c_this Γ 5 rfl (by decide) k_63 rfl dX2_giveAway_27 ?_
  refine x_invVN (emb := embV) (ci := 2) (rm := ({ frames := 2, cells := 1, slots := 3, locals := 60 } : Room)) Γ [.int pl, .int (B 4 0)] (fun w1 _ w2 => cP G ca th (fGa B t pd pl) n (fDE (mU (mU (mU B 3 0 (B 3 0 + pd)) 11 t pd) 15 t (-1)) L) (tUp T t (pl, B 4 0 + 1)) w1 w2) rfl (fun w1 h1 => t_cmove h1.1 htn) (c_thing htn) rfl k_422 k_14 k_419 k_421 s_12 hd_X1_moveTo ⟨Nat.le_of_ble_eq_true rfl, Nat.le_of_ble_eq_true rfl⟩ ⟨Nat.le_of_ble_eq_true rfl, Nat.le_of_ble_eq_true rfl⟩ (Nat.le_of_ble_eq_true rfl) dX2_giveAway_30 (fun _ => ?_)
  refine c_then0 (B' := fGa B t pd pl) (L' := fDE (mU (mU (mU B 3 0 (B 3 0 + pd)) 11 t pd) 15 t (-1)) L) (T' := tUp T t (pl, B 4 0 + 1)) ?_
  exact x_vret Γ rfl (fun w2 e2 => e2) ⟨Nat.le_of_ble_eq_true rfl, Nat.le_of_ble_eq_true rfl⟩ dX2_giveAway_33
set_option maxRecDepth 100000 in
theorem t_thingNumbered {ca th : Nat → Nat} {B : xS} {n : Nat} {L : List Nat} {T : Nat → xTg} {w : xW} (h : CRaw G w ca th B n L T) (hfl : l.stackTraces = false) (hn : n ≤ 24) {x : Int32} : xMetX l G yX2_thingNumbered cX2_thingNumbered 2 (some (.object "LeftThings$Thing")) ({ frames := 6, cells := 1, slots := 6, locals := 100 } : Room) [.ref (ca 0), .int x] w embA (fun r w' => (∃ t, t < n ∧ x = nI t ∧ r = th t) ∧ cP G ca th (B) n (L) (T) w w') (fun E w' => (E = "java/lang/IndexOutOfBoundsException" ∧ ¬ rIn 0 (nI n - 1) x) ∧ cP G ca th (B) n (L) (T) w w') := by
  refine xMetX_of (by decide) (Nat.le_of_ble_eq_true rfl) ?_
  intro p e s m below meth c Γ hout
  refine c_in h ?_
  refine x_iload_n Γ dX2_thingNumbered_0 rfl rfl ?_
  refine x_if_lt (tgt := 15) Γ dX2_thingNumbered_1 (by decide) (fun c1 => ?_) (fun c1 => ?_)
  · exact x_throw Γ hfl (by decide) k_376 k_19 (show (188, "there is no such thing") ∈ xStr by simp [xStr]) at_IOE dX2_thingNumbered_15 dX2_thingNumbered_18 dX2_thingNumbered_19 dX2_thingNumbered_21 dX2_thingNumbered_24 hout ⟨Nat.le_of_ble_eq_true rfl, Nat.le_of_ble_eq_true rfl⟩ ⟨Nat.le_of_ble_eq_true rfl, Nat.le_of_ble_eq_true rfl⟩ ((fun w9 h9 => ⟨⟨rfl, fun y => absurd c1 (Int32.not_lt.mpr y.1)⟩, h9⟩)) ⟨Nat.le_of_ble_eq_true rfl, Nat.le_of_ble_eq_true rfl⟩
  · obtain ⟨t, ht31, rfl⟩ := nI_of (Int32.not_lt.mpr (Int32.not_lt.mp c1))
    refine x_iload_n Γ dX2_thingNumbered_4 rfl rfl ?_
    refine x_aload_n Γ dX2_thingNumbered_5 rfl rfl ?_
    refine c_this Γ 2 rfl (by decide) k_60 rfl dX2_thingNumbered_6 ?_
    refine x_invV (emb := embI) (ci := 0) (rm := ({ frames := 0, cells := 0, slots := 0, locals := 0 } : Room)) Γ [] (fun w1 r w2 => r = nI n ∧ w2 = w1) rfl (fun w1 h1 => t_size h1.1.2.2.2.1) c_lst3 rfl k_91 k_4 k_88 k_89 k_90 hd_Jx4a65c_size_8abf5 ⟨Nat.le_of_ble_eq_true rfl, Nat.le_of_ble_eq_true rfl⟩ ⟨Nat.le_of_ble_eq_true rfl, Nat.le_of_ble_eq_true rfl⟩ (Nat.le_of_ble_eq_true rfl) dX2_thingNumbered_9 (fun r => ?_)
    refine m_same (fun e9 => ?_)
    subst e9
    refine x_icmp_lt (tgt := 25) Γ dX2_thingNumbered_12 (by decide) (fun c12 => ?_) (fun c12 => ?_)
    · have htn : t < n := (nI_ltI ht31 (by omega)).mp c12
      refine x_ends ?_
      refine x_aload_n Γ dX2_thingNumbered_25 rfl rfl ?_
      refine c_this Γ 2 rfl (by decide) k_60 rfl dX2_thingNumbered_26 ?_
      refine x_iload_n Γ dX2_thingNumbered_29 rfl rfl ?_
      refine x_invV (emb := embA) (ci := 0) (rm := ({ frames := 2, cells := 0, slots := 0, locals := 43 } : Room)) Γ [.int (nI t)] (fun w1 r w2 => r = th t ∧ w2 = w1) rfl (fun w1 h1 => t_get h1.1.2.2.2.1 htn) c_lst3 rfl k_209 k_4 k_206 k_207 k_208 hd_Jx4a65c_get_915e3 ⟨Nat.le_of_ble_eq_true rfl, Nat.le_of_ble_eq_true rfl⟩ ⟨Nat.le_of_ble_eq_true rfl, Nat.le_of_ble_eq_true rfl⟩ (Nat.le_of_ble_eq_true rfl) dX2_thingNumbered_30 (fun r => ?_)
      refine m_same (fun e9 => ?_)
      subst e9
      refine x_cast (C := RX1) (T := TX1) (N := 12) (ci := 2) Γ rfl (c_thing htn) k_220 dX2_thingNumbered_33 ?_
      exact x_aret Γ rfl (Or.inl ⟨_, rfl⟩) (fun w2 e2 => ⟨⟨t, htn, rfl, rfl⟩, e2⟩) ⟨Nat.le_of_ble_eq_true rfl, Nat.le_of_ble_eq_true rfl⟩ dX2_thingNumbered_36
    · exact x_throw Γ hfl (by decide) k_376 k_19 (show (188, "there is no such thing") ∈ xStr by simp [xStr]) at_IOE dX2_thingNumbered_15 dX2_thingNumbered_18 dX2_thingNumbered_19 dX2_thingNumbered_21 dX2_thingNumbered_24 hout ⟨Nat.le_of_ble_eq_true rfl, Nat.le_of_ble_eq_true rfl⟩ ⟨Nat.le_of_ble_eq_true rfl, Nat.le_of_ble_eq_true rfl⟩ ((fun w9 h9 => ⟨⟨rfl, fun y => by obtain ⟨j, h7, h8⟩ := rT_nat (by omega) y; exact c12 (by rw [h8]; exact nI_lt h7 (by omega))⟩, h9⟩)) ⟨Nat.le_of_ble_eq_true rfl, Nat.le_of_ble_eq_true rfl⟩
set_option maxRecDepth 100000 in
theorem t_fill {w : xW} {a k0 len : Nat} {v : Int32} {f : Nat → Int32} (h : w a = some (k0, .inl (G.2 1, len, .inl f))) (hlen : len < 1000) : xMet l G yJ7_fill_53178 cJ7_fill_53178 4 none ({ frames := 0, cells := 0, slots := 0, locals := 0 } : Room) [.ref a, .int v] w embV (fun _ w' => w' = xu w a (k0, .inl (G.2 1, len, .inl (fun i => if i < len then v else f i)))) := by
  refine xMet_of (by decide) (Nat.le_of_ble_eq_true rfl) ?_
  intro p e s m below meth c Γ hnm
  have hup : ∀ t, upd (fun i => if i < t then v else f i) t v = fun i => if i < t + 1 then v else f i := by
    intro t
    funext i
    by_cases hi : i = t
    · subst hi
      simp [upd]
    · by_cases h2 : i < t
      · simp [upd, hi, h2, show i < t + 1 by omega]
      · simp [upd, hi, h2, show ¬ i < t + 1 by omega]
  have loop : ∀ d t, t + d = len → xJ p l e ({ frames := 0, cells := 0, slots := 0, locals := 0 } : Room) s m ([.ref a, .int v] : List Value).toArray below meth c G 4 (MQ below (xQ G embV (fun _ w' => w' = xu w a (k0, .inl (G.2 1, len, .inl (fun i => if i < len then v else f i))))) ([.ref a, .int v] : List Value).toArray s ({ frames := 0, cells := 0, slots := 0, locals := 0 } : Room).cells ({ frames := 0, cells := 0, slots := 0, locals := 0 } : Room).slots (xA G)) (fun w1 => w1 = xu w a (k0, .inl (G.2 1, len, .inl (fun i => if i < t then v else f i)))) 0 0 5 [(0, .ref a), (1, .int v), (2, .int (nI t)), (3, .int (nI len))] [] := by
    intro d
    induction d with
    | zero =>
      intro t ht
      refine x_iload_n Γ dJ7_fill_53178_5 rfl rfl ?_
      refine x_iload_n Γ dJ7_fill_53178_6 rfl rfl ?_
      refine x_icmp_ge (tgt := 20) Γ dJ7_fill_53178_7 (by decide) (fun c7 => ?_) (fun c7 => absurd (nI_le (by omega) (by omega)) c7)
      exact x_vret Γ rfl (fun w2 e2 => by rw [e2, show t = len by omega]) ⟨Nat.le_of_ble_eq_true rfl, Nat.le_of_ble_eq_true rfl⟩ dJ7_fill_53178_20
    | succ d ih =>
      intro t ht
      refine x_iload_n Γ dJ7_fill_53178_5 rfl rfl ?_
      refine x_iload_n Γ dJ7_fill_53178_6 rfl rfl ?_
      refine x_icmp_ge (tgt := 20) Γ dJ7_fill_53178_7 (by decide) (fun c7 => absurd c7 (nI_ge (by omega) (by omega))) (fun c7 => ?_)
      refine x_aload_n Γ dJ7_fill_53178_10 rfl rfl ?_
      refine x_iload_n Γ dJ7_fill_53178_11 rfl rfl ?_
      refine x_iload_n Γ dJ7_fill_53178_12 rfl rfl ?_
      refine x_iast (P' := fun w1 => w1 = xu w a (k0, .inl (G.2 1, len, .inl (fun i => if i < (t + 1) then v else f i)))) (N := len) (f := fun i => if i < t then v else f i) Γ (fun w9 e9 => by rw [e9]; refine ⟨_, xu_eq _ _ _, ?_⟩; rw [xu_xu, nI_clamp (by omega), hup t]) (vp_in_nI (by omega) (by omega)) dJ7_fill_53178_13 ?_
      refine x_iinc (v := _ + 1) Γ dJ7_fill_53178_14 rfl rfl rfl (by decide) ?_
      rw [nI_1]
      refine x_goto (tgt := 5) Γ dJ7_fill_53178_17 (by decide) ?_
      refine x_lv [0, 1, 2, 3] rfl ?_
      exact ih (t + 1) (by omega)
  refine x_iconst (v := 0) Γ dJ7_fill_53178_0 (by decide) ?_
  refine x_istore_n Γ dJ7_fill_53178_1 rfl rfl (by decide) ?_
  refine x_aload_n Γ dJ7_fill_53178_2 rfl rfl ?_
  refine x_alen Γ (fun w1 e1 => by rw [e1]; exact ⟨k0, _, Or.inl h⟩) dJ7_fill_53178_3 ?_
  refine x_istore_n Γ dJ7_fill_53178_4 rfl rfl (by decide) ?_
  refine x_weak (P' := fun w1 => w1 = xu w a (k0, .inl (G.2 1, len, .inl (fun i => if i < 0 then v else f i)))) (fun w1 e1 => ?_) ?_
  · rw [e1]
    have e : (fun i => if i < 0 then v else f i) = f := funext fun i => if_neg (Nat.not_lt_zero i)
    rw [e]
    funext q
    by_cases hq : q = a
    · subst hq; rw [xu_eq, h]
    · rw [xu_ne hq]
  refine x_lv [0, 1, 2, 3] rfl ?_
  exact loop len 0 (by omega)
end XC3

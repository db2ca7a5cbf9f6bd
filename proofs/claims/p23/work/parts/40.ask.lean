section XAK
theorem xMet_ofX {α : Type} {l : Launch} {G : xG} {y : MethodName} {cc : ByteArray} {maxL : Nat} {rt : Option FieldType} {rm : Room} {av : List Value} {w : xW} {emb : α → Option Value} {post : α → xW → Prop} {px : String → xW → Prop} (h : xMetX l G y cc maxL rt rm av w emb post px) (hp : ∀ E w', ¬ px E w') : xMet l G y cc maxL rt rm av w emb post := by
  intro p e hadm hf hc s m args below hinv happ hP hK
  obtain ⟨n, oc, h1, h2, h3, hq⟩ := h p e hadm hf hc s m args below hinv happ hP hK
  rcases hq with hq | ⟨q, h4, E, ce, L, ⟨⟨w', hpx, -⟩, -⟩, -⟩
  · exact ⟨n, oc, h1, h2, h3, hq⟩
  · exact (hp E w' hpx).elim
section XAKa
variable {p : Program} {l : Launch} {e : Env} {R : Room} {s : State} {m : MethodId} {args : Array Value} {below : List Frame} {meth : Method} {c : Code} {G : xG} {cc : ByteArray} {nL : Nat} {own : String} {rt : Option FieldType} {Q : State → Prop} {P P' : xW → Prop} {k n pc : Nat} {lv : List (Nat × Value)} {st : List Value}
theorem xScr.lt {U : State} {H : Heap} (h : xScr G U H) : G.2 6 < H.size := by
  obtain ⟨⟨scr, h4, -⟩, -⟩ := h
  exact (Array.getElem?_eq_some_iff.mp h4).1
theorem x_sld (Γ : xC p s m meth c G cc nL own rt) {i : Int32} {t : Nat} (hi : i = nI t) (ht : t < G.2 7) (hd : decode cc pc = .ok (.iaload, 1))
    (kk : xJ p l e R s m args below meth c G nL Q P k n (pc + 1) lv (.int (xsG G t) :: st)) : xJ p l e R s m args below meth c G nL Q P k n pc lv (.int i :: .ref (G.2 6) :: st) := fun w H locs ls hp hh hs hv => by
  subst hi
  have h9 := kk w H locs ls hp hh hs hv
  have hX := Γ.2.2.2.2.2.2.1.2.2.2.1
  have hl := hX.2.2
  refine va_sld Γ.1 Γ.2.1 hX.1 hX.lt hX.2.1 hs (vp_in_nI ht (by omega)) hd ?_
  rw [nI_clamp (by omega)]
  exact h9
theorem x_slen (Γ : xC p s m meth c G cc nL own rt) (hd : decode cc pc = .ok (.arraylength, 1))
    (kk : xJ p l e R s m args below meth c G nL Q P k n (pc + 1) lv (.int (nI (G.2 7)) :: st)) : xJ p l e R s m args below meth c G nL Q P k n pc lv (.ref (G.2 6) :: st) := fun w H locs ls hp hh hs hv => va_slen Γ.1 Γ.2.1 Γ.2.2.2.2.2.2.1.2.2.2.1.1 Γ.2.2.2.2.2.2.1.2.2.2.1.lt Γ.2.2.2.2.2.2.1.2.2.2.1.2.1 hs hd (kk w H locs ls hp hh hs hv)
theorem x_irem (Γ : xC p s m meth c G cc nL own rt) {x y : Int32} {a d : Nat} (hx : x = nI a) (hy : y = nI d) (ha : a < 2 ^ 31) (h0 : 0 < d) (hd9 : d < 2 ^ 31) (hd : decode cc pc = .ok (.irem, 1)) (kk : xJ p l e R s m args below meth c G nL Q P k n (pc + 1) lv (.int (nI (a % d)) :: st)) : xJ p l e R s m args below meth c G nL Q P k n pc lv (.int y :: .int x :: st) := fun w H locs ls hp hh hs hl => by
  subst hx
  subst hy
  refine lv_irem Γ.1 Γ.2.1 hd (nI_ne0 h0 hd9) ?_
  rw [pk_rem ha h0 hd9]
  exact kk w H locs ls hp hh hs hl
theorem x_idivN (Γ : xC p s m meth c G cc nL own rt) {x y : Int32} {a d : Nat} (hx : x = nI a) (hy : y = nI d) (ha : a < 2 ^ 31) (h0 : 0 < d) (hd9 : d < 2 ^ 31) (hd : decode cc pc = .ok (.idiv, 1)) (kk : xJ p l e R s m args below meth c G nL Q P k n (pc + 1) lv (.int (nI (a / d)) :: st)) : xJ p l e R s m args below meth c G nL Q P k n pc lv (.int y :: .int x :: st) := fun w H locs ls hp hh hs hl => by
  subst hx
  subst hy
  refine lv_idiv Γ.1 Γ.2.1 hd (nI_ne0 h0 hd9) ?_
  rw [pk_div ha h0 hd9]
  exact kk w H locs ls hp hh hs hl
theorem x_tin (Γ : xC p s m meth c G cc nL own rt) {dflt lo hi : Int} {offs : Array Int} {ln : Nat} {x : Int32} {off : Int} {tgt : Nat} (hd : decode cc pc = .ok (.tableswitch dflt lo hi offs, ln)) (h1 : ¬ x.toInt < lo) (h2 : ¬ hi < x.toInt) (ho : offs[(x.toInt - lo).toNat]? = some off) (ht : (pc : Int) + off = (tgt : Int))
    (kk : xJ p l e R s m args below meth c G nL Q P k n tgt lv st) : xJ p l e R s m args below meth c G nL Q P k n pc lv (.int x :: st) := fun w H locs ls hp hh hs hv => lv_tableIn Γ.1 Γ.2.1 hd h1 h2 ho ht (kk w H locs ls hp hh hs hv)
theorem x_tout (Γ : xC p s m meth c G cc nL own rt) {dflt lo hi : Int} {offs : Array Int} {ln : Nat} {x : Int32} {tgt : Nat} (hd : decode cc pc = .ok (.tableswitch dflt lo hi offs, ln)) (h : x.toInt < lo ∨ hi < x.toInt) (ht : (pc : Int) + dflt = (tgt : Int))
    (kk : xJ p l e R s m args below meth c G nL Q P k n tgt lv st) : xJ p l e R s m args below meth c G nL Q P k n pc lv (.int x :: st) := fun w H locs ls hp hh hs hv => lv_tableOut Γ.1 Γ.2.1 hd h ht (kk w H locs ls hp hh hs hv)
end XAKa
theorem hd_L_told : (yL_told).cls ≠ "java/lang/invoke/MethodHandle" ∧ (yL_told).cls ≠ "java/lang/invoke/VarHandle" ∧ (parseMethodDescriptor (yL_told).desc).map (fun d => d.parameters.length) = some 2 := by decide +kernel
theorem hd_L_purses : (yL_purses).cls ≠ "java/lang/invoke/MethodHandle" ∧ (yL_purses).cls ≠ "java/lang/invoke/VarHandle" ∧ (parseMethodDescriptor (yL_purses).desc).map (fun d => d.parameters.length) = some 1 := by decide +kernel
theorem hd_L_does : (yL_does).cls ≠ "java/lang/invoke/MethodHandle" ∧ (yL_does).cls ≠ "java/lang/invoke/VarHandle" ∧ (parseMethodDescriptor (yL_does).desc).map (fun d => d.parameters.length) = some 4 := by decide +kernel
theorem hd_L_lends : (yL_lends).cls ≠ "java/lang/invoke/MethodHandle" ∧ (yL_lends).cls ≠ "java/lang/invoke/VarHandle" ∧ (parseMethodDescriptor (yL_lends).desc).map (fun d => d.parameters.length) = some 5 := by decide +kernel
theorem hd_L_areSo : (yL_areSo).cls ≠ "java/lang/invoke/MethodHandle" ∧ (yL_areSo).cls ≠ "java/lang/invoke/VarHandle" ∧ (parseMethodDescriptor (yL_areSo).desc).map (fun d => d.parameters.length) = some 3 := by decide +kernel
variable {l : Launch} {G : xG}
theorem nI_nonneg {t n : Nat} (h : t < n) (hn : n < 2 ^ 31) : ¬ nI t < 0 := Int32.not_lt.mpr (nI_pos' (by omega))
set_option maxRecDepth 100000 in
theorem q_thing {ca th : Nat → Nat} {A : xS} {n : Nat} {L : List Nat} {T : Nat → xTg} {w : xW} (h : CRaw G w ca th (cB A) n L T) (hI : pI A n L) {t : Nat} (htn : t < n) : xMet l G yX2_thingNumbered cX2_thingNumbered 2 (some (.object "LeftThings$Thing")) ({ frames := 3, cells := 0, slots := 0, locals := 75 } : Room) [.ref (ca 0), .int (nI t)] w embA (fun r w' => r = th t ∧ cP G ca th (cB A) n L T w w') := by
  refine xMet_of (by decide) (Nat.le_of_ble_eq_true rfl) ?_
  intro p e s m below meth c Γ hnm
  have hn := hI.1.2.1
  refine c_in h ?_
  refine x_iload_n Γ dX2_thingNumbered_0 rfl rfl ?_
  refine x_if_lt (tgt := 15) Γ dX2_thingNumbered_1 (by decide) (fun c1 => absurd c1 (nI_nonneg htn (by omega))) (fun c1 => ?_)
  refine x_iload_n Γ dX2_thingNumbered_4 rfl rfl ?_
  refine x_aload_n Γ dX2_thingNumbered_5 rfl rfl ?_
  refine c_this Γ 2 rfl (by decide) k_60 rfl dX2_thingNumbered_6 ?_
  refine x_invV (emb := embI) (ci := 0) (rm := ({ frames := 0, cells := 0, slots := 0, locals := 0 } : Room)) Γ [] (fun w1 r w2 => r = nI n ∧ w2 = w1) rfl (fun w1 h1 => t_size h1.1.2.2.2.1) c_lst3 rfl k_91 k_4 k_88 k_89 k_90 hd_Jx4a65c_size_8abf5 ⟨Nat.le_of_ble_eq_true rfl, Nat.le_of_ble_eq_true rfl⟩ ⟨Nat.le_of_ble_eq_true rfl, Nat.le_of_ble_eq_true rfl⟩ (Nat.le_of_ble_eq_true rfl) dX2_thingNumbered_9 (fun r => ?_)
  refine m_same (fun e9 => ?_)
  subst e9
  refine x_icmp_lt (tgt := 25) Γ dX2_thingNumbered_12 (by decide) (fun c12 => ?_) (fun c12 => absurd (nI_lt htn (by omega)) c12)
  refine x_aload_n Γ dX2_thingNumbered_25 rfl rfl ?_
  refine c_this Γ 2 rfl (by decide) k_60 rfl dX2_thingNumbered_26 ?_
  refine x_iload_n Γ dX2_thingNumbered_29 rfl rfl ?_
  refine x_invV (emb := embA) (ci := 0) (rm := ({ frames := 2, cells := 0, slots := 0, locals := 43 } : Room)) Γ [.int (nI t)] (fun w1 r w2 => r = th t ∧ w2 = w1) rfl (fun w1 h1 => t_get h1.1.2.2.2.1 htn) c_lst3 rfl k_209 k_4 k_206 k_207 k_208 hd_Jx4a65c_get_915e3 ⟨Nat.le_of_ble_eq_true rfl, Nat.le_of_ble_eq_true rfl⟩ ⟨Nat.le_of_ble_eq_true rfl, Nat.le_of_ble_eq_true rfl⟩ (Nat.le_of_ble_eq_true rfl) dX2_thingNumbered_30 (fun r => ?_)
  refine m_same (fun e9 => ?_)
  subst e9
  refine x_cast (C := RX1) (T := TX1) (N := 12) (ci := 2) Γ rfl (c_thing htn) k_220 dX2_thingNumbered_33 ?_
  exact x_aret Γ rfl (Or.inl ⟨_, rfl⟩) (fun w2 e2 => ⟨rfl, e2⟩) ⟨Nat.le_of_ble_eq_true rfl, Nat.le_of_ble_eq_true rfl⟩ dX2_thingNumbered_36
set_option maxRecDepth 100000 in
theorem q_where {ca th : Nat → Nat} {A : xS} {n : Nat} {L : List Nat} {T : Nat → xTg} {w : xW} (h : CRaw G w ca th (cB A) n L T) (hI : pI A n L) {t : Nat} (htn : t < n) : xMet l G yX2_where cX2_where 2 (some .int) ({ frames := 5, cells := 0, slots := 0, locals := 140 } : Room) [.ref (ca 0), .int (nI t)] w embI (fun r w' => r = A 9 t ∧ cP G ca th (cB A) n L T w w') := by
  refine xMet_of (by decide) (Nat.le_of_ble_eq_true rfl) ?_
  intro p e s m below meth c Γ hnm
  have hn := hI.1.2.1
  refine c_in h ?_
  refine x_aload_n Γ dX2_where_0 rfl rfl ?_
  refine x_iload_n Γ dX2_where_1 rfl rfl ?_
  refine x_invV (emb := embA) (ci := 3) (rm := ({ frames := 3, cells := 0, slots := 0, locals := 75 } : Room)) Γ [.int (nI t)] (fun w1 r w2 => r = th t ∧ cP G ca th (cB A) n L T w1 w2) rfl (fun w1 h1 => q_thing h1.1 hI htn) c_self rfl k_375 k_1 k_372 k_374 s_6 hd_X2_thingNumbered ⟨Nat.le_of_ble_eq_true rfl, Nat.le_of_ble_eq_true rfl⟩ ⟨Nat.le_of_ble_eq_true rfl, Nat.le_of_ble_eq_true rfl⟩ (Nat.le_of_ble_eq_true rfl) dX2_where_2 (fun r => ?_)
  refine c_then (B' := cB A) (L' := L) (T' := T) (fun e9 => ?_)
  subst e9
  refine c_getT Γ 5 htn (fun _ => rfl) (by decide) k_272 dX2_where_5 ?_
  exact x_iret Γ rfl rfl (fun w2 e2 => ⟨rfl, e2⟩) ⟨Nat.le_of_ble_eq_true rfl, Nat.le_of_ble_eq_true rfl⟩ dX2_where_8
set_option maxRecDepth 100000 in
theorem q_fees {ca th : Nat → Nat} {A : xS} {n : Nat} {L : List Nat} {T : Nat → xTg} {w : xW} (h : CRaw G w ca th (cB A) n L T) (hI : pI A n L) {t : Nat} (htn : t < n) : xMet l G yX2_fees cX2_fees 2 (some .int) ({ frames := 5, cells := 0, slots := 0, locals := 140 } : Room) [.ref (ca 0), .int (nI t)] w embI (fun r w' => r = A 11 t ∧ cP G ca th (cB A) n L T w w') := by
  refine xMet_of (by decide) (Nat.le_of_ble_eq_true rfl) ?_
  intro p e s m below meth c Γ hnm
  have hn := hI.1.2.1
  refine c_in h ?_
  refine x_aload_n Γ dX2_fees_0 rfl rfl ?_
  refine x_iload_n Γ dX2_fees_1 rfl rfl ?_
  refine x_invV (emb := embA) (ci := 3) (rm := ({ frames := 3, cells := 0, slots := 0, locals := 75 } : Room)) Γ [.int (nI t)] (fun w1 r w2 => r = th t ∧ cP G ca th (cB A) n L T w1 w2) rfl (fun w1 h1 => q_thing h1.1 hI htn) c_self rfl k_375 k_1 k_372 k_374 s_6 hd_X2_thingNumbered ⟨Nat.le_of_ble_eq_true rfl, Nat.le_of_ble_eq_true rfl⟩ ⟨Nat.le_of_ble_eq_true rfl, Nat.le_of_ble_eq_true rfl⟩ (Nat.le_of_ble_eq_true rfl) dX2_fees_2 (fun r => ?_)
  refine c_then (B' := cB A) (L' := L) (T' := T) (fun e9 => ?_)
  subst e9
  refine c_getT Γ 8 htn (fun _ => rfl) (by decide) k_277 dX2_fees_5 ?_
  exact x_iret Γ rfl rfl (fun w2 e2 => ⟨rfl, e2⟩) ⟨Nat.le_of_ble_eq_true rfl, Nat.le_of_ble_eq_true rfl⟩ dX2_fees_8
set_option maxRecDepth 100000 in
theorem q_loan {ca th : Nat → Nat} {A : xS} {n : Nat} {L : List Nat} {T : Nat → xTg} {w : xW} (h : CRaw G w ca th (cB A) n L T) (hI : pI A n L) {t : Nat} (htn : t < n) : xMet l G yX2_loan cX2_loan 2 (some .int) ({ frames := 5, cells := 0, slots := 0, locals := 140 } : Room) [.ref (ca 0), .int (nI t)] w embI (fun r w' => r = A 12 t ∧ cP G ca th (cB A) n L T w w') := by
  refine xMet_of (by decide) (Nat.le_of_ble_eq_true rfl) ?_
  intro p e s m below meth c Γ hnm
  have hn := hI.1.2.1
  refine c_in h ?_
  refine x_aload_n Γ dX2_loan_0 rfl rfl ?_
  refine x_iload_n Γ dX2_loan_1 rfl rfl ?_
  refine x_invV (emb := embA) (ci := 3) (rm := ({ frames := 3, cells := 0, slots := 0, locals := 75 } : Room)) Γ [.int (nI t)] (fun w1 r w2 => r = th t ∧ cP G ca th (cB A) n L T w1 w2) rfl (fun w1 h1 => q_thing h1.1 hI htn) c_self rfl k_375 k_1 k_372 k_374 s_6 hd_X2_thingNumbered ⟨Nat.le_of_ble_eq_true rfl, Nat.le_of_ble_eq_true rfl⟩ ⟨Nat.le_of_ble_eq_true rfl, Nat.le_of_ble_eq_true rfl⟩ (Nat.le_of_ble_eq_true rfl) dX2_loan_2 (fun r => ?_)
  refine c_then (B' := cB A) (L' := L) (T' := T) (fun e9 => ?_)
  subst e9
  refine c_getT Γ 9 htn (fun _ => rfl) (by decide) k_279 dX2_loan_5 ?_
  exact x_iret Γ rfl rfl (fun w2 e2 => ⟨rfl, e2⟩) ⟨Nat.le_of_ble_eq_true rfl, Nat.le_of_ble_eq_true rfl⟩ dX2_loan_8
set_option maxRecDepth 100000 in
theorem q_whereOn {ca th : Nat → Nat} {A : xS} {n : Nat} {L : List Nat} {T : Nat → xTg} {w : xW} (h : CRaw G w ca th (cB A) n L T) (hI : pI A n L) {D : Nat} (hT : tgI A n D T) (hD : A 4 0 = nI D) (hD1 : D ≤ 1000) {t d : Nat} (htn : t < n) (hd : d ≤ D) : xMet l G yX2_whereOn cX2_whereOn 4 (some .int) ({ frames := 5, cells := 0, slots := 0, locals := 140 } : Room) [.ref (ca 0), .int (nI t), .int (nI d)] w embI (fun r w' => r = (if nI d = A 4 0 then A 9 t else A 18 (24 * d + t)) ∧ cP G ca th (cB A) n L T w w') := by
  refine xMet_of (by decide) (Nat.le_of_ble_eq_true rfl) ?_
  intro p e s m below meth c Γ hnm
  have hn := hI.1.2.1
  refine c_in h ?_
  refine x_aload_n Γ dX2_whereOn_0 rfl rfl ?_
  refine x_iload_n Γ dX2_whereOn_1 rfl rfl ?_
  refine x_invV (emb := embA) (ci := 3) (rm := ({ frames := 3, cells := 0, slots := 0, locals := 75 } : Room)) Γ [.int (nI t)] (fun w1 r w2 => r = th t ∧ cP G ca th (cB A) n L T w1 w2) rfl (fun w1 h1 => q_thing h1.1 hI htn) c_self rfl k_375 k_1 k_372 k_374 s_6 hd_X2_thingNumbered ⟨Nat.le_of_ble_eq_true rfl, Nat.le_of_ble_eq_true rfl⟩ ⟨Nat.le_of_ble_eq_true rfl, Nat.le_of_ble_eq_true rfl⟩ (Nat.le_of_ble_eq_true rfl) dX2_whereOn_2 (fun r => ?_)
  refine c_then (B' := cB A) (L' := L) (T' := T) (fun e9 => ?_)
  subst e9
  refine x_astore_n Γ dX2_whereOn_5 rfl rfl (by decide) ?_
  refine x_iload_n Γ dX2_whereOn_6 rfl rfl ?_
  refine x_if_lt (tgt := 18) Γ dX2_whereOn_7 (by decide) (fun c7 => absurd c7 (nI_nonneg (n := d + 1) (by omega) (by omega))) (fun c7 => ?_)
  refine x_iload_n Γ dX2_whereOn_10 rfl rfl ?_
  refine x_aload_n Γ dX2_whereOn_11 rfl rfl ?_
  refine c_this Γ 5 rfl (by decide) k_63 rfl dX2_whereOn_12 ?_
  refine x_icmp_le (tgt := 28) Γ dX2_whereOn_15 (by decide) (fun c15 => ?_) (fun c15 => absurd ((by rw [show cB A 4 0 = A 4 0 from rfl, hD]; exact nI_le hd (by omega))) c15)
  refine x_iload_n Γ dX2_whereOn_28 rfl rfl ?_
  refine x_aload_n Γ dX2_whereOn_29 rfl rfl ?_
  refine c_this Γ 5 rfl (by decide) k_63 rfl dX2_whereOn_30 ?_
  refine x_icmp_ne (tgt := 43) Γ dX2_whereOn_33 (by decide) (fun c33 => ?_) (fun c33 => ?_)
  · refine x_aload_n Γ dX2_whereOn_43 rfl rfl ?_
    refine x_iload_n Γ dX2_whereOn_44 rfl rfl ?_
    refine x_invVN (emb := embI) (ci := 2) (rm := ({ frames := 0, cells := 0, slots := 0, locals := 0 } : Room)) Γ [.int (nI d)] (fun w1 r w2 => r = lkp (nI d) (T t) ∧ w2 = w1) rfl (fun w1 h1 => by obtain ⟨b9, g1, g2⟩ := h1.1.2.2.2.2.2 t htn; exact t_placeAt g1 rfl g2) (c_thing htn) rfl k_534 k_14 k_531 k_533 s_23 hd_X1_placeAtBeginningOf ⟨Nat.le_of_ble_eq_true rfl, Nat.le_of_ble_eq_true rfl⟩ ⟨Nat.le_of_ble_eq_true rfl, Nat.le_of_ble_eq_true rfl⟩ (Nat.le_of_ble_eq_true rfl) dX2_whereOn_45 (fun r => ?_)
    refine m_same (fun e9 => ?_)
    subst e9
    exact x_iret Γ rfl rfl (fun w2 e2 => ⟨(by rw [if_neg (show ¬ nI d = A 4 0 from c33)]; exact (hT t htn).2.2 d hd), e2⟩) ⟨Nat.le_of_ble_eq_true rfl, Nat.le_of_ble_eq_true rfl⟩ dX2_whereOn_48
  · refine x_aload_n Γ dX2_whereOn_36 rfl rfl ?_
    refine c_getT Γ 5 htn (fun _ => rfl) (by decide) k_272 dX2_whereOn_37 ?_
    refine x_goto (tgt := 48) Γ dX2_whereOn_40 (by decide) ?_
    exact x_iret Γ rfl rfl (fun w2 e2 => ⟨(by rw [if_pos (show nI d = A 4 0 from c33)]; rfl), e2⟩) ⟨Nat.le_of_ble_eq_true rfl, Nat.le_of_ble_eq_true rfl⟩ dX2_whereOn_48
set_option maxRecDepth 100000 in
theorem q_load {ca th : Nat → Nat} {A : xS} {n : Nat} {L : List Nat} {T : Nat → xTg} {w : xW} (h : CRaw G w ca th (cB A) n L T) (hI : pI A n L) {ci : Nat} (hci : ci < 5) : xMet l G yX2_load cX2_load 2 (some .int) ({ frames := 5, cells := 0, slots := 0, locals := 140 } : Room) [.ref (ca 0), .int (nI ci)] w embI (fun r w' => r = ldF A (nI ci) n ∧ cP G ca th (cB A) n L T w w') := by
  refine xMet_of (by decide) (Nat.le_of_ble_eq_true rfl) ?_
  intro p e s m below meth c Γ hnm
  have hn := hI.1.2.1
  refine c_in h ?_
  refine x_iload_n Γ dX2_load_0 rfl rfl ?_
  refine x_invS (emb := embI) (rm := ({ frames := 0, cells := 0, slots := 0, locals := 0 } : Room)) Γ [.int (nI ci)] (fun w1 r w2 => bq (rIn 0 4 (nI ci)) r ∧ w2 = w1) rfl (fun w1 h1 => t2_isCounter) k_106 k_1 k_104 k_105 hd_X2_isCounter ⟨Nat.le_of_ble_eq_true rfl, Nat.le_of_ble_eq_true rfl⟩ ⟨Nat.le_of_ble_eq_true rfl, Nat.le_of_ble_eq_true rfl⟩ (Nat.le_of_ble_eq_true rfl) dX2_load_1 (fun r => ?_)
  refine m_same (fun q1 => ?_)
  refine x_if_ne (tgt := 17) Γ dX2_load_4 (by decide) (fun c4 => ?_) (fun c4 => ?_)
  · refine x_aload_n Γ dX2_load_17 rfl rfl ?_
    refine x_iload_n Γ dX2_load_18 rfl rfl ?_
    refine x_invV (emb := embI) (ci := 3) (rm := ({ frames := 3, cells := 0, slots := 0, locals := 80 } : Room)) Γ [.int (nI ci)] (fun w1 r w2 => r = ldF A (nI ci) n ∧ cP G ca th (cB A) n (L) (T) w1 w2) rfl (fun w1 h1 => by have h9 := t_sizesAt (l := l) (x := nI ci) h1.1 hn; rw [ldF_cB] at h9; exact h9) c_self rfl k_205 k_1 k_202 k_204 s_2 hd_X2_sizesAt ⟨Nat.le_of_ble_eq_true rfl, Nat.le_of_ble_eq_true rfl⟩ ⟨Nat.le_of_ble_eq_true rfl, Nat.le_of_ble_eq_true rfl⟩ (Nat.le_of_ble_eq_true rfl) dX2_load_19 (fun r => ?_)
    refine c_then (B' := cB A) (L' := L) (T' := T) (fun e9 => ?_)
    subst e9
    exact x_iret Γ rfl rfl (fun w2 e2 => ⟨rfl, e2⟩) ⟨Nat.le_of_ble_eq_true rfl, Nat.le_of_ble_eq_true rfl⟩ dX2_load_22
  · exact absurd ⟨nI_pos' (by omega), nI_le (b := 4) (by omega) (by decide)⟩ (q1.eq c4)
set_option maxRecDepth 100000 in
theorem q_purse {ca th : Nat → Nat} {A : xS} {n : Nat} {L : List Nat} {T : Nat → xTg} {w : xW} (h : CRaw G w ca th (cB A) n L T) (hI : pI A n L) {i : Nat} (hi : i < 8) : xMet l G yX2_purse cX2_purse 2 (some .int) ({ frames := 5, cells := 0, slots := 0, locals := 140 } : Room) [.ref (ca 0), .int (nI i)] w embI (fun r w' => r = A 2 i ∧ cP G ca th (cB A) n L T w w') := by
  refine xMet_of (by decide) (Nat.le_of_ble_eq_true rfl) ?_
  intro p e s m below meth c Γ hnm
  have hn := hI.1.2.1
  refine c_in h ?_
  refine x_iload_n Γ dX2_purse_0 rfl rfl ?_
  refine x_invS (emb := embI) (rm := ({ frames := 0, cells := 0, slots := 0, locals := 0 } : Room)) Γ [.int (nI i)] (fun w1 r w2 => bq (rIn 0 7 (nI i)) r ∧ w2 = w1) rfl (fun w1 h1 => t2_isPerson) k_196 k_1 k_194 k_195 hd_X2_isPerson ⟨Nat.le_of_ble_eq_true rfl, Nat.le_of_ble_eq_true rfl⟩ ⟨Nat.le_of_ble_eq_true rfl, Nat.le_of_ble_eq_true rfl⟩ (Nat.le_of_ble_eq_true rfl) dX2_purse_1 (fun r => ?_)
  refine m_same (fun q1 => ?_)
  refine x_if_ne (tgt := 17) Γ dX2_purse_4 (by decide) (fun c4 => ?_) (fun c4 => ?_)
  · refine x_aload_n Γ dX2_purse_17 rfl rfl ?_
    refine c_this Γ 1 rfl (by decide) k_59 rfl dX2_purse_18 ?_
    refine x_iload_n Γ dX2_purse_21 rfl rfl ?_
    refine c_ald (jj := 2) Γ rfl (Or.inr ⟨rfl, rfl, by omega⟩) dX2_purse_22 ?_
    exact x_iret Γ rfl rfl (fun w2 e2 => ⟨rfl, e2⟩) ⟨Nat.le_of_ble_eq_true rfl, Nat.le_of_ble_eq_true rfl⟩ dX2_purse_23
  · exact absurd ⟨nI_pos' (by omega), nI_le (b := 7) (by omega) (by decide)⟩ (q1.eq c4)
set_option maxRecDepth 100000 in
theorem q_day {ca th : Nat → Nat} {A : xS} {n : Nat} {L : List Nat} {T : Nat → xTg} {w : xW} (h : CRaw G w ca th (cB A) n L T) (hI : pI A n L) : xMet l G yX2_day cX2_day 1 (some .int) ({ frames := 1, cells := 0, slots := 0, locals := 40 } : Room) [.ref (ca 0)] w embI (fun r w' => r = A 4 0 ∧ cP G ca th (cB A) n L T w w') := by
  refine xMet_of (by decide) (Nat.le_of_ble_eq_true rfl) ?_
  intro p e s m below meth c Γ hnm
  have hn := hI.1.2.1
  refine c_in h ?_
  refine x_aload_n Γ dX2_day_0 rfl rfl ?_
  refine c_this Γ 5 rfl (by decide) k_63 rfl dX2_day_1 ?_
  exact x_iret Γ rfl rfl (fun w2 e2 => ⟨rfl, e2⟩) ⟨Nat.le_of_ble_eq_true rfl, Nat.le_of_ble_eq_true rfl⟩ dX2_day_4
set_option maxRecDepth 100000 in
theorem q_taken {ca th : Nat → Nat} {A : xS} {n : Nat} {L : List Nat} {T : Nat → xTg} {w : xW} (h : CRaw G w ca th (cB A) n L T) (hI : pI A n L) : xMet l G yX2_taken cX2_taken 1 (some .int) ({ frames := 1, cells := 0, slots := 0, locals := 40 } : Room) [.ref (ca 0)] w embI (fun r w' => r = A 3 0 ∧ cP G ca th (cB A) n L T w w') := by
  refine xMet_of (by decide) (Nat.le_of_ble_eq_true rfl) ?_
  intro p e s m below meth c Γ hnm
  have hn := hI.1.2.1
  refine c_in h ?_
  refine x_aload_n Γ dX2_taken_0 rfl rfl ?_
  refine c_this Γ 6 rfl (by decide) k_64 rfl dX2_taken_1 ?_
  exact x_iret Γ rfl rfl (fun w2 e2 => ⟨rfl, e2⟩) ⟨Nat.le_of_ble_eq_true rfl, Nat.le_of_ble_eq_true rfl⟩ dX2_taken_4
set_option maxRecDepth 100000 in
theorem q_things {ca th : Nat → Nat} {A : xS} {n : Nat} {L : List Nat} {T : Nat → xTg} {w : xW} (h : CRaw G w ca th (cB A) n L T) (hI : pI A n L) : xMet l G yX2_things cX2_things 1 (some .int) ({ frames := 1, cells := 0, slots := 0, locals := 40 } : Room) [.ref (ca 0)] w embI (fun r w' => r = nI n ∧ cP G ca th (cB A) n L T w w') := by
  refine xMet_of (by decide) (Nat.le_of_ble_eq_true rfl) ?_
  intro p e s m below meth c Γ hnm
  have hn := hI.1.2.1
  refine c_in h ?_
  refine x_aload_n Γ dX2_things_0 rfl rfl ?_
  refine c_this Γ 2 rfl (by decide) k_60 rfl dX2_things_1 ?_
  refine x_invV (emb := embI) (ci := 0) (rm := ({ frames := 0, cells := 0, slots := 0, locals := 0 } : Room)) Γ [] (fun w1 r w2 => r = nI n ∧ w2 = w1) rfl (fun w1 h1 => t_size h1.1.2.2.2.1) c_lst3 rfl k_91 k_4 k_88 k_89 k_90 hd_Jx4a65c_size_8abf5 ⟨Nat.le_of_ble_eq_true rfl, Nat.le_of_ble_eq_true rfl⟩ ⟨Nat.le_of_ble_eq_true rfl, Nat.le_of_ble_eq_true rfl⟩ (Nat.le_of_ble_eq_true rfl) dX2_things_4 (fun r => ?_)
  refine m_same (fun e9 => ?_)
  subst e9
  exact x_iret Γ rfl rfl (fun w2 e2 => ⟨rfl, e2⟩) ⟨Nat.le_of_ble_eq_true rfl, Nat.le_of_ble_eq_true rfl⟩ dX2_things_7
end XAK

section XLT
variable {l : Launch} {G : xG}
set_option maxRecDepth 100000 in
theorem w_told {w : xW} {q : Nat} (hq : q ≤ 100) : xMet l G yL_told cL_told 2 (some .int) ({ frames := 0, cells := 0, slots := 0, locals := 0 } : Room) [.ref (G.2 6), .int (nI q)] w embI (fun r w' => (∃ v : Nat, v < 2 ^ 31 ∧ r = nI v) ∧ w' = w) := by
  have hX := True.intro
  refine xMet_of (by decide) (Nat.le_of_ble_eq_true rfl) ?_
  intro p e s m below meth c Γ hnm
  refine x_iload_n Γ dL_told_0 rfl rfl ?_
  refine x_aload_n Γ dL_told_1 rfl rfl ?_
  refine x_slen Γ dL_told_2 ?_
  refine x_icmp_ge (tgt := 12) Γ dL_told_3 (by decide) (fun c3 => ?_) (fun c3 => ?_)
  · refine x_ldc (v := 49003) Γ k_2343 dL_told_12 ?_
    refine x_iload_n Γ dL_told_14 rfl rfl ?_
    refine x_iconst (v := 5) Γ dL_told_15 (by decide) ?_
    refine x_iadd Γ dL_told_16 ?_
    refine x_imul Γ dL_told_17 ?_
    refine x_iload_n Γ dL_told_18 rfl rfl ?_
    refine x_bipush (v := 6) Γ dL_told_19 (by decide) ?_
    refine x_iadd Γ dL_told_21 ?_
    refine x_imul Γ dL_told_22 ?_
    refine x_ldc (v := 2147483647) Γ k_2344 dL_told_23 ?_
    refine x_iand Γ dL_told_25 ?_
    refine x_iret Γ rfl rfl (fun w2 e2 => ?_) ⟨Nat.le_of_ble_eq_true rfl, Nat.le_of_ble_eq_true rfl⟩ dL_told_26
    obtain ⟨v, h1, h2⟩ := pk_andE _ (m := 2147483647) 31 (by decide)
    exact ⟨⟨v, h1, h2⟩, e2⟩
  · have hlt : q < G.2 7 := by
      rcases Nat.lt_or_ge q (G.2 7) with h | h
      · exact h
      · exact absurd (nI_le h (by omega)) c3
    refine x_aload_n Γ dL_told_6 rfl rfl ?_
    refine x_iload_n Γ dL_told_7 rfl rfl ?_
    refine x_sld Γ rfl hlt dL_told_8 ?_
    refine x_goto (tgt := 23) Γ dL_told_9 (by decide) ?_
    refine x_ldc (v := 2147483647) Γ k_2344 dL_told_23 ?_
    refine x_iand Γ dL_told_25 ?_
    refine x_iret Γ rfl rfl (fun w2 e2 => ?_) ⟨Nat.le_of_ble_eq_true rfl, Nat.le_of_ble_eq_true rfl⟩ dL_told_26
    obtain ⟨v, h1, h2⟩ := pk_andE _ (m := 2147483647) 31 (by decide)
    exact ⟨⟨v, h1, h2⟩, e2⟩
set_option maxRecDepth 100000 in
theorem w_purses {ca aa th : Nat → Nat} {A : xS} {n : Nat} {L : List Nat} {D : Nat} {Z : xS} {w : xW} (h : lP G ca aa A n L D th Z w) (hF : fI A n L D) : xMet l G yL_purses cL_purses 3 (some .int) ({ frames := 6, cells := 0, slots := 0, locals := 165 } : Room) [.ref (ca 0)] w embI (fun r w' => r = psI A 8 ∧ lP G ca aa A n L D th Z w') := by
  refine xMet_of (by decide) (Nat.le_of_ble_eq_true rfl) ?_
  intro p e s m below meth c Γ hnm
  have loop : ∀ d t, t + d = 8 → xJ p l e ({ frames := 6, cells := 0, slots := 0, locals := 165 } : Room) s m ([.ref (ca 0)] : List Value).toArray below meth c G 3 (MQ below (xQ G embI (fun r w' => r = psI A 8 ∧ lP G ca aa A n L D th Z w')) ([.ref (ca 0)] : List Value).toArray s ({ frames := 6, cells := 0, slots := 0, locals := 165 } : Room).cells ({ frames := 6, cells := 0, slots := 0, locals := 165 } : Room).slots (xA G)) (lP G ca aa A n L D th Z) 0 0 4 [(2, .int (nI t)), (1, .int (psI A t)), (0, .ref (ca 0))] [] := by
    intro d
    induction d with
    | zero =>
      intro t ht
      obtain rfl : t = 8 := by omega
      refine x_iload_n Γ dL_purses_4 rfl rfl ?_
      refine x_bipush (v := 8) Γ dL_purses_5 (by decide) ?_
      refine x_icmp_ge (tgt := 24) Γ dL_purses_7 (by decide) (fun c7 => ?_) (fun c7 => absurd (Int32.le_refl _) c7)
      refine x_iload_n Γ dL_purses_24 rfl rfl ?_
      exact x_iret Γ rfl rfl (fun w2 e2 => ⟨rfl, e2⟩) ⟨Nat.le_of_ble_eq_true rfl, Nat.le_of_ble_eq_true rfl⟩ dL_purses_25
    | succ d ih =>
      intro t ht
      refine x_iload_n Γ dL_purses_4 rfl rfl ?_
      refine x_bipush (v := 8) Γ dL_purses_5 (by decide) ?_
      refine x_icmp_ge (tgt := 24) Γ dL_purses_7 (by decide) (fun c7 => absurd c7 (nI_ge (b := 8) (by omega) (by decide))) (fun c7 => ?_)
      refine x_iload_n Γ dL_purses_10 rfl rfl ?_
      refine x_aload_n Γ dL_purses_11 rfl rfl ?_
      refine x_iload_n Γ dL_purses_12 rfl rfl ?_
      refine x_invV (emb := embI) (ci := 3) (rm := RQ) Γ [.int (nI t)] (fun w1 r w2 => r = A 2 t ∧ lP G ca aa A n L D th Z w2) rfl (fun w1 h1 => l_purse h1 hF (by omega)) lP.obj rfl k_562 k_1 k_2348 k_560 k_561 hd_X2_purse ⟨Nat.le_of_ble_eq_true rfl, Nat.le_of_ble_eq_true rfl⟩ ⟨Nat.le_of_ble_eq_true rfl, Nat.le_of_ble_eq_true rfl⟩ (Nat.le_of_ble_eq_true rfl) dL_purses_13 (fun r => ?_)
      refine x_then (P2 := lP G ca aa A n L D th Z) (φ := r = A 2 t) (fun w2 h2 => by obtain ⟨w1, -, h3, h4⟩ := h2; exact ⟨h3, h4⟩) (fun e9 => ?_)
      subst e9
      refine x_iadd Γ dL_purses_16 ?_
      refine x_istore_n Γ dL_purses_17 rfl rfl (by decide) ?_
      refine x_iinc (v := nI (t + 1)) Γ dL_purses_18 rfl (nI_1 t) rfl (by decide) ?_
      refine x_goto (tgt := 4) Γ dL_purses_21 (by decide) ?_
      refine x_lv [2, 1, 0] rfl ?_
      exact ih (t + 1) (by omega)
  refine x_weak (P' := lP G ca aa A n L D th Z) (fun w1 e1 => by rw [e1]; exact h) ?_
  refine x_iconst (v := 0) Γ dL_purses_0 (by decide) ?_
  refine x_istore_n Γ dL_purses_1 rfl rfl (by decide) ?_
  refine x_iconst (v := 0) Γ dL_purses_2 (by decide) ?_
  refine x_istore_n Γ dL_purses_3 rfl rfl (by decide) ?_
  exact loop 8 0 (by omega)
end XLT

section XM4
variable {l : Launch} {G : xG}
theorem fFor_len (t : Nat) (L : List Nat) : (fFor t L).length ≤ L.length := List.length_filter_le _ _
theorem fFor_eq {t k q : Nat} {L : List Nat} (hq : L[k]? = some q) (h : q = t) : fFor t (L.take (k + 1)) = fFor t (L.take k) := by
  unfold fFor
  rw [List.take_add_one, hq, List.filter_append]
  simp [h]
theorem fFor_ne {t k q : Nat} {L : List Nat} (hq : L[k]? = some q) (h : ¬ q = t) : fFor t (L.take (k + 1)) = fFor t (L.take k) ++ [q] := by
  unfold fFor
  rw [List.take_add_one, hq, List.filter_append]
  simp [h]
theorem fFor_mem {t q : Nat} {L : List Nat} (h : q ∈ fFor t L) : q ∈ L ∧ q ≠ t := by
  unfold fFor at h
  have h2 := List.mem_filter.mp h
  exact ⟨h2.1, by simpa using h2.2⟩
set_option maxRecDepth 100000 in
theorem t_forgets {o : Nat} {ad : Nat → Nat} {A : xS} {L : List Nat} {w : xW} (h : MRep G w o ad A L) {t : Nat} (ht : t < 24) (hl : L.length ≤ 24) (hL : ∀ q ∈ L, q < 24) : xMet l G yX3_forgets cX3_forgets 4 none ({ frames := 0, cells := 0, slots := 0, locals := 0 } : Room) [.ref o, .int (nI t)] w embV (fun _ w' => mP G o ad (mU A 15 t (-1)) (fFor t L) w w') := by
  refine xMet_of (by decide) (Nat.le_of_ble_eq_true rfl) ?_
  intro p e s m below meth c Γ hnm
  obtain ⟨M0, hM0, hA0, h170, h160⟩ := h
  have loop : ∀ d k w1 M, k + d = L.length → MdlAt G w1 o ad M → (∀ j, j ≠ 16 → j ≠ 17 → M j = A j) → M 17 0 = nI L.length → (∀ i q, (fFor t (L.take (k)))[i]? = some q → M 16 i = nI q) → (∀ i q, k ≤ i → L[i]? = some q → M 16 i = nI q) → KpM w w1 → xJ p l e ({ frames := 0, cells := 0, slots := 0, locals := 0 } : Room) s m ([.ref o, .int (nI t)] : List Value).toArray below meth c G 4 (MQ below (xQ G embV (fun _ w' => mP G o ad (mU A 15 t (-1)) (fFor t L) w w')) ([.ref o, .int (nI t)] : List Value).toArray s ({ frames := 0, cells := 0, slots := 0, locals := 0 } : Room).cells ({ frames := 0, cells := 0, slots := 0, locals := 0 } : Room).slots (xA G)) (fun w' => w' = w1) 0 0 4 [(0, .ref o), (1, .int (nI t)), (2, .int (nI (fFor t (L.take k)).length)), (3, .int (nI (k)))] [] := by
    intro d
    induction d with
    | zero =>
      intro k w1 M hkd hM hA h17 hpre hsuf hk
      have hto := fFor_len t (L.take k)
      rw [List.length_take] at hto
      have hall : L.take k = L := List.take_of_length_le (by omega)
      refine x_iload_n Γ dX3_forgets_4 rfl rfl ?_
      refine x_aload_n Γ dX3_forgets_5 rfl rfl ?_
      refine x_getf (v := .int (nI L.length)) Γ kl4 17 (fun w9 e9 => by rw [e9]; exact ⟨_, _, hM.1, by rw [← h17]; rfl⟩) (by decide) k_595 (Or.inl rfl) dX3_forgets_6 ?_
      refine x_icmp_ge (tgt := 43) Γ dX3_forgets_9 (by decide) (fun c9 => ?_) (fun c9 => absurd (nI_le (by omega) (by omega)) c9)
      refine x_aload_n Γ dX3_forgets_43 rfl rfl ?_
      refine x_iload_n Γ dX3_forgets_44 rfl rfl ?_
      refine x_putf (P' := fun w2 => w2 = xu w1 o (10, .inr (4, (mFs ad (fun j => M j 0)).set 17 (.int (nI (fFor t (L.take k)).length))))) Γ kl4 17 (fun w9 e9 => by rw [e9]; exact ⟨_, _, hM.1, Nat.le_of_ble_eq_true rfl, rfl⟩) (by decide) k_595 (Or.inl rfl) rfl rfl rfl dX3_forgets_45 ?_
      have hM2 := MdlAt.put hM (j := 17) (x := nI (fFor t (L.take k)).length) rfl rfl
      refine x_pin (fun w2 hw2 => ?_)
      have hk2 : KpM w w2 := by rw [hw2]; exact hk.set hM.1 (by omega)
      rw [← hw2] at hM2
      clear hw2
      refine x_aload_n Γ dX3_forgets_48 rfl rfl ?_
      refine x_getf Γ kl4 15 (fun w9 e9 => by rw [e9]; exact ⟨_, _, hM2.1, rfl⟩) (by decide) k_593 (Or.inl rfl) dX3_forgets_49 ?_
      refine x_iload_n Γ dX3_forgets_52 rfl rfl ?_
      refine x_iconst (v := (-1)) Γ dX3_forgets_53 (by decide) ?_
      refine x_iast (P' := fun w3 => w3 = xu w2 (ad 15) (20 + 15, .inl (G.2 1, mlen 15, .inl (upd (mU M 17 0 (nI (fFor t (L.take k)).length) 15) t (-1))))) (N := mlen 15) (f := mU M 17 0 (nI (fFor t (L.take k)).length) 15) Γ (fun w9 e9 => by rw [e9]; refine ⟨_, hM2.2 15 rfl, ?_⟩; rw [nI_clamp (by omega)]) (vp_in_nI (by show t < 24; omega) (by decide)) dX3_forgets_54 ?_
      have hM3 := MdlAt.ast hM2 (j := 15) (i := t) (x := -1) rfl
      refine x_vret Γ rfl (fun w3 hw3 => ?_) ⟨Nat.le_of_ble_eq_true rfl, Nat.le_of_ble_eq_true rfl⟩ dX3_forgets_55
      rw [← hw3] at hM3
      refine ⟨⟨_, hM3, fun j h1 h2 => ?_, ?_, fun i q hq => ?_⟩, by rw [hw3]; exact hk2.set (hM2.2 15 rfl) (by omega)⟩
      · by_cases hj : j = 15
        · subst hj; rw [mU_row, mU_row, mU_j (by decide), hA 15 h1 h2]
        · rw [mU_j hj, mU_j hj, mU_j h2, hA j h1 h2]
      · rw [mU_j (by decide), mU_eq, hall]
      · rw [mU_j (by decide), mU_j (by decide)]; exact hpre i q (by rw [hall]; exact hq)
    | succ d ih =>
      intro k w1 M hkd hM hA h17 hpre hsuf hk
      have hto := fFor_len t (L.take k)
      rw [List.length_take] at hto
      have hkl : k < L.length := by omega
      obtain ⟨q, hq⟩ : ∃ q, L[k]? = some q := ⟨L[k], List.getElem?_eq_getElem hkl⟩
      have hq24 : q < 24 := hL q (List.mem_of_getElem? hq)
      have hnext : ∀ w1 M to', MdlAt G w1 o ad M → (∀ j, j ≠ 16 → j ≠ 17 → M j = A j) → M 17 0 = nI L.length → (∀ i q, (fFor t (L.take (k + 1)))[i]? = some q → M 16 i = nI q) → (∀ i q, k + 1 ≤ i → L[i]? = some q → M 16 i = nI q) → KpM w w1 → (fFor t (L.take (k + 1))).length = to' → xJ p l e ({ frames := 0, cells := 0, slots := 0, locals := 0 } : Room) s m ([.ref o, .int (nI t)] : List Value).toArray below meth c G 4 (MQ below (xQ G embV (fun _ w' => mP G o ad (mU A 15 t (-1)) (fFor t L) w w')) ([.ref o, .int (nI t)] : List Value).toArray s ({ frames := 0, cells := 0, slots := 0, locals := 0 } : Room).cells ({ frames := 0, cells := 0, slots := 0, locals := 0 } : Room).slots (xA G)) (fun w' => w' = w1) 0 0 37 [(0, .ref o), (1, .int (nI t)), (2, .int (nI to')), (3, .int (nI (k)))] [] := by
        intro w1 M to' hM hA h17 hpre hsuf hk hto'
        refine x_iinc (v := _ + 1) Γ dX3_forgets_37 rfl rfl rfl (by decide) ?_
        rw [nI_1]
        refine x_goto (tgt := 4) Γ dX3_forgets_40 (by decide) ?_
        refine x_lv [0, 1, 2, 3] rfl ?_
        rw [← hto']
        exact ih (k + 1) w1 M (by omega) hM hA h17 hpre hsuf hk
      refine x_iload_n Γ dX3_forgets_4 rfl rfl ?_
      refine x_aload_n Γ dX3_forgets_5 rfl rfl ?_
      refine x_getf (v := .int (nI L.length)) Γ kl4 17 (fun w9 e9 => by rw [e9]; exact ⟨_, _, hM.1, by rw [← h17]; rfl⟩) (by decide) k_595 (Or.inl rfl) dX3_forgets_6 ?_
      refine x_icmp_ge (tgt := 43) Γ dX3_forgets_9 (by decide) (fun c9 => absurd c9 (nI_ge (by omega) (by omega))) (fun c9 => ?_)
      refine x_aload_n Γ dX3_forgets_12 rfl rfl ?_
      refine x_getf Γ kl4 16 (fun w9 e9 => by rw [e9]; exact ⟨_, _, hM.1, rfl⟩) (by decide) k_594 (Or.inl rfl) dX3_forgets_13 ?_
      refine x_iload_n Γ dX3_forgets_16 rfl rfl ?_
      refine x_iald (N := 24) (f := M 16) (x := nI q) Γ (xv_arr (hM.2 16 rfl)) (vp_in_nI (by omega) (by omega)) (by rw [nI_clamp (by omega)]; exact hsuf k q (Nat.le_refl k) hq) dX3_forgets_17 ?_
      refine x_iload_n Γ dX3_forgets_18 rfl rfl ?_
      refine x_icmp_eq (tgt := 37) Γ dX3_forgets_19 (by decide) (fun c19 => ?_) (fun c19 => ?_)
      · have hqt : q = t := (nI_eq (by omega) (by omega)).mp c19
        refine x_lv [0, 1, 2, 3] rfl ?_
        exact hnext w1 M _ hM hA h17 (by rw [fFor_eq hq hqt]; exact hpre) (fun i q2 hi => hsuf i q2 (by omega)) hk (by rw [fFor_eq hq hqt])
      · have hqt : ¬ q = t := fun z => c19 (by rw [z])
        refine x_aload_n Γ dX3_forgets_22 rfl rfl ?_
        refine x_getf Γ kl4 16 (fun w9 e9 => by rw [e9]; exact ⟨_, _, hM.1, rfl⟩) (by decide) k_594 (Or.inl rfl) dX3_forgets_23 ?_
        refine x_iload_n Γ dX3_forgets_26 rfl rfl ?_
        refine x_aload_n Γ dX3_forgets_27 rfl rfl ?_
        refine x_getf Γ kl4 16 (fun w9 e9 => by rw [e9]; exact ⟨_, _, hM.1, rfl⟩) (by decide) k_594 (Or.inl rfl) dX3_forgets_28 ?_
        refine x_iload_n Γ dX3_forgets_31 rfl rfl ?_
        refine x_iald (N := 24) (f := M 16) (x := nI q) Γ (xv_arr (hM.2 16 rfl)) (vp_in_nI (by omega) (by omega)) (by rw [nI_clamp (by omega)]; exact hsuf k q (Nat.le_refl k) hq) dX3_forgets_32 ?_
        refine x_iast (P' := fun w3 => w3 = xu w1 (ad 16) (20 + 16, .inl (G.2 1, mlen 16, .inl (upd (M 16) (fFor t (L.take k)).length (nI q))))) (N := mlen 16) (f := M 16) Γ (fun w9 e9 => by rw [e9]; refine ⟨_, hM.2 16 rfl, ?_⟩; rw [nI_clamp (by omega)]) (vp_in_nI (by show _ < 24; omega) (by decide)) dX3_forgets_33 ?_
        have hM3 := MdlAt.ast hM (j := 16) (i := (fFor t (L.take k)).length) (x := nI q) rfl
        refine x_pin (fun w2 hw2 => ?_)
        rw [← hw2] at hM3
        refine x_iinc (v := _ + 1) Γ dX3_forgets_34 rfl rfl rfl (by decide) ?_
        rw [nI_1]
        refine x_lv [0, 1, 2, 3] rfl ?_
        refine hnext w2 _ _ hM3 (fun j h1 h2 => by rw [mU_j h1]; exact hA j h1 h2) (by rw [mU_j (by decide)]; exact h17) (fun i q2 hi => ?_) (fun i q2 hi hq2 => ?_) (by rw [hw2]; exact hk.set (hM.2 16 rfl) (by omega)) (by rw [fFor_ne hq hqt, List.length_append]; rfl)
        · rw [fFor_ne hq hqt] at hi
          by_cases hil : i < (fFor t (L.take k)).length
          · rw [List.getElem?_append_left hil] at hi
            rw [mU_i (by omega)]
            exact hpre i q2 hi
          · rw [List.getElem?_append_right (by omega)] at hi
            have hie : i - (fFor t (L.take k)).length = 0 := by
              have := (List.getElem?_eq_some_iff.mp hi).1
              simp only [List.length_cons, List.length_nil] at this
              omega
            rw [hie] at hi
            have hqq : q = q2 := by simpa using hi
            rw [show i = (fFor t (L.take k)).length by omega, mU_eq, hqq]
        · rw [mU_i (by omega)]
          exact hsuf i q2 (by omega) hq2
  refine x_iconst (v := 0) Γ dX3_forgets_0 (by decide) ?_
  refine x_istore_n Γ dX3_forgets_1 rfl rfl (by decide) ?_
  refine x_iconst (v := 0) Γ dX3_forgets_2 (by decide) ?_
  refine x_istore_n Γ dX3_forgets_3 rfl rfl (by decide) ?_
  refine x_lv [0, 1, 2, 3] rfl ?_
  exact loop L.length 0 w M0 (by omega) hM0 hA0 h170 (fun i q hi => by rw [List.take_zero] at hi; simp [fFor] at hi) (fun i q _ hi => h160 i q hi) KpM.rf
end XM4

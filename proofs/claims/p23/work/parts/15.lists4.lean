section XJ4
variable {l : Launch} {G : xG}
set_option maxRecDepth 100000 in
theorem t_fastRemove {w : xW} {a el col len cap i : Nat} {mc : Int32} {g : Nat → Option Nat} {f : Nat → Nat} (ha : w a = some (col, .inr (0, [.int mc, .ref el, .int (nI len)]))) (he : w el = some (col + 2, .inl (G.2 3, cap, .inr (.inr (.inr (.inr g)))))) (h1 : len ≤ cap) (h2 : 10 ≤ cap) (h3 : cap ≤ 900) (h4 : ∀ j, j < len → g j = some (f j)) (hel : ∀ j, j < len → ∃ k1 fs, w (f j) = some (k1, .inr (2, fs)) ∧ k1 ≠ col ∧ k1 ≠ col + 2) (hi : i < len) : xMet l G yJx4a65c_fastRemove_b59b0 cJx4a65c_fastRemove_b59b0 4 none ({ frames := 1, cells := 0, slots := 0, locals := 45 } : Room) [.ref a, .ref el, .int (nI i)] w embV (fun _ w' => LstAt G w' a col (len - 1) (fun j => if j < i then f j else f (j + 1)) ∧ KpL col w w') := by
  refine xMet_of (by decide) (Nat.le_of_ble_eq_true rfl) ?_
  intro p e s m below meth c Γ hnm
  have hs1 : nI len - 1 = nI (len - 1) := by
    have h9 := nI_pred (len - 1)
    rw [show len - 1 + 1 = len by omega] at h9
    exact h9
  have tail : ∀ (w2 : xW) (g2 : Nat → Option Nat), w2 a = some (col, .inr (0, [.int (mc + 1), .ref el, .int (nI len)])) → w2 el = some (col + 2, .inl (G.2 3, cap, .inr (.inr (.inr (.inr g2))))) → (∀ j, j < len - 1 → g2 j = some (if j < i then f j else f (j + 1))) → KpL col w w2 → xJ p l e ({ frames := 1, cells := 0, slots := 0, locals := 45 } : Room) s m ([.ref a, .ref el, .int (nI i)] : List Value).toArray below meth c G 4 (MQ below (xQ G embV (fun _ w' => LstAt G w' a col (len - 1) (fun j => if j < i then f j else f (j + 1)) ∧ KpL col w w')) ([.ref a, .ref el, .int (nI i)] : List Value).toArray s ({ frames := 1, cells := 0, slots := 0, locals := 45 } : Room).cells ({ frames := 1, cells := 0, slots := 0, locals := 45 } : Room).slots (xA G)) (fun w9 => w9 = w2) 0 0 34 [(0, .ref a), (1, .ref el), (2, .int (nI i)), (3, .int (nI (len - 1)))] [] := by
    intro w2 g2 ha2 he2 h5 hk2
    refine x_aload_n Γ dJx4a65c_fastRemove_b59b0_34 rfl rfl ?_
    refine x_aload_n Γ dJx4a65c_fastRemove_b59b0_35 rfl rfl ?_
    refine x_iload_n Γ dJx4a65c_fastRemove_b59b0_36 rfl rfl ?_
    refine x_dup_x1 Γ dJx4a65c_fastRemove_b59b0_37 rfl rfl ?_
    refine x_putf (P' := fun w3 => w3 = xu w2 a (col, .inr (0, [.int (mc + 1), .ref el, .int (nI (len - 1))]))) Γ kl0 2 (fun w9 e9 => by rw [e9]; exact ⟨_, _, ha2, Nat.le_of_ble_eq_true rfl, rfl⟩) (by decide) k_43 (Or.inl rfl) rfl rfl rfl dJx4a65c_fastRemove_b59b0_38 ?_
    refine x_pin (fun w3 hw3 => ?_)
    have he3 : w3 el = some (col + 2, .inl (G.2 3, cap, .inr (.inr (.inr (.inr g2))))) := by rw [hw3]; exact xu_far he2 ha2 (by omega)
    refine x_null Γ dJx4a65c_fastRemove_b59b0_41 ?_
    refine x_aastN (P' := fun w4 => w4 = xu w3 el (col + 2, .inl (G.2 3, cap, .inr (.inr (.inr (.inr (va_up g2 (nI (len - 1)).toNatClampNeg none))))))) Γ (fun w9 e9 => by rw [e9]; exact ⟨_, he3, rfl⟩) (vp_in_nI (by omega) (by omega)) dJx4a65c_fastRemove_b59b0_42 ?_
    refine x_vret Γ rfl (fun w9 e9 => ?_) ⟨Nat.le_of_ble_eq_true rfl, Nat.le_of_ble_eq_true rfl⟩ dJx4a65c_fastRemove_b59b0_43
    subst e9
    have ha3 : w3 a = some (col, .inr (0, [.int (mc + 1), .ref el, .int (nI (len - 1))])) := by rw [hw3]; exact xu_eq _ _ _
    refine ⟨⟨mc + 1, el, xu_far ha3 he3 (by omega), by omega, Or.inr ⟨cap, _, xu_eq _ _ _, by omega, h2, h3, fun j hj => ?_⟩⟩, KpL.set (by rw [hw3]; exact hk2.set ha2 (Or.inl rfl)) he3 (Or.inr rfl)⟩
    rw [nI_clamp (by omega), va_up_ne _ _ (by omega)]
    exact h5 j hj
  refine x_aload_n Γ dJx4a65c_fastRemove_b59b0_0 rfl rfl ?_
  refine x_dup Γ dJx4a65c_fastRemove_b59b0_1 rfl ?_
  refine x_getf Γ kl0 0 (xv_get ha rfl) (by decide) k_45 (Or.inr k_46) dJx4a65c_fastRemove_b59b0_2 ?_
  refine x_iconst (v := 1) Γ dJx4a65c_fastRemove_b59b0_5 (by decide) ?_
  refine x_iadd Γ dJx4a65c_fastRemove_b59b0_6 ?_
  refine x_putf (P' := fun w1 => w1 = xu w a (col, .inr (0, [.int (mc + 1), .ref el, .int (nI len)]))) Γ kl0 0 (fun w9 e9 => by rw [e9]; exact ⟨_, _, ha, Nat.le_of_ble_eq_true rfl, rfl⟩) (by decide) k_45 (Or.inr k_46) rfl rfl rfl dJx4a65c_fastRemove_b59b0_7 ?_
  refine x_pin (fun w1 hw1 => ?_)
  have ha1 : w1 a = some (col, .inr (0, [.int (mc + 1), .ref el, .int (nI len)])) := by rw [hw1]; exact xu_eq _ _ _
  have he1 : w1 el = some (col + 2, .inl (G.2 3, cap, .inr (.inr (.inr (.inr g))))) := by rw [hw1]; exact xu_far he ha (by omega)
  have hk1 : KpL col w w1 := by rw [hw1]; exact KpL.rf.set ha (Or.inl rfl)
  refine x_aload_n Γ dJx4a65c_fastRemove_b59b0_10 rfl rfl ?_
  refine x_getf Γ kl0 2 (xv_get ha1 rfl) (by decide) k_43 (Or.inl rfl) dJx4a65c_fastRemove_b59b0_11 ?_
  refine x_iconst (v := 1) Γ dJx4a65c_fastRemove_b59b0_14 (by decide) ?_
  refine x_isub Γ dJx4a65c_fastRemove_b59b0_15 ?_
  rw [hs1]
  refine x_dup Γ dJx4a65c_fastRemove_b59b0_16 rfl ?_
  refine x_istore_n Γ dJx4a65c_fastRemove_b59b0_17 rfl rfl (by decide) ?_
  refine x_iload_n Γ dJx4a65c_fastRemove_b59b0_18 rfl rfl ?_
  refine x_icmp_le (tgt := 34) Γ dJx4a65c_fastRemove_b59b0_19 (by decide) (fun c19 => ?_) (fun c19 => ?_)
  · have h9 : len - 1 ≤ i := (nI_leI (by omega) (by omega)).mp c19
    refine x_lv [0, 1, 2, 3] rfl ?_
    exact tail w1 g ha1 he1 (fun j hj => by rw [if_pos (by omega)]; exact h4 j (by omega)) hk1
  · have h9 : ¬ len - 1 ≤ i := fun q => c19 ((nI_leI (by omega) (by omega)).mpr q)
    refine x_aload_n Γ dJx4a65c_fastRemove_b59b0_22 rfl rfl ?_
    refine x_iload_n Γ dJx4a65c_fastRemove_b59b0_23 rfl rfl ?_
    refine x_iconst (v := 1) Γ dJx4a65c_fastRemove_b59b0_24 (by decide) ?_
    refine x_iadd Γ dJx4a65c_fastRemove_b59b0_25 ?_
    rw [nI_1]
    refine x_aload_n Γ dJx4a65c_fastRemove_b59b0_26 rfl rfl ?_
    refine x_iload_n Γ dJx4a65c_fastRemove_b59b0_27 rfl rfl ?_
    refine x_iload_n Γ dJx4a65c_fastRemove_b59b0_28 rfl rfl ?_
    refine x_iload_n Γ dJx4a65c_fastRemove_b59b0_29 rfl rfl ?_
    refine x_isub Γ dJx4a65c_fastRemove_b59b0_30 ?_
    rw [pk_sub (by omega)]
    refine x_copy (P' := fun w2 => w2 = xu w1 el (col + 2, .inl (G.2 3, cap, .inr (.inr (.inr (.inr (va_cpy g g (nI (i + 1)).toNatClampNeg (nI i).toNatClampNeg (nI (len - 1 - i)).toNatClampNeg))))))) Γ k_418 k_361 k_360 k_18 (fun w9 e9 => by rw [e9]; exact ⟨_, _, he1, he1, rfl⟩) (nI_pos (by omega)) (nI_pos (by omega)) (nI_pos (by omega)) (by rw [nI_clamp (by omega), nI_clamp (by omega)]; omega) (by rw [nI_clamp (by omega), nI_clamp (by omega)]; omega) (fun w9 e9 j hj y hy => ?_) ⟨Nat.le_of_ble_eq_true rfl, Nat.le_of_ble_eq_true rfl⟩ dJx4a65c_fastRemove_b59b0_31 ?_
    · rw [nI_clamp (by omega)] at hy hj
      rw [h4 (i + 1 + j) (by omega)] at hy
      cases hy
      obtain ⟨k1, fs, h8, h7⟩ := hel (i + 1 + j) (by omega)
      rw [e9]
      exact ⟨k1, 2, fs, hk1 _ _ _ h8 h7.1 h7.2, _, rfl, xK_cast⟩
    refine x_pin (fun w2 hw2 => ?_)
    rw [nI_clamp (by omega), nI_clamp (by omega), nI_clamp (by omega)] at hw2
    refine x_lv [0, 1, 2, 3] rfl ?_
    refine tail w2 _ (by rw [hw2]; exact xu_far ha1 he1 (by omega)) (by rw [hw2]; exact xu_eq _ _ _) (fun j hj => ?_) (by rw [hw2]; exact hk1.set he1 (Or.inr rfl))
    by_cases hji : j < i
    · rw [pk_cpy_out (Or.inl hji), if_pos hji]; exact h4 j (by omega)
    · rw [pk_cpy_in (by omega) (by omega), if_neg hji, show i + 1 + (j - i) = j + 1 by omega]; exact h4 (j + 1) (by omega)
set_option maxRecDepth 100000 in
theorem t_remove {w : xW} {a col len i : Nat} {f : Nat → Nat} (h : LstAt G w a col len f) (hel : ∀ j, j < len → ∃ k1 fs, w (f j) = some (k1, .inr (2, fs)) ∧ k1 ≠ col ∧ k1 ≠ col + 2) (hi : i < len) : xMet l G yJx4a65c_remove_915e3 cJx4a65c_remove_915e3 4 (some (.object "java/lang/Object")) ({ frames := 2, cells := 0, slots := 0, locals := 70 } : Room) [.ref a, .int (nI i)] w embA (fun r w' => r = f i ∧ LstAt G w' a col (len - 1) (fun j => if j < i then f j else f (j + 1)) ∧ KpL col w w') := by
  obtain ⟨mc, el, ha, h900, h | ⟨cap, g, he, h1, h2, h3, h4⟩⟩ := h
  · omega
  · refine xMet_of (by decide) (Nat.le_of_ble_eq_true rfl) ?_
    intro p e s m below meth c Γ hnm
    refine x_iload_n Γ dJx4a65c_remove_915e3_0 rfl rfl ?_
    refine x_aload_n Γ dJx4a65c_remove_915e3_1 rfl rfl ?_
    refine x_getf Γ kl0 2 (xv_get ha rfl) (by decide) k_43 (Or.inl rfl) dJx4a65c_remove_915e3_2 ?_
    refine x_invS (emb := embI) (rm := ({ frames := 1, cells := 0, slots := 0, locals := 22 } : Room)) Γ [.int (nI i), .int (nI len)] (fun w r w' => r = nI i ∧ w' = w) rfl (fun w _ => t_J15 hi (by omega)) k_212 k_11 k_210 k_211 hd_J15_checkIndex_7cf53 ⟨Nat.le_of_ble_eq_true rfl, Nat.le_of_ble_eq_true rfl⟩ ⟨Nat.le_of_ble_eq_true rfl, Nat.le_of_ble_eq_true rfl⟩ (Nat.le_of_ble_eq_true rfl) dJx4a65c_remove_915e3_5 (fun r => ?_)
    refine x_then (P2 := fun w1 => w1 = w) (φ := r = nI i) (fun w2 h2 => by obtain ⟨w3, h3, h4, h5⟩ := h2; subst h5; exact ⟨h4, h3⟩) (fun e1 => ?_)
    subst e1
    refine x_pop Γ dJx4a65c_remove_915e3_8 rfl ?_
    refine x_aload_n Γ dJx4a65c_remove_915e3_9 rfl rfl ?_
    refine x_getf Γ kl0 1 (xv_get ha rfl) (by decide) k_42 (Or.inl rfl) dJx4a65c_remove_915e3_10 ?_
    refine x_astore_n Γ dJx4a65c_remove_915e3_13 rfl rfl (by decide) ?_
    refine x_aload_n Γ dJx4a65c_remove_915e3_14 rfl rfl ?_
    refine x_iload_n Γ dJx4a65c_remove_915e3_15 rfl rfl ?_
    refine x_aald Γ (xv_arr he) (vp_in_nI (by omega) (by omega)) (b := f i) (by rw [nI_clamp (by omega)]; exact h4 i hi) dJx4a65c_remove_915e3_16 ?_
    refine x_astore_n Γ dJx4a65c_remove_915e3_17 rfl rfl (by decide) ?_
    refine x_aload_n Γ dJx4a65c_remove_915e3_18 rfl rfl ?_
    refine x_aload_n Γ dJx4a65c_remove_915e3_19 rfl rfl ?_
    refine x_iload_n Γ dJx4a65c_remove_915e3_20 rfl rfl ?_
    refine x_invV (emb := embV) (ci := 0) (rm := ({ frames := 1, cells := 0, slots := 0, locals := 45 } : Room)) Γ [.ref el, .int (nI i)] (fun w _ w' => LstAt G w' a col (len - 1) (fun j => if j < i then f j else f (j + 1)) ∧ KpL col w w') rfl (fun w1 e1 => by subst e1; exact t_fastRemove ha he h1 h2 h3 h4 hel hi) (xv_obj ha) rfl k_417 k_4 k_414 k_416 s_11 hd_Jx4a65c_fastRemove_b59b0 ⟨Nat.le_of_ble_eq_true rfl, Nat.le_of_ble_eq_true rfl⟩ ⟨Nat.le_of_ble_eq_true rfl, Nat.le_of_ble_eq_true rfl⟩ (Nat.le_of_ble_eq_true rfl) dJx4a65c_remove_915e3_21 (fun _ => ?_)
    refine x_weak (P' := fun w' => LstAt G w' a col (len - 1) (fun j => if j < i then f j else f (j + 1)) ∧ KpL col w w') (fun w2 h2 => by obtain ⟨w3, h3, h4⟩ := h2; subst h3; exact h4) ?_
    refine x_aload_n Γ dJx4a65c_remove_915e3_24 rfl rfl ?_
    exact x_aret Γ rfl (Or.inl ⟨_, rfl⟩) (fun w2 e2 => ⟨rfl, e2⟩) ⟨Nat.le_of_ble_eq_true rfl, Nat.le_of_ble_eq_true rfl⟩ dJx4a65c_remove_915e3_25
end XJ4

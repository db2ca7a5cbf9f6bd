section XJ3
variable {l : Launch} {G : xG}
set_option maxRecDepth 100000 in
theorem t_grow1 {w : xW} {a el col len : Nat} {mc : Int32} {f : Nat → Nat} (ha : w a = some (col, .inr (0, [.int mc, .ref el, .int (nI len)]))) (hst : (len = 0 ∧ el = G.2 4) ∨ ∃ g : Nat → Option Nat, w el = some (col + 2, .inl (G.2 3, len, .inr (.inr (.inr (.inr g))))) ∧ 10 ≤ len ∧ len ≤ 24 ∧ ∀ i, i < len → g i = some (f i)) (hel : ∀ i, i < len → ∃ k1 fs, w (f i) = some (k1, .inr (2, fs))) : xMet l G yJx4a65c_grow_92f84 cJx4a65c_grow_92f84 4 (some (.array (.object "java/lang/Object"))) ({ frames := 3, cells := 1, slots := 40, locals := 125 } : Room) [.ref a, .int (nI (len + 1))] w embA (fun q w' => (∃ (cap : Nat) (g' : Nat → Option Nat), w' a = some (col, .inr (0, [.int mc, .ref q, .int (nI len)])) ∧ w' q = some (col + 2, .inl (G.2 3, cap, .inr (.inr (.inr (.inr g'))))) ∧ len < cap ∧ 10 ≤ cap ∧ cap ≤ 40 ∧ ∀ i, i < len → g' i = some (f i)) ∧ KpL col w w') := by
  rcases hst with ⟨h0, h1⟩ | ⟨g, he, h1, h2, h3⟩
  · subst h0; subst h1
    refine xMet_of (by decide) (Nat.le_of_ble_eq_true rfl) ?_
    intro p e s m below meth c Γ hnm
    refine x_aload_n Γ dJx4a65c_grow_92f84_0 rfl rfl ?_
    refine x_getf Γ kl0 1 (xv_get ha rfl) (by decide) k_42 (Or.inl rfl) dJx4a65c_grow_92f84_1 ?_
    refine x_slen0 Γ dJx4a65c_grow_92f84_4 ?_
    refine x_istore_n Γ dJx4a65c_grow_92f84_5 rfl rfl (by decide) ?_
    refine x_iload_n Γ dJx4a65c_grow_92f84_6 rfl rfl ?_
    refine x_if_gt (tgt := 20) Γ dJx4a65c_grow_92f84_7 (by decide) (fun c7 => absurd c7 (by decide)) (fun c7 => ?_)
    refine x_aload_n Γ dJx4a65c_grow_92f84_10 rfl rfl ?_
    refine x_getf Γ kl0 1 (xv_get ha rfl) (by decide) k_42 (Or.inl rfl) dJx4a65c_grow_92f84_11 ?_
    refine x_gets Γ dJx4a65c_grow_92f84_14 ?_
    refine x_acmp_eq (tgt := 45) Γ dJx4a65c_grow_92f84_17 (by decide) (fun _ => ?_) (fun c => absurd rfl c)
    refine x_aload_n Γ dJx4a65c_grow_92f84_45 rfl rfl ?_
    refine x_bipush (v := 10) Γ dJx4a65c_grow_92f84_46 (by decide) ?_
    refine x_iload_n Γ dJx4a65c_grow_92f84_48 rfl rfl ?_
    refine x_max Γ k_362 k_329 k_330 k_17 ⟨Nat.le_of_ble_eq_true rfl, Nat.le_of_ble_eq_true rfl, Nat.le_of_ble_eq_true rfl, Nat.le_of_ble_eq_true rfl⟩ dJx4a65c_grow_92f84_49 ?_
    rw [show (if (10 : Int32) < nI (0 + 1) then nI (0 + 1) else 10) = nI 10 from by decide]
    refine x_newA Γ (col + 2) rfl (by omega) k_363 (F := fun q w1 => w q = none ∧ w1 = xu w q (col + 2, .inl (G.2 3, 10, .inr (.inr (.inr (.inr (fun _ => none))))))) (fun w1 q e1 h0 => by subst e1; exact ⟨h0, rfl⟩) ⟨Nat.le_of_ble_eq_true rfl, Nat.le_of_ble_eq_true rfl⟩ dJx4a65c_grow_92f84_52 (fun q => ?_)
    refine x_pin (fun w1 hw1 => ?_)
    obtain ⟨hq, hw1⟩ := hw1
    have ha1 : w1 a = some (col, .inr (0, [.int mc, .ref (G.2 4), .int (nI 0)])) := by rw [hw1]; exact xu_new ha hq
    have hq1 : w1 q = some (col + 2, .inl (G.2 3, 10, .inr (.inr (.inr (.inr (fun _ => none)))))) := by rw [hw1]; exact xu_eq _ _ _
    refine x_dup_x1 Γ dJx4a65c_grow_92f84_55 rfl rfl ?_
    refine x_putf (P' := fun w2 => w2 = xu w1 a (col, .inr (0, [.int mc, .ref q, .int (nI 0)]))) Γ kl0 1 (fun w9 e9 => by rw [e9]; exact ⟨_, _, ha1, Nat.le_of_ble_eq_true rfl, rfl⟩) (by decide) k_42 (Or.inl rfl) rfl rfl rfl dJx4a65c_grow_92f84_56 ?_
    refine x_aret Γ rfl (Or.inr ⟨_, rfl⟩) (fun w9 e9 => ?_) ⟨Nat.le_of_ble_eq_true rfl, Nat.le_of_ble_eq_true rfl⟩ dJx4a65c_grow_92f84_59
    subst e9
    exact ⟨⟨10, _, xu_eq _ _ _, xu_far hq1 ha1 (by omega), by omega, by omega, by omega, fun i hi => absurd hi (by omega)⟩, KpL.set (by rw [hw1]; exact KpL.rf.new hq) ha1 (Or.inl rfl)⟩
  · have hs1 : nI (len + 1) - nI len = nI 1 := by rw [pk_sub (by omega), Nat.add_sub_cancel_left]
    have hs2 : nI len >>> ((1 : Int32) &&& 31) = nI (len / 2) := by
      have h9 := pk_shrN (n := len) (by omega) ((1 : Int32) &&& 31) 1 (by decide)
      rw [Nat.pow_one] at h9
      exact h9
    have hN : 0 + (len + max 1 (len / 2)) ≤ 40 := by omega
    refine xMet_of (by decide) (Nat.le_of_ble_eq_true rfl) ?_
    intro p e s m below meth c Γ hnm
    refine x_aload_n Γ dJx4a65c_grow_92f84_0 rfl rfl ?_
    refine x_getf Γ kl0 1 (xv_get ha rfl) (by decide) k_42 (Or.inl rfl) dJx4a65c_grow_92f84_1 ?_
    refine x_alen Γ (N := len) (fun w2 e2 => by rw [e2]; exact ⟨_, _, Or.inr (Or.inr he)⟩) dJx4a65c_grow_92f84_4 ?_
    refine x_istore_n Γ dJx4a65c_grow_92f84_5 rfl rfl (by decide) ?_
    refine x_iload_n Γ dJx4a65c_grow_92f84_6 rfl rfl ?_
    refine x_if_gt (tgt := 20) Γ dJx4a65c_grow_92f84_7 (by decide) (fun c7 => ?_) (fun c7 => absurd (by rw [← nI_0]; exact nI_lt (by omega) (by omega)) c7)
    refine x_iload_n Γ dJx4a65c_grow_92f84_20 rfl rfl ?_
    refine x_iload_n Γ dJx4a65c_grow_92f84_21 rfl rfl ?_
    refine x_iload_n Γ dJx4a65c_grow_92f84_22 rfl rfl ?_
    refine x_isub Γ dJx4a65c_grow_92f84_23 ?_
    rw [hs1]
    refine x_iload_n Γ dJx4a65c_grow_92f84_24 rfl rfl ?_
    refine x_iconst (v := 1) Γ dJx4a65c_grow_92f84_25 (by decide) ?_
    refine x_ishr Γ dJx4a65c_grow_92f84_26 ?_
    rw [hs2]
    refine x_invS (emb := embI) (rm := ({ frames := 1, cells := 0, slots := 0, locals := 30 } : Room)) Γ [.int (nI len), .int (nI 1), .int (nI (len / 2))] (fun w r w' => r = nI (len + max 1 (len / 2)) ∧ w' = w) rfl (fun w _ => t_newLength (by omega) (by omega)) k_327 k_16 k_325 k_326 hd_J8_newLength_cabcc ⟨Nat.le_of_ble_eq_true rfl, Nat.le_of_ble_eq_true rfl⟩ ⟨Nat.le_of_ble_eq_true rfl, Nat.le_of_ble_eq_true rfl⟩ (Nat.le_of_ble_eq_true rfl) dJx4a65c_grow_92f84_27 (fun r => ?_)
    refine x_then (P2 := fun w1 => w1 = w) (φ := r = nI (len + max 1 (len / 2))) (fun w2 h2 => by obtain ⟨w3, h3, h4, h5⟩ := h2; subst h5; exact ⟨h4, h3⟩) (fun e1 => ?_)
    subst e1
    refine x_istore_n Γ dJx4a65c_grow_92f84_30 rfl rfl (by decide) ?_
    refine x_aload_n Γ dJx4a65c_grow_92f84_31 rfl rfl ?_
    refine x_aload_n Γ dJx4a65c_grow_92f84_32 rfl rfl ?_
    refine x_getf Γ kl0 1 (xv_get ha rfl) (by decide) k_42 (Or.inl rfl) dJx4a65c_grow_92f84_33 ?_
    refine x_iload_n Γ dJx4a65c_grow_92f84_36 rfl rfl ?_
    refine x_invS (emb := embA) (rm := ({ frames := 2, cells := 1, slots := (len + max 1 (len / 2)), locals := 90 } : Room)) Γ [.ref el, .int (nI (len + max 1 (len / 2)))] (fun w q w' => w q = none ∧ ∃ g' : Nat → Option Nat, w' = xu w q (col + 2, .inl (G.2 3, len + max 1 (len / 2), .inr (.inr (.inr (.inr g'))))) ∧ ∀ i, i < len → g' i = g i) rfl (fun w1 e1 => by subst e1; exact t_copyOf he (by omega) (by omega) (fun i y hi hy => by rw [h3 i hi] at hy; cases hy; exact hel i hi)) k_337 k_5 k_335 k_336 hd_J7_copyOf_1904c ⟨Nat.le_of_ble_eq_true rfl, Nat.le_of_ble_eq_true rfl⟩ ⟨Nat.le_of_ble_eq_true rfl, hN⟩ (Nat.le_of_ble_eq_true rfl) dJx4a65c_grow_92f84_37 (fun q => ?_)
    refine x_pin (fun w1 hw1 => ?_)
    obtain ⟨w9, h9, hq, g', hw1, hg'⟩ := hw1
    subst h9
    have ha1 : w1 a = some (col, .inr (0, [.int mc, .ref el, .int (nI len)])) := by rw [hw1]; exact xu_new ha hq
    have hq1 : w1 q = some (col + 2, .inl (G.2 3, len + max 1 (len / 2), .inr (.inr (.inr (.inr g'))))) := by rw [hw1]; exact xu_eq _ _ _
    refine x_dup_x1 Γ dJx4a65c_grow_92f84_40 rfl rfl ?_
    refine x_putf (P' := fun w2 => w2 = xu w1 a (col, .inr (0, [.int mc, .ref q, .int (nI len)]))) Γ kl0 1 (fun w9 e9 => by rw [e9]; exact ⟨_, _, ha1, Nat.le_of_ble_eq_true rfl, rfl⟩) (by decide) k_42 (Or.inl rfl) rfl rfl rfl dJx4a65c_grow_92f84_41 ?_
    refine x_aret Γ rfl (Or.inr ⟨_, rfl⟩) (fun w9 e9 => ?_) ⟨Nat.le_of_ble_eq_true rfl, hN⟩ dJx4a65c_grow_92f84_44
    subst e9
    exact ⟨⟨len + max 1 (len / 2), g', xu_eq _ _ _, xu_far hq1 ha1 (by omega), by omega, by omega, by omega, fun i hi => by rw [hg' i hi]; exact h3 i hi⟩, KpL.set (by rw [hw1]; exact KpL.rf.new hq) ha1 (Or.inl rfl)⟩
set_option maxRecDepth 100000 in
theorem t_grow0 {w : xW} {a el col len : Nat} {mc : Int32} {f : Nat → Nat} (ha : w a = some (col, .inr (0, [.int mc, .ref el, .int (nI len)]))) (hst : (len = 0 ∧ el = G.2 4) ∨ ∃ g : Nat → Option Nat, w el = some (col + 2, .inl (G.2 3, len, .inr (.inr (.inr (.inr g))))) ∧ 10 ≤ len ∧ len ≤ 24 ∧ ∀ i, i < len → g i = some (f i)) (hel : ∀ i, i < len → ∃ k1 fs, w (f i) = some (k1, .inr (2, fs))) : xMet l G yJx4a65c_grow_d5877 cJx4a65c_grow_d5877 1 (some (.array (.object "java/lang/Object"))) ({ frames := 4, cells := 1, slots := 40, locals := 150 } : Room) [.ref a] w embA (fun q w' => (∃ (cap : Nat) (g' : Nat → Option Nat), w' a = some (col, .inr (0, [.int mc, .ref q, .int (nI len)])) ∧ w' q = some (col + 2, .inl (G.2 3, cap, .inr (.inr (.inr (.inr g'))))) ∧ len < cap ∧ 10 ≤ cap ∧ cap ≤ 40 ∧ ∀ i, i < len → g' i = some (f i)) ∧ KpL col w w') := by
  refine xMet_of (by decide) (Nat.le_of_ble_eq_true rfl) ?_
  intro p e s m below meth c Γ hnm
  refine x_aload_n Γ dJx4a65c_grow_d5877_0 rfl rfl ?_
  refine x_aload_n Γ dJx4a65c_grow_d5877_1 rfl rfl ?_
  refine x_getf Γ kl0 2 (xv_get ha rfl) (by decide) k_43 (Or.inl rfl) dJx4a65c_grow_d5877_2 ?_
  refine x_iconst (v := 1) Γ dJx4a65c_grow_d5877_5 (by decide) ?_
  refine x_iadd Γ dJx4a65c_grow_d5877_6 ?_
  rw [nI_1]
  refine x_invV (emb := embA) (ci := 0) (rm := ({ frames := 3, cells := 1, slots := 40, locals := 125 } : Room)) Γ [.int (nI (len + 1))] (fun w q w' => (∃ (cap : Nat) (g' : Nat → Option Nat), w' a = some (col, .inr (0, [.int mc, .ref q, .int (nI len)])) ∧ w' q = some (col + 2, .inl (G.2 3, cap, .inr (.inr (.inr (.inr g'))))) ∧ len < cap ∧ 10 ≤ cap ∧ cap ≤ 40 ∧ ∀ i, i < len → g' i = some (f i)) ∧ KpL col w w') rfl (fun w1 e1 => by subst e1; exact t_grow1 ha hst hel) (xv_obj ha) rfl k_324 k_4 k_321 k_323 s_5 hd_Jx4a65c_grow_92f84 ⟨Nat.le_of_ble_eq_true rfl, Nat.le_of_ble_eq_true rfl⟩ ⟨Nat.le_of_ble_eq_true rfl, Nat.le_of_ble_eq_true rfl⟩ (Nat.le_of_ble_eq_true rfl) dJx4a65c_grow_d5877_7 (fun q => ?_)
  refine x_weak (P' := fun w' => (∃ (cap : Nat) (g' : Nat → Option Nat), w' a = some (col, .inr (0, [.int mc, .ref q, .int (nI len)])) ∧ w' q = some (col + 2, .inl (G.2 3, cap, .inr (.inr (.inr (.inr g'))))) ∧ len < cap ∧ 10 ≤ cap ∧ cap ≤ 40 ∧ ∀ i, i < len → g' i = some (f i)) ∧ KpL col w w') (fun w2 h2 => by obtain ⟨w3, h3, h4⟩ := h2; subst h3; exact h4) ?_
  exact x_aret Γ rfl (Or.inr ⟨_, rfl⟩) (fun w2 e2 => e2) ⟨Nat.le_of_ble_eq_true rfl, Nat.le_of_ble_eq_true rfl⟩ dJx4a65c_grow_d5877_10
set_option maxRecDepth 100000 in
theorem t_add3 {w : xW} {a x el col len kx : Nat} {fx : List Value} {mc : Int32} {f : Nat → Nat} (ha : w a = some (col, .inr (0, [.int mc, .ref el, .int (nI len)]))) (hlen : len ≤ 24) (hst : (len = 0 ∧ el = G.2 4) ∨ ∃ (cap : Nat) (g : Nat → Option Nat), w el = some (col + 2, .inl (G.2 3, cap, .inr (.inr (.inr (.inr g))))) ∧ len ≤ cap ∧ 10 ≤ cap ∧ cap ≤ 900 ∧ ∀ i, i < len → g i = some (f i)) (hel : ∀ i, i < len → ∃ k1 fs, w (f i) = some (k1, .inr (2, fs))) (hx : w x = some (kx, .inr (2, fx))) (hxc : kx ≠ col ∧ kx ≠ col + 2) : xMet l G yJx4a65c_add_72be8 cJx4a65c_add_72be8 4 none ({ frames := 5, cells := 1, slots := 40, locals := 175 } : Room) [.ref a, .ref x, .ref el, .int (nI len)] w embV (fun _ w' => LstAt G w' a col (len + 1) (fun i => if i = len then x else f i) ∧ KpL col w w') := by
  refine xMet_of (by decide) (Nat.le_of_ble_eq_true rfl) ?_
  intro p e s m below meth c Γ hnm
  have tail : ∀ (w1 : xW) (el1 cap : Nat) (g : Nat → Option Nat), w1 a = some (col, .inr (0, [.int mc, .ref el1, .int (nI len)])) → w1 el1 = some (col + 2, .inl (G.2 3, cap, .inr (.inr (.inr (.inr g))))) → len < cap → 10 ≤ cap → cap ≤ 900 → (∀ i, i < len → g i = some (f i)) → KpL col w w1 → (∃ k1 fs, w1 x = some (k1, .inr (2, fs))) → xJ p l e ({ frames := 5, cells := 1, slots := 40, locals := 175 } : Room) s m ([.ref a, .ref x, .ref el, .int (nI len)] : List Value).toArray below meth c G 4 (MQ below (xQ G embV (fun _ w' => LstAt G w' a col (len + 1) (fun i => if i = len then x else f i) ∧ KpL col w w')) ([.ref a, .ref x, .ref el, .int (nI len)] : List Value).toArray s ({ frames := 5, cells := 1, slots := 40, locals := 175 } : Room).cells ({ frames := 5, cells := 1, slots := 40, locals := 175 } : Room).slots (xA G)) (fun w2 => w2 = w1) 1 40 11 [(0, .ref a), (1, .ref x), (2, .ref el1), (3, .int (nI len))] [] := by
    intro w1 el1 cap g ha1 he1 h1 h2 h3 h4 hk1 hx1
    obtain ⟨k9, fs9, hx1⟩ := hx1
    refine x_aload_n Γ dJx4a65c_add_72be8_11 rfl rfl ?_
    refine x_iload_n Γ dJx4a65c_add_72be8_12 rfl rfl ?_
    refine x_aload_n Γ dJx4a65c_add_72be8_13 rfl rfl ?_
    refine x_aast (P' := fun w2 => w2 = xu w1 el1 (col + 2, .inl (G.2 3, cap, .inr (.inr (.inr (.inr (va_up g (nI len).toNatClampNeg (some x)))))))) Γ (fun w9 e9 => by rw [e9]; exact ⟨_, he1, rfl⟩) (fun w9 e9 => by rw [e9]; exact ⟨_, _, _, hx1, _, rfl, xK_cast⟩) (vp_in_nI h1 (by omega)) dJx4a65c_add_72be8_14 ?_
    refine x_pin (fun w2 hw2 => ?_)
    have ha2 : w2 a = some (col, .inr (0, [.int mc, .ref el1, .int (nI len)])) := by rw [hw2]; exact xu_far ha1 he1 (by omega)
    refine x_aload_n Γ dJx4a65c_add_72be8_15 rfl rfl ?_
    refine x_iload_n Γ dJx4a65c_add_72be8_16 rfl rfl ?_
    refine x_iconst (v := 1) Γ dJx4a65c_add_72be8_17 (by decide) ?_
    refine x_iadd Γ dJx4a65c_add_72be8_18 ?_
    rw [nI_1]
    refine x_putf (P' := fun w3 => w3 = xu w2 a (col, .inr (0, [.int mc, .ref el1, .int (nI (len + 1))]))) Γ kl0 2 (fun w9 e9 => by rw [e9]; exact ⟨_, _, ha2, Nat.le_of_ble_eq_true rfl, rfl⟩) (by decide) k_43 (Or.inl rfl) rfl rfl rfl dJx4a65c_add_72be8_19 ?_
    refine x_vret Γ rfl (fun w9 e9 => ?_) ⟨Nat.le_of_ble_eq_true rfl, Nat.le_of_ble_eq_true rfl⟩ dJx4a65c_add_72be8_22
    subst e9
    have he2 : w2 el1 = some (col + 2, .inl (G.2 3, cap, .inr (.inr (.inr (.inr (va_up g len (some x))))))) := by rw [hw2, nI_clamp (by omega)]; exact xu_eq _ _ _
    refine ⟨⟨mc, el1, xu_eq _ _ _, by omega, Or.inr ⟨cap, _, xu_far he2 ha2 (by omega), by omega, h2, by omega, fun i hi => ?_⟩⟩, KpL.set (by rw [hw2]; exact hk1.set he1 (Or.inr rfl)) ha2 (Or.inl rfl)⟩
    show va_up g len (some x) i = some (if i = len then x else f i)
    by_cases hil : i = len
    · rw [if_pos hil, hil]; simp [va_up]
    · rw [if_neg hil, va_up_ne _ _ hil]; exact h4 i (by omega)
  rcases hst with ⟨h0, h1⟩ | ⟨cap, g, he, h1, h2, h3, h4⟩
  · subst h1
    refine x_iload_n Γ dJx4a65c_add_72be8_0 rfl rfl ?_
    refine x_aload_n Γ dJx4a65c_add_72be8_1 rfl rfl ?_
    refine x_slen0 Γ dJx4a65c_add_72be8_2 ?_
    refine x_icmp_ne (tgt := 11) Γ dJx4a65c_add_72be8_3 (by decide) (fun c3 => absurd (by rw [h0]; rfl) c3) (fun c3 => ?_)
    refine x_aload_n Γ dJx4a65c_add_72be8_6 rfl rfl ?_
    refine x_invV (emb := embA) (ci := 0) (rm := ({ frames := 4, cells := 1, slots := 40, locals := 150 } : Room)) Γ [] (fun w q w' => (∃ (cap : Nat) (g' : Nat → Option Nat), w' a = some (col, .inr (0, [.int mc, .ref q, .int (nI len)])) ∧ w' q = some (col + 2, .inl (G.2 3, cap, .inr (.inr (.inr (.inr g'))))) ∧ len < cap ∧ 10 ≤ cap ∧ cap ≤ 40 ∧ ∀ i, i < len → g' i = some (f i)) ∧ KpL col w w') rfl (fun w1 e1 => by subst e1; exact t_grow0 ha (Or.inl ⟨h0, rfl⟩) hel) (xv_obj ha) rfl k_320 k_4 k_317 k_319 s_4 hd_Jx4a65c_grow_d5877 ⟨Nat.le_of_ble_eq_true rfl, Nat.le_of_ble_eq_true rfl⟩ ⟨Nat.le_of_ble_eq_true rfl, Nat.le_of_ble_eq_true rfl⟩ (Nat.le_of_ble_eq_true rfl) dJx4a65c_add_72be8_7 (fun q => ?_)
    refine x_pin (fun w1 hw1 => ?_)
    obtain ⟨w9, h9, ⟨cap', g', ha1, hq1, hc1, hc2, hc3, hg'⟩, hk1⟩ := hw1
    subst h9
    have hx1 : ∃ k1 fs, w1 x = some (k1, .inr (2, fs)) := ⟨_, _, hk1 x _ _ hx hxc.1 hxc.2⟩
    refine x_astore_n Γ dJx4a65c_add_72be8_10 rfl rfl (by decide) ?_
    refine x_lv [0, 1, 2, 3] rfl ?_
    exact tail w1 q cap' g' ha1 hq1 hc1 hc2 (by omega) hg' hk1 hx1
  · by_cases hc : len = cap
    · refine x_iload_n Γ dJx4a65c_add_72be8_0 rfl rfl ?_
      refine x_aload_n Γ dJx4a65c_add_72be8_1 rfl rfl ?_
      refine x_alen Γ (N := cap) (fun w2 e2 => by rw [e2]; exact ⟨_, _, Or.inr (Or.inr he)⟩) dJx4a65c_add_72be8_2 ?_
      refine x_icmp_ne (tgt := 11) Γ dJx4a65c_add_72be8_3 (by decide) (fun c3 => absurd (by rw [hc]) c3) (fun c3 => ?_)
      refine x_aload_n Γ dJx4a65c_add_72be8_6 rfl rfl ?_
      refine x_invV (emb := embA) (ci := 0) (rm := ({ frames := 4, cells := 1, slots := 40, locals := 150 } : Room)) Γ [] (fun w q w' => (∃ (cap : Nat) (g' : Nat → Option Nat), w' a = some (col, .inr (0, [.int mc, .ref q, .int (nI len)])) ∧ w' q = some (col + 2, .inl (G.2 3, cap, .inr (.inr (.inr (.inr g'))))) ∧ len < cap ∧ 10 ≤ cap ∧ cap ≤ 40 ∧ ∀ i, i < len → g' i = some (f i)) ∧ KpL col w w') rfl (fun w1 e1 => by subst e1; exact t_grow0 ha (Or.inr ⟨g, by rw [hc]; exact he, by omega, hlen, h4⟩) hel) (xv_obj ha) rfl k_320 k_4 k_317 k_319 s_4 hd_Jx4a65c_grow_d5877 ⟨Nat.le_of_ble_eq_true rfl, Nat.le_of_ble_eq_true rfl⟩ ⟨Nat.le_of_ble_eq_true rfl, Nat.le_of_ble_eq_true rfl⟩ (Nat.le_of_ble_eq_true rfl) dJx4a65c_add_72be8_7 (fun q => ?_)
      refine x_pin (fun w1 hw1 => ?_)
      obtain ⟨w9, h9, ⟨cap', g', ha1, hq1, hc1, hc2, hc3, hg'⟩, hk1⟩ := hw1
      subst h9
      have hx1 : ∃ k1 fs, w1 x = some (k1, .inr (2, fs)) := ⟨_, _, hk1 x _ _ hx hxc.1 hxc.2⟩
      refine x_astore_n Γ dJx4a65c_add_72be8_10 rfl rfl (by decide) ?_
      refine x_lv [0, 1, 2, 3] rfl ?_
      exact tail w1 q cap' g' ha1 hq1 hc1 hc2 (by omega) hg' hk1 hx1
    · refine x_iload_n Γ dJx4a65c_add_72be8_0 rfl rfl ?_
      refine x_aload_n Γ dJx4a65c_add_72be8_1 rfl rfl ?_
      refine x_alen Γ (N := cap) (fun w2 e2 => by rw [e2]; exact ⟨_, _, Or.inr (Or.inr he)⟩) dJx4a65c_add_72be8_2 ?_
      refine x_icmp_ne (tgt := 11) Γ dJx4a65c_add_72be8_3 (by decide) (fun c3 => ?_) (fun c3 => absurd c3 (fun q => hc ((nI_eq (by omega) (by omega)).mp q)))
      refine x_lv [0, 1, 2, 3] rfl ?_
      refine x_wide (k' := 1) (n' := 40) (Nat.le_of_ble_eq_true rfl) (Nat.le_of_ble_eq_true rfl) ?_
      exact tail w el cap g ha he (by omega) h2 (by omega) h4 KpL.rf ⟨_, _, hx⟩
set_option maxRecDepth 100000 in
theorem t_add {w : xW} {a x col len kx : Nat} {fx : List Value} {f : Nat → Nat} (h : LstAt G w a col len f) (hlen : len ≤ 24) (hel : ∀ i, i < len → ∃ k1 fs, w (f i) = some (k1, .inr (2, fs)) ∧ k1 ≠ col ∧ k1 ≠ col + 2) (hx : w x = some (kx, .inr (2, fx))) (hxc : kx ≠ col ∧ kx ≠ col + 2) : xMet l G yJx4a65c_add_9ea2d cJx4a65c_add_9ea2d 2 (some .boolean) ({ frames := 6, cells := 1, slots := 40, locals := 205 } : Room) [.ref a, .ref x] w embI (fun _ w' => LstAt G w' a col (len + 1) (fun i => if i = len then x else f i) ∧ KpL col w w') := by
  obtain ⟨mc, el, ha, h900, hst⟩ := h
  refine xMet_of (by decide) (Nat.le_of_ble_eq_true rfl) ?_
  intro p e s m below meth c Γ hnm
  refine x_aload_n Γ dJx4a65c_add_9ea2d_0 rfl rfl ?_
  refine x_dup Γ dJx4a65c_add_9ea2d_1 rfl ?_
  refine x_getf Γ kl0 0 (xv_get ha rfl) (by decide) k_45 (Or.inr k_46) dJx4a65c_add_9ea2d_2 ?_
  refine x_iconst (v := 1) Γ dJx4a65c_add_9ea2d_5 (by decide) ?_
  refine x_iadd Γ dJx4a65c_add_9ea2d_6 ?_
  refine x_putf (P' := fun w1 => w1 = xu w a (col, .inr (0, [.int (mc + 1), .ref el, .int (nI len)]))) Γ kl0 0 (fun w9 e9 => by rw [e9]; exact ⟨_, _, ha, Nat.le_of_ble_eq_true rfl, rfl⟩) (by decide) k_45 (Or.inr k_46) rfl rfl rfl dJx4a65c_add_9ea2d_7 ?_
  refine x_pin (fun w1 hw1 => ?_)
  have ha1 : w1 a = some (col, .inr (0, [.int (mc + 1), .ref el, .int (nI len)])) := by rw [hw1]; exact xu_eq _ _ _
  have hk1 : KpL col w w1 := by rw [hw1]; exact KpL.rf.set ha (Or.inl rfl)
  refine x_aload_n Γ dJx4a65c_add_9ea2d_10 rfl rfl ?_
  refine x_aload_n Γ dJx4a65c_add_9ea2d_11 rfl rfl ?_
  refine x_aload_n Γ dJx4a65c_add_9ea2d_12 rfl rfl ?_
  refine x_getf Γ kl0 1 (xv_get ha1 rfl) (by decide) k_42 (Or.inl rfl) dJx4a65c_add_9ea2d_13 ?_
  refine x_aload_n Γ dJx4a65c_add_9ea2d_16 rfl rfl ?_
  refine x_getf Γ kl0 2 (xv_get ha1 rfl) (by decide) k_43 (Or.inl rfl) dJx4a65c_add_9ea2d_17 ?_
  refine x_invV (emb := embV) (ci := 0) (rm := ({ frames := 5, cells := 1, slots := 40, locals := 175 } : Room)) Γ [.ref x, .ref el, .int (nI len)] (fun w _ w' => LstAt G w' a col (len + 1) (fun i => if i = len then x else f i) ∧ KpL col w w') rfl (fun w9 e9 => by rw [e9]; exact t_add3 ha1 hlen (by rcases hst with h | ⟨cap, g, he, h1, h2, h3, h4⟩; exact Or.inl h; exact Or.inr ⟨cap, g, by rw [hw1]; exact xu_far he ha (by omega), h1, h2, h3, h4⟩) (fun i hi => by obtain ⟨k1, fs, h9, h8⟩ := hel i hi; exact ⟨_, _, hk1 _ _ _ h9 h8.1 h8.2⟩) (hk1 _ _ _ hx hxc.1 hxc.2) hxc) (xv_obj ha1) rfl k_316 k_4 k_313 k_315 s_3 hd_Jx4a65c_add_72be8 ⟨Nat.le_of_ble_eq_true rfl, Nat.le_of_ble_eq_true rfl⟩ ⟨Nat.le_of_ble_eq_true rfl, Nat.le_of_ble_eq_true rfl⟩ (Nat.le_of_ble_eq_true rfl) dJx4a65c_add_9ea2d_20 (fun _ => ?_)
  refine x_weak (P' := fun w' => LstAt G w' a col (len + 1) (fun i => if i = len then x else f i) ∧ KpL col w w') (fun w2 h2 => by obtain ⟨w3, h3, h4, h5⟩ := h2; subst h3; exact ⟨h4, hk1.tr h5⟩) ?_
  refine x_iconst (v := 1) Γ dJx4a65c_add_9ea2d_23 (by decide) ?_
  exact x_iret Γ rfl rfl (fun w2 e2 => e2) ⟨Nat.le_of_ble_eq_true rfl, Nat.le_of_ble_eq_true rfl⟩ dJx4a65c_add_9ea2d_24
end XJ3

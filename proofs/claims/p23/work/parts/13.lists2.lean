section XJ2
variable {l : Launch} {G : xG}
theorem nI_hi {a b : Nat} (h : a < b) (hb : b < 2 ^ 31) : ¬ nI b < nI a := nI_nlt (by omega) hb
theorem xK_cast : Cond.castable RX1 "java/lang/Object" ∈ xAll := k_768
set_option maxRecDepth 100000 in
theorem t_acinit {w : xW} {a : Nat} : xMet l G yJxa1e45_init_da8c8 cJxa1e45_init_da8c8 1 none ({ frames := 1, cells := 0, slots := 0, locals := 12 } : Room) [.ref a] w embV (fun _ w' => w' = w) := by
  refine xMet_of (by decide) (Nat.le_of_ble_eq_true rfl) ?_
  intro p e s m below meth c Γ hnm
  refine x_aload_n Γ dJxa1e45_init_da8c8_0 rfl rfl ?_
  refine x_obj Γ k_39 ⟨Nat.le_of_ble_eq_true rfl, Nat.le_of_ble_eq_true rfl⟩ dJxa1e45_init_da8c8_1 ?_
  exact x_vret Γ rfl (fun w1 e => e) ⟨Nat.le_of_ble_eq_true rfl, Nat.le_of_ble_eq_true rfl⟩ dJxa1e45_init_da8c8_4
set_option maxRecDepth 100000 in
theorem t_alinit {w : xW} {a col : Nat} {x : Int32} {v1 v2 : Value} (ha : w a = some (col, .inr (0, [.int x, v1, v2]))) : xMet l G yJxc12de_init_da8c8 cJxc12de_init_da8c8 1 none ({ frames := 2, cells := 0, slots := 0, locals := 32 } : Room) [.ref a] w embV (fun _ w' => w' = xu w a (col, .inr (0, [.int 0, v1, v2]))) := by
  refine xMet_of (by decide) (Nat.le_of_ble_eq_true rfl) ?_
  intro p e s m below meth c Γ hnm
  refine x_aload_n Γ dJxc12de_init_da8c8_0 rfl rfl ?_
  refine x_invI Γ [] (fun w _ w' => w' = w) rfl (fun w _ => t_acinit) rfl k_38 k_2 k_36 k_37 hd_Jxa1e45_init_da8c8 ⟨Nat.le_of_ble_eq_true rfl, Nat.le_of_ble_eq_true rfl⟩ ⟨Nat.le_of_ble_eq_true rfl, Nat.le_of_ble_eq_true rfl⟩ (Nat.le_of_ble_eq_true rfl) dJxc12de_init_da8c8_1 (fun _ => ?_)
  refine x_then (P2 := fun w1 => w1 = w) (φ := True) (fun w2 h2 => by obtain ⟨w3, h3, h5⟩ := h2; exact ⟨trivial, by rw [h5, h3]⟩) (fun _ => ?_)
  refine x_aload_n Γ dJxc12de_init_da8c8_4 rfl rfl ?_
  refine x_iconst (v := 0) Γ dJxc12de_init_da8c8_5 (by decide) ?_
  refine x_putf (P' := fun w1 => w1 = xu w a (col, .inr (0, [.int 0, v1, v2]))) Γ kl0 0 (fun w9 e9 => by rw [e9]; exact ⟨_, _, ha, Nat.le_of_ble_eq_true rfl, rfl⟩) (by decide) k_44 (Or.inl rfl) rfl rfl rfl dJxc12de_init_da8c8_6 ?_
  exact x_vret Γ rfl (fun w1 e => e) ⟨Nat.le_of_ble_eq_true rfl, Nat.le_of_ble_eq_true rfl⟩ dJxc12de_init_da8c8_9
set_option maxRecDepth 100000 in
theorem t_newlist {w : xW} {a col : Nat} {f : Nat → Nat} (ha : w a = some (col, .inr (0, [.int 0, .null, .int 0]))) : xMet l G yJx4a65c_init_da8c8 cJx4a65c_init_da8c8 1 none ({ frames := 3, cells := 0, slots := 0, locals := 52 } : Room) [.ref a] w embV (fun _ w' => LstAt G w' a col 0 f ∧ KpL col w w') := by
  refine xMet_of (by decide) (Nat.le_of_ble_eq_true rfl) ?_
  intro p e s m below meth c Γ hnm
  refine x_aload_n Γ dJx4a65c_init_da8c8_0 rfl rfl ?_
  refine x_invI Γ [] (fun w _ w' => w' = xu w a (col, .inr (0, [.int 0, .null, .int 0]))) rfl (fun w1 e1 => by subst e1; exact t_alinit ha) rfl k_35 k_3 k_33 k_34 hd_Jxc12de_init_da8c8 ⟨Nat.le_of_ble_eq_true rfl, Nat.le_of_ble_eq_true rfl⟩ ⟨Nat.le_of_ble_eq_true rfl, Nat.le_of_ble_eq_true rfl⟩ (Nat.le_of_ble_eq_true rfl) dJx4a65c_init_da8c8_1 (fun _ => ?_)
  refine x_then (P2 := fun w1 => w1 = xu w a (col, .inr (0, [.int 0, .null, .int 0]))) (φ := True) (fun w2 h2 => by obtain ⟨w3, h3, h5⟩ := h2; exact ⟨trivial, by rw [h5, h3]⟩) (fun _ => ?_)
  refine x_pin (fun w1 hw1 => ?_)
  have ha1 : w1 a = some (col, .inr (0, [.int 0, .null, .int 0])) := by rw [hw1]; exact xu_eq _ _ _
  refine x_aload_n Γ dJx4a65c_init_da8c8_4 rfl rfl ?_
  refine x_gets Γ dJx4a65c_init_da8c8_5 ?_
  refine x_putf (P' := fun w2 => w2 = xu w1 a (col, .inr (0, [.int 0, .ref (G.2 4), .int 0]))) Γ kl0 1 (fun w9 e9 => by rw [e9]; exact ⟨_, _, ha1, Nat.le_of_ble_eq_true rfl, rfl⟩) (by decide) k_42 (Or.inl rfl) rfl rfl rfl dJx4a65c_init_da8c8_8 ?_
  refine x_vret Γ rfl (fun w2 e => ?_) ⟨Nat.le_of_ble_eq_true rfl, Nat.le_of_ble_eq_true rfl⟩ dJx4a65c_init_da8c8_11
  subst e; subst hw1
  exact ⟨⟨0, G.2 4, xu_eq _ _ _, by omega, Or.inl ⟨rfl, rfl⟩⟩, (KpL.rf.set ha (Or.inl rfl)).set ha1 (Or.inl rfl)⟩
set_option maxRecDepth 100000 in
theorem t_newLength {w : xW} {a b : Nat} (h1 : a ≤ 1000) (h2 : b ≤ 1000) : xMet l G yJ8_newLength_cabcc cJ8_newLength_cabcc 4 (some .int) ({ frames := 1, cells := 0, slots := 0, locals := 30 } : Room) [.int (nI a), .int (nI 1), .int (nI b)] w embI (fun r w' => r = nI (a + max 1 b) ∧ w' = w) := by
  have hm : (if nI 1 < nI b then nI b else nI 1) = nI (max 1 b) := by
    by_cases h : 1 < b
    · rw [if_pos (nI_lt h (by omega)), Nat.max_eq_right (by omega)]
    · rw [if_neg (nI_nlt (by omega) (by omega)), Nat.max_eq_left (by omega)]
  refine xMet_of (by decide) (Nat.le_of_ble_eq_true rfl) ?_
  intro p e s m below meth c Γ hnm
  refine x_iload_n Γ dJ8_newLength_cabcc_0 rfl rfl ?_
  refine x_iload_n Γ dJ8_newLength_cabcc_1 rfl rfl ?_
  refine x_iload_n Γ dJ8_newLength_cabcc_2 rfl rfl ?_
  refine x_max Γ k_328 k_329 k_330 k_17 ⟨Nat.le_of_ble_eq_true rfl, Nat.le_of_ble_eq_true rfl, Nat.le_of_ble_eq_true rfl, Nat.le_of_ble_eq_true rfl⟩ dJ8_newLength_cabcc_3 ?_
  rw [hm]
  refine x_iadd Γ dJ8_newLength_cabcc_6 ?_
  rw [nI_add]
  refine x_istore_n Γ dJ8_newLength_cabcc_7 rfl rfl (by decide) ?_
  refine x_iconst (v := 0) Γ dJ8_newLength_cabcc_8 (by decide) ?_
  refine x_iload_n Γ dJ8_newLength_cabcc_9 rfl rfl ?_
  refine x_icmp_ge (tgt := 21) Γ dJ8_newLength_cabcc_10 (by decide) (fun c10 => absurd c10 (nI_nle (by omega) (by omega))) (fun c10 => ?_)
  refine x_iload_n Γ dJ8_newLength_cabcc_13 rfl rfl ?_
  refine x_ldc Γ k_331 dJ8_newLength_cabcc_14 ?_
  refine x_icmp_gt (tgt := 21) Γ dJ8_newLength_cabcc_16 (by decide) (fun c16 => absurd c16 ((by have h := nI_hi (a := a + max 1 b) (b := 2147483639) (by omega) (by omega); exact h))) (fun c16 => ?_)
  refine x_iload_n Γ dJ8_newLength_cabcc_19 rfl rfl ?_
  exact x_iret Γ rfl rfl (fun w1 e => ⟨rfl, e⟩) ⟨Nat.le_of_ble_eq_true rfl, Nat.le_of_ble_eq_true rfl⟩ dJ8_newLength_cabcc_20
theorem sb_cpy0A {f g : Nat → Option Nat} {n j : Nat} (h : j < n) : va_cpy f g 0 0 n j = f j := by
  rw [pk_cpy_in (Nat.zero_le _) (by omega), Nat.zero_add, Nat.sub_zero]
set_option maxRecDepth 100000 in
theorem t_copyOf3 {w : xW} {el cap N ce cn : Nat} {g : Nat → Option Nat} (he : w el = some (ce, .inl (G.2 3, cap, .inr (.inr (.inr (.inr g)))))) (h1 : cap ≤ N) (h2 : N ≤ 2000) (hel : ∀ i y, i < cap → g i = some y → ∃ k1 fs, w y = some (k1, .inr (2, fs))) : xMet l G yJ7_copyOf_6403c cJ7_copyOf_6403c 4 (some (.array (.object "java/lang/Object"))) ({ frames := 1, cells := 1, slots := N, locals := 60 } : Room) [.ref el, .int (nI N), .ref (G.2 5)] w embA (fun q w' => w q = none ∧ ∃ g' : Nat → Option Nat, w' = xu w q (cn, .inl (G.2 3, N, .inr (.inr (.inr (.inr g'))))) ∧ ∀ i, i < cap → g' i = g i) := by
  have hm : (if nI N < nI cap then nI N else nI cap) = nI cap := if_neg (nI_nlt h1 (by omega))
  refine xMet_of (by decide) (Nat.le_of_ble_eq_true rfl) ?_
  intro p e s m below meth c Γ hnm
  refine x_aload_n Γ dJ7_copyOf_6403c_0 rfl rfl ?_
  refine x_ldcM Γ k_353 dJ7_copyOf_6403c_1 ?_
  refine x_acmp_ne (tgt := 13) Γ dJ7_copyOf_6403c_3 (by decide) (fun c => absurd rfl c) (fun _ => ?_)
  refine x_iload_n Γ dJ7_copyOf_6403c_6 rfl rfl ?_
  refine x_newA Γ cn rfl (by omega) k_355 (F := fun q w1 => w q = none ∧ w1 = xu w q (cn, .inl (G.2 3, N, .inr (.inr (.inr (.inr (fun _ => none))))))) (fun w1 q e1 h0 => by subst e1; exact ⟨h0, rfl⟩) ⟨Nat.le_of_ble_eq_true rfl, Nat.le_of_eq (Nat.zero_add _)⟩ dJ7_copyOf_6403c_7 (fun q => ?_)
  refine x_pin (fun w1 hw1 => ?_)
  obtain ⟨hq, hw1⟩ := hw1
  have he1 : w1 el = some (ce, .inl (G.2 3, cap, .inr (.inr (.inr (.inr g))))) := by rw [hw1]; exact xu_new he hq
  have hq1 : w1 q = some (cn, .inl (G.2 3, N, .inr (.inr (.inr (.inr (fun _ => none)))))) := by rw [hw1]; exact xu_eq _ _ _
  refine x_goto (tgt := 24) Γ dJ7_copyOf_6403c_10 (by decide) ?_
  refine x_astore_n Γ dJ7_copyOf_6403c_24 rfl rfl (by decide) ?_
  refine x_aload_n Γ dJ7_copyOf_6403c_25 rfl rfl ?_
  refine x_iconst (v := 0) Γ dJ7_copyOf_6403c_26 (by decide) ?_
  refine x_aload_n Γ dJ7_copyOf_6403c_27 rfl rfl ?_
  refine x_iconst (v := 0) Γ dJ7_copyOf_6403c_28 (by decide) ?_
  refine x_aload_n Γ dJ7_copyOf_6403c_29 rfl rfl ?_
  refine x_alen Γ (N := cap) (fun w2 e2 => by rw [e2]; exact ⟨_, _, Or.inr (Or.inr he1)⟩) dJ7_copyOf_6403c_30 ?_
  refine x_iload_n Γ dJ7_copyOf_6403c_31 rfl rfl ?_
  refine x_min Γ k_356 k_357 k_358 k_17 ⟨Nat.le_of_ble_eq_true rfl, Nat.le_of_ble_eq_true rfl, Nat.le_of_ble_eq_true rfl, Nat.le_of_eq (Nat.zero_add _)⟩ dJ7_copyOf_6403c_32 ?_
  rw [hm]
  refine x_copy (P' := fun w2 => w2 = xu w1 q (cn, .inl (G.2 3, N, .inr (.inr (.inr (.inr (va_cpy g (fun _ => none) (0 : Int32).toNatClampNeg (0 : Int32).toNatClampNeg (nI cap).toNatClampNeg))))))) Γ k_359 k_361 k_360 k_18 (fun w2 e2 => by rw [e2]; exact ⟨_, _, he1, hq1, rfl⟩) (by decide) (by decide) (nI_pos (by omega)) (by rw [sb_cl0, nI_clamp (by omega)]; omega) (by rw [sb_cl0, nI_clamp (by omega)]; omega) (fun w2 e2 i hi y hy => ?_) ⟨Nat.le_of_ble_eq_true rfl, Nat.le_of_ble_eq_true rfl⟩ dJ7_copyOf_6403c_35 ?_
  · rw [sb_cl0, Nat.zero_add] at hy; rw [nI_clamp (by omega)] at hi
    obtain ⟨k1, fs, h9⟩ := hel i y hi hy
    rw [e2]
    exact ⟨k1, 2, fs, by rw [hw1]; exact xu_new h9 hq, _, rfl, xK_cast⟩
  refine x_aload_n Γ dJ7_copyOf_6403c_38 rfl rfl ?_
  refine x_aret Γ rfl (Or.inr ⟨_, rfl⟩) (fun w2 e2 => ?_) ⟨Nat.le_of_ble_eq_true rfl, Nat.le_of_eq (Nat.zero_add _)⟩ dJ7_copyOf_6403c_39
  refine ⟨hq, va_cpy g (fun _ => none) 0 0 cap, ?_, fun i hi => ?_⟩
  · subst e2; subst hw1
    funext z
    rw [sb_cl0, nI_clamp (by omega)]
    by_cases hz : z = q
    · subst hz; rw [xu_eq, xu_eq]
    · rw [xu_ne hz, xu_ne hz, xu_ne hz]
  · exact sb_cpy0A hi
set_option maxRecDepth 100000 in
theorem t_copyOf {w : xW} {el cap N ce cn : Nat} {g : Nat → Option Nat} (he : w el = some (ce, .inl (G.2 3, cap, .inr (.inr (.inr (.inr g)))))) (h1 : cap ≤ N) (h2 : N ≤ 2000) (hel : ∀ i y, i < cap → g i = some y → ∃ k1 fs, w y = some (k1, .inr (2, fs))) : xMet l G yJ7_copyOf_1904c cJ7_copyOf_1904c 2 (some (.array (.object "java/lang/Object"))) ({ frames := 2, cells := 1, slots := N, locals := 90 } : Room) [.ref el, .int (nI N)] w embA (fun q w' => w q = none ∧ ∃ g' : Nat → Option Nat, w' = xu w q (cn, .inl (G.2 3, N, .inr (.inr (.inr (.inr g'))))) ∧ ∀ i, i < cap → g' i = g i) := by
  refine xMet_of (by decide) (Nat.le_of_ble_eq_true rfl) ?_
  intro p e s m below meth c Γ hnm
  refine x_aload_n Γ dJ7_copyOf_1904c_0 rfl rfl ?_
  refine x_iload_n Γ dJ7_copyOf_1904c_1 rfl rfl ?_
  refine x_aload_n Γ dJ7_copyOf_1904c_2 rfl rfl ?_
  refine x_getC Γ (xv_arr he) k_338 k_775 k_774 k_339 k_349 ⟨Nat.le_of_ble_eq_true rfl, Nat.le_of_ble_eq_true rfl⟩ dJ7_copyOf_1904c_3 ?_
  refine x_invS (emb := embA) (rm := ({ frames := 1, cells := 1, slots := N, locals := 60 } : Room)) Γ [.ref el, .int (nI N), .ref (G.2 5)] (fun w q w' => w q = none ∧ ∃ g' : Nat → Option Nat, w' = xu w q (cn, .inl (G.2 3, N, .inr (.inr (.inr (.inr g'))))) ∧ ∀ i, i < cap → g' i = g i) rfl (fun w1 e1 => by subst e1; exact t_copyOf3 he h1 h2 hel) k_352 k_5 k_350 k_351 hd_J7_copyOf_6403c ⟨Nat.le_of_ble_eq_true rfl, Nat.le_of_ble_eq_true rfl⟩ ⟨Nat.le_of_ble_eq_true rfl, Nat.le_of_eq (Nat.zero_add _)⟩ (Nat.le_of_ble_eq_true rfl) dJ7_copyOf_1904c_6 (fun q => ?_)
  refine x_weak (P' := fun w' => (fun q w' => w q = none ∧ ∃ g' : Nat → Option Nat, w' = xu w q (cn, .inl (G.2 3, N, .inr (.inr (.inr (.inr g'))))) ∧ ∀ i, i < cap → g' i = g i) q w') (fun w2 h2 => by obtain ⟨w3, h3, h4⟩ := h2; subst h3; exact h4) ?_
  exact x_aret Γ rfl (Or.inr ⟨_, rfl⟩) (fun w2 e2 => e2) ⟨Nat.le_of_ble_eq_true rfl, Nat.le_of_eq (Nat.zero_add _)⟩ dJ7_copyOf_1904c_9
end XJ2

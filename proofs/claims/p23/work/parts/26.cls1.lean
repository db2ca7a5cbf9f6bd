section XC1
theorem xu_xu (w : xW) (a : Nat) (x y : Nat × va_E) : xu (xu w a x) a y = xu w a y := by
  funext b
  by_cases h : b = a
  · subst h; rw [xu_eq, xu_eq]
  · rw [xu_ne h, xu_ne h, xu_ne h]
theorem xu_4 (w : xW) (a q : Nat) (x y z : Nat × va_E) : xu (xu (xu w a x) q y) a z = xu (xu w q y) a z := by
  funext b
  by_cases h : b = a
  · subst h; rw [xu_eq, xu_eq]
  · rw [xu_ne h, xu_ne h]
    by_cases h2 : b = q
    · subst h2; rw [xu_eq, xu_eq]
    · rw [xu_ne h2, xu_ne h2, xu_ne h]
theorem xu_none {w : xW} {a q : Nat} {x : Nat × va_E} (h : xu w a x q = none) : w q = none ∧ q ≠ a := by
  by_cases hq : q = a
  · subst hq; rw [xu_eq] at h; cases h
  · rw [xu_ne hq] at h; exact ⟨h, hq⟩
theorem lt_le {x a b : Int32} (h : a.toInt = b.toInt + 1) : x < a ↔ x ≤ b := by
  rw [Int32.lt_iff_toInt_lt, Int32.le_iff_toInt_le]
  omega
def lkp (d : Int32) : xTg → Int32
  | [] => 12
  | q :: r => if q.2 ≤ d then q.1 else lkp d r
variable {l : Launch} {G : xG}
set_option maxRecDepth 100000 in
theorem t2_isCounter {w : xW} {x : Int32} : xMet l G yX2_isCounter cX2_isCounter 1 (some .boolean) ({ frames := 0, cells := 0, slots := 0, locals := 0 } : Room) [.int x] w embI (fun r w' => bq (rIn 0 4 x) r ∧ w' = w) := by
  refine xMet_of (by decide) (Nat.le_of_ble_eq_true rfl) ?_
  intro p e s m below meth c Γ hnm
  refine x_iload_n Γ dX2_isCounter_0 rfl rfl ?_
  refine x_if_lt (tgt := 13) Γ dX2_isCounter_1 (by decide) (fun c1 => ?_) (fun c1 => ?_)
  · refine x_iconst (v := 0) Γ dX2_isCounter_13 (by decide) ?_
    exact x_iret Γ rfl rfl (fun w2 e2 => ⟨Or.inr ⟨fun z => absurd c1 (Int32.not_lt.mpr z.1), rfl⟩, e2⟩) ⟨Nat.le_of_ble_eq_true rfl, Nat.le_of_ble_eq_true rfl⟩ dX2_isCounter_14
  · refine x_iload_n Γ dX2_isCounter_4 rfl rfl ?_
    refine x_iconst (v := 5) Γ dX2_isCounter_5 (by decide) ?_
    refine x_icmp_ge (tgt := 13) Γ dX2_isCounter_6 (by decide) (fun c6 => ?_) (fun c6 => ?_)
    · refine x_iconst (v := 0) Γ dX2_isCounter_13 (by decide) ?_
      exact x_iret Γ rfl rfl (fun w2 e2 => ⟨Or.inr ⟨fun z => (Int32.not_lt.mpr c6) ((lt_le (x := x) (a := 5) (b := 4) (by decide)).mpr z.2), rfl⟩, e2⟩) ⟨Nat.le_of_ble_eq_true rfl, Nat.le_of_ble_eq_true rfl⟩ dX2_isCounter_14
    · refine x_iconst (v := 1) Γ dX2_isCounter_9 (by decide) ?_
      refine x_goto (tgt := 14) Γ dX2_isCounter_10 (by decide) ?_
      exact x_iret Γ rfl rfl (fun w2 e2 => ⟨Or.inl ⟨⟨Int32.not_lt.mp c1, (lt_le (by decide)).mp (Int32.not_le.mp c6)⟩, rfl⟩, e2⟩) ⟨Nat.le_of_ble_eq_true rfl, Nat.le_of_ble_eq_true rfl⟩ dX2_isCounter_14
set_option maxRecDepth 100000 in
theorem t2_isPerson {w : xW} {x : Int32} : xMet l G yX2_isPerson cX2_isPerson 1 (some .boolean) ({ frames := 0, cells := 0, slots := 0, locals := 0 } : Room) [.int x] w embI (fun r w' => bq (rIn 0 7 x) r ∧ w' = w) := by
  refine xMet_of (by decide) (Nat.le_of_ble_eq_true rfl) ?_
  intro p e s m below meth c Γ hnm
  refine x_iload_n Γ dX2_isPerson_0 rfl rfl ?_
  refine x_if_lt (tgt := 14) Γ dX2_isPerson_1 (by decide) (fun c1 => ?_) (fun c1 => ?_)
  · refine x_iconst (v := 0) Γ dX2_isPerson_14 (by decide) ?_
    exact x_iret Γ rfl rfl (fun w2 e2 => ⟨Or.inr ⟨fun z => absurd c1 (Int32.not_lt.mpr z.1), rfl⟩, e2⟩) ⟨Nat.le_of_ble_eq_true rfl, Nat.le_of_ble_eq_true rfl⟩ dX2_isPerson_15
  · refine x_iload_n Γ dX2_isPerson_4 rfl rfl ?_
    refine x_bipush (v := 8) Γ dX2_isPerson_5 (by decide) ?_
    refine x_icmp_ge (tgt := 14) Γ dX2_isPerson_7 (by decide) (fun c7 => ?_) (fun c7 => ?_)
    · refine x_iconst (v := 0) Γ dX2_isPerson_14 (by decide) ?_
      exact x_iret Γ rfl rfl (fun w2 e2 => ⟨Or.inr ⟨fun z => (Int32.not_lt.mpr c7) ((lt_le (x := x) (a := 8) (b := 7) (by decide)).mpr z.2), rfl⟩, e2⟩) ⟨Nat.le_of_ble_eq_true rfl, Nat.le_of_ble_eq_true rfl⟩ dX2_isPerson_15
    · refine x_iconst (v := 1) Γ dX2_isPerson_10 (by decide) ?_
      refine x_goto (tgt := 15) Γ dX2_isPerson_11 (by decide) ?_
      exact x_iret Γ rfl rfl (fun w2 e2 => ⟨Or.inl ⟨⟨Int32.not_lt.mp c1, (lt_le (by decide)).mp (Int32.not_le.mp c7)⟩, rfl⟩, e2⟩) ⟨Nat.le_of_ble_eq_true rfl, Nat.le_of_ble_eq_true rfl⟩ dX2_isPerson_15
set_option maxRecDepth 100000 in
theorem t_tagN {w : xW} {a : Nat} {p0 d0 : Int32} {x0 x1 x2 : Value} (h : w a = some (110, .inr (1, [x0, x1, x2]))) : xMet l G yX0_init cX0_init 4 none ({ frames := 1, cells := 0, slots := 0, locals := 30 } : Room) [.ref a, .int p0, .int d0, .null] w embV (fun _ w' => w' = xu w a (110, .inr (1, [.int p0, .int d0, .null]))) := by
  refine xMet_of (by decide) (Nat.le_of_ble_eq_true rfl) ?_
  intro p e s m below meth c Γ hnm
  refine x_aload_n Γ dX0_init_0 rfl rfl ?_
  refine x_obj Γ k_247 ⟨Nat.le_of_ble_eq_true rfl, Nat.le_of_ble_eq_true rfl⟩ dX0_init_1 ?_
  refine x_aload_n Γ dX0_init_4 rfl rfl ?_
  refine x_iload_n Γ dX0_init_5 rfl rfl ?_
  refine x_putfF (P' := fun w1 => w1 = xu w a (110, .inr (1, [.int p0, x1, x2]))) Γ hnm kl1 0 (fun w9 e9 => by rw [e9]; exact ⟨_, _, h, Nat.le_of_ble_eq_true rfl, rfl⟩) (by decide) k_248 rfl rfl rfl rfl dX0_init_6 ?_
  refine x_aload_n Γ dX0_init_9 rfl rfl ?_
  refine x_iload_n Γ dX0_init_10 rfl rfl ?_
  refine x_putfF (P' := fun w1 => w1 = xu w a (110, .inr (1, [.int p0, .int d0, x2]))) Γ hnm kl1 1 (fun w9 e9 => by rw [e9]; exact ⟨_, _, xu_eq _ _ _, Nat.le_of_ble_eq_true rfl, xu_xu _ _ _ _⟩) (by decide) k_250 rfl rfl rfl rfl dX0_init_11 ?_
  refine x_aload_n Γ dX0_init_14 rfl rfl ?_
  refine x_aload_nN Γ dX0_init_15 rfl rfl ?_
  refine x_putfF (P' := fun w1 => w1 = xu w a (110, .inr (1, [.int p0, .int d0, .null]))) Γ hnm kl1 2 (fun w9 e9 => by rw [e9]; exact ⟨_, _, xu_eq _ _ _, Nat.le_of_ble_eq_true rfl, xu_xu _ _ _ _⟩) (by decide) k_252 rfl rfl rfl rfl dX0_init_16 ?_
  exact x_vret Γ rfl (fun w2 e2 => e2) ⟨Nat.le_of_ble_eq_true rfl, Nat.le_of_ble_eq_true rfl⟩ dX0_init_19
set_option maxRecDepth 100000 in
theorem t_tagR {w : xW} {a b0 : Nat} {p0 d0 : Int32} {x0 x1 x2 : Value} (h : w a = some (110, .inr (1, [x0, x1, x2]))) : xMet l G yX0_init cX0_init 4 none ({ frames := 1, cells := 0, slots := 0, locals := 30 } : Room) [.ref a, .int p0, .int d0, .ref b0] w embV (fun _ w' => w' = xu w a (110, .inr (1, [.int p0, .int d0, .ref b0]))) := by
  refine xMet_of (by decide) (Nat.le_of_ble_eq_true rfl) ?_
  intro p e s m below meth c Γ hnm
  refine x_aload_n Γ dX0_init_0 rfl rfl ?_
  refine x_obj Γ k_247 ⟨Nat.le_of_ble_eq_true rfl, Nat.le_of_ble_eq_true rfl⟩ dX0_init_1 ?_
  refine x_aload_n Γ dX0_init_4 rfl rfl ?_
  refine x_iload_n Γ dX0_init_5 rfl rfl ?_
  refine x_putfF (P' := fun w1 => w1 = xu w a (110, .inr (1, [.int p0, x1, x2]))) Γ hnm kl1 0 (fun w9 e9 => by rw [e9]; exact ⟨_, _, h, Nat.le_of_ble_eq_true rfl, rfl⟩) (by decide) k_248 rfl rfl rfl rfl dX0_init_6 ?_
  refine x_aload_n Γ dX0_init_9 rfl rfl ?_
  refine x_iload_n Γ dX0_init_10 rfl rfl ?_
  refine x_putfF (P' := fun w1 => w1 = xu w a (110, .inr (1, [.int p0, .int d0, x2]))) Γ hnm kl1 1 (fun w9 e9 => by rw [e9]; exact ⟨_, _, xu_eq _ _ _, Nat.le_of_ble_eq_true rfl, xu_xu _ _ _ _⟩) (by decide) k_250 rfl rfl rfl rfl dX0_init_11 ?_
  refine x_aload_n Γ dX0_init_14 rfl rfl ?_
  refine x_aload_n Γ dX0_init_15 rfl rfl ?_
  refine x_putfF (P' := fun w1 => w1 = xu w a (110, .inr (1, [.int p0, .int d0, .ref b0]))) Γ hnm kl1 2 (fun w9 e9 => by rw [e9]; exact ⟨_, _, xu_eq _ _ _, Nat.le_of_ble_eq_true rfl, xu_xu _ _ _ _⟩) (by decide) k_252 rfl rfl rfl rfl dX0_init_16 ?_
  exact x_vret Γ rfl (fun w2 e2 => e2) ⟨Nat.le_of_ble_eq_true rfl, Nat.le_of_ble_eq_true rfl⟩ dX0_init_19
set_option maxRecDepth 100000 in
theorem t_tag {w : xW} {a : Nat} {p0 d0 : Int32} {x0 x1 x2 bv : Value} (h : w a = some (110, .inr (1, [x0, x1, x2]))) (hb : bv = .null ∨ ∃ q, bv = .ref q) : xMet l G yX0_init cX0_init 4 none ({ frames := 1, cells := 0, slots := 0, locals := 30 } : Room) [.ref a, .int p0, .int d0, bv] w embV (fun _ w' => w' = xu w a (110, .inr (1, [.int p0, .int d0, bv]))) := by
  rcases hb with rfl | ⟨q, rfl⟩
  · exact t_tagN h
  · exact t_tagR h
set_option maxRecDepth 100000 in
theorem t_isAtC {w : xW} {a k0 : Nat} {fs : List Value} (h : w a = some (k0, .inr (2, fs))) {v : Int32} (hf : fs[5]? = some (.int v)) : xMet l G yX1_isAtCounter cX1_isAtCounter 1 (some .boolean) ({ frames := 1, cells := 0, slots := 0, locals := 40 } : Room) [.ref a] w embI (fun r w' => bq (rIn 0 4 v) r ∧ w' = w) := by
  refine xMet_of (by decide) (Nat.le_of_ble_eq_true rfl) ?_
  intro p e s m below meth c Γ hnm
  refine x_aload_n Γ dX1_isAtCounter_0 rfl rfl ?_
  refine x_getf Γ kl2 5 (xv_get h hf) (by decide) k_271 (Or.inl rfl) dX1_isAtCounter_1 ?_
  refine x_invSN (emb := embI) (rm := ({ frames := 0, cells := 0, slots := 0, locals := 0 } : Room)) Γ [.int v] (fun w1 r w2 => bq (rIn 0 4 v) r ∧ w2 = w1) rfl (fun w1 h1 => t2_isCounter) k_106 k_1 k_396 k_105 hd_X2_isCounter ⟨Nat.le_of_ble_eq_true rfl, Nat.le_of_ble_eq_true rfl⟩ ⟨Nat.le_of_ble_eq_true rfl, Nat.le_of_ble_eq_true rfl⟩ (Nat.le_of_ble_eq_true rfl) dX1_isAtCounter_4 (fun r => ?_)
  refine m_same (fun q => ?_)
  exact x_iret Γ rfl q.nr (fun w2 e2 => ⟨q, e2⟩) ⟨Nat.le_of_ble_eq_true rfl, Nat.le_of_ble_eq_true rfl⟩ dX1_isAtCounter_7
set_option maxRecDepth 100000 in
theorem t_hasLoan {w : xW} {a k0 : Nat} {fs : List Value} (h : w a = some (k0, .inr (2, fs))) {v : Int32} (hf : fs[9]? = some (.int v)) : xMet l G yX1_hasLoan cX1_hasLoan 1 (some .boolean) ({ frames := 0, cells := 0, slots := 0, locals := 0 } : Room) [.ref a] w embI (fun r w' => bq (0 < v) r ∧ w' = w) := by
  refine xMet_of (by decide) (Nat.le_of_ble_eq_true rfl) ?_
  intro p e s m below meth c Γ hnm
  refine x_aload_n Γ dX1_hasLoan_0 rfl rfl ?_
  refine x_getf Γ kl2 9 (xv_get h hf) (by decide) k_278 (Or.inl rfl) dX1_hasLoan_1 ?_
  refine x_if_le (tgt := 11) Γ dX1_hasLoan_4 (by decide) (fun c4 => ?_) (fun c4 => ?_)
  · refine x_iconst (v := 0) Γ dX1_hasLoan_11 (by decide) ?_
    exact x_iret Γ rfl rfl (fun w2 e2 => ⟨Or.inr ⟨Int32.not_lt.mpr c4, rfl⟩, e2⟩) ⟨Nat.le_of_ble_eq_true rfl, Nat.le_of_ble_eq_true rfl⟩ dX1_hasLoan_12
  · refine x_iconst (v := 1) Γ dX1_hasLoan_7 (by decide) ?_
    refine x_goto (tgt := 12) Γ dX1_hasLoan_8 (by decide) ?_
    exact x_iret Γ rfl rfl (fun w2 e2 => ⟨Or.inl ⟨Int32.not_le.mp c4, rfl⟩, e2⟩) ⟨Nat.le_of_ble_eq_true rfl, Nat.le_of_ble_eq_true rfl⟩ dX1_hasLoan_12
set_option maxRecDepth 100000 in
theorem t_isCalled {w : xW} {a k0 : Nat} {fs : List Value} (h : w a = some (k0, .inr (2, fs))) {v : Int32} (hf : fs[11]? = some (.int v)) : xMet l G yX1_isCalled cX1_isCalled 1 (some .boolean) ({ frames := 0, cells := 0, slots := 0, locals := 0 } : Room) [.ref a] w embI (fun r w' => bq (¬ v = -1) r ∧ w' = w) := by
  refine xMet_of (by decide) (Nat.le_of_ble_eq_true rfl) ?_
  intro p e s m below meth c Γ hnm
  refine x_aload_n Γ dX1_isCalled_0 rfl rfl ?_
  refine x_getf Γ kl2 11 (xv_get h hf) (by decide) k_282 (Or.inl rfl) dX1_isCalled_1 ?_
  refine x_iconst (v := (-1)) Γ dX1_isCalled_4 (by decide) ?_
  refine x_icmp_eq (tgt := 12) Γ dX1_isCalled_5 (by decide) (fun c5 => ?_) (fun c5 => ?_)
  · refine x_iconst (v := 0) Γ dX1_isCalled_12 (by decide) ?_
    exact x_iret Γ rfl rfl (fun w2 e2 => ⟨Or.inr ⟨not_not_intro c5, rfl⟩, e2⟩) ⟨Nat.le_of_ble_eq_true rfl, Nat.le_of_ble_eq_true rfl⟩ dX1_isCalled_13
  · refine x_iconst (v := 1) Γ dX1_isCalled_8 (by decide) ?_
    refine x_goto (tgt := 13) Γ dX1_isCalled_9 (by decide) ?_
    exact x_iret Γ rfl rfl (fun w2 e2 => ⟨Or.inl ⟨c5, rfl⟩, e2⟩) ⟨Nat.le_of_ble_eq_true rfl, Nat.le_of_ble_eq_true rfl⟩ dX1_isCalled_13
set_option maxRecDepth 100000 in
theorem t_beginLoan {w : xW} {a k0 : Nat} {fs : List Value} (h : w a = some (k0, .inr (2, fs))) {x z : Int32} (hlen : fs.length = 12) : xMet l G yX1_beginLoan cX1_beginLoan 3 none ({ frames := 0, cells := 0, slots := 0, locals := 0 } : Room) [.ref a, .int x, .int z] w embV (fun _ w' => w' = xu w a (k0, .inr (2, ((fs).set 10 (.int x)).set 9 (.int z)))) := by
  refine xMet_of (by decide) (Nat.le_of_ble_eq_true rfl) ?_
  intro p e s m below meth c Γ hnm
  refine x_aload_n Γ dX1_beginLoan_0 rfl rfl ?_
  refine x_iload_n Γ dX1_beginLoan_1 rfl rfl ?_
  refine x_putf (P' := fun w1 => w1 = xu w a (k0, .inr (2, (fs).set 10 (.int x)))) Γ kl2 10 (fun w9 e9 => by rw [e9]; exact ⟨_, _, h, by simp only [List.length_set, hlen]; decide, rfl⟩) (by decide) k_280 (Or.inl rfl) rfl rfl rfl dX1_beginLoan_2 ?_
  refine x_aload_n Γ dX1_beginLoan_5 rfl rfl ?_
  refine x_iload_n Γ dX1_beginLoan_6 rfl rfl ?_
  refine x_putf (P' := fun w1 => w1 = xu w a (k0, .inr (2, ((fs).set 10 (.int x)).set 9 (.int z)))) Γ kl2 9 (fun w9 e9 => by rw [e9]; exact ⟨_, _, xu_eq _ _ _, by simp only [List.length_set, hlen]; decide, xu_xu _ _ _ _⟩) (by decide) k_278 (Or.inl rfl) rfl rfl rfl dX1_beginLoan_7 ?_
  exact x_vret Γ rfl (fun w2 e2 => e2) ⟨Nat.le_of_ble_eq_true rfl, Nat.le_of_ble_eq_true rfl⟩ dX1_beginLoan_10
set_option maxRecDepth 100000 in
theorem t_endLoan {w : xW} {a k0 : Nat} {fs : List Value} (h : w a = some (k0, .inr (2, fs))) (hlen : fs.length = 12) : xMet l G yX1_endLoan cX1_endLoan 1 none ({ frames := 0, cells := 0, slots := 0, locals := 0 } : Room) [.ref a] w embV (fun _ w' => w' = xu w a (k0, .inr (2, (((fs).set 10 (.int (-1))).set 9 (.int 0)).set 11 (.int (-1))))) := by
  refine xMet_of (by decide) (Nat.le_of_ble_eq_true rfl) ?_
  intro p e s m below meth c Γ hnm
  refine x_aload_n Γ dX1_endLoan_0 rfl rfl ?_
  refine x_iconst (v := (-1)) Γ dX1_endLoan_1 (by decide) ?_
  refine x_putf (P' := fun w1 => w1 = xu w a (k0, .inr (2, (fs).set 10 (.int (-1))))) Γ kl2 10 (fun w9 e9 => by rw [e9]; exact ⟨_, _, h, by simp only [List.length_set, hlen]; decide, rfl⟩) (by decide) k_280 (Or.inl rfl) rfl rfl rfl dX1_endLoan_2 ?_
  refine x_aload_n Γ dX1_endLoan_5 rfl rfl ?_
  refine x_iconst (v := 0) Γ dX1_endLoan_6 (by decide) ?_
  refine x_putf (P' := fun w1 => w1 = xu w a (k0, .inr (2, ((fs).set 10 (.int (-1))).set 9 (.int 0)))) Γ kl2 9 (fun w9 e9 => by rw [e9]; exact ⟨_, _, xu_eq _ _ _, by simp only [List.length_set, hlen]; decide, xu_xu _ _ _ _⟩) (by decide) k_278 (Or.inl rfl) rfl rfl rfl dX1_endLoan_7 ?_
  refine x_aload_n Γ dX1_endLoan_10 rfl rfl ?_
  refine x_iconst (v := (-1)) Γ dX1_endLoan_11 (by decide) ?_
  refine x_putf (P' := fun w1 => w1 = xu w a (k0, .inr (2, (((fs).set 10 (.int (-1))).set 9 (.int 0)).set 11 (.int (-1))))) Γ kl2 11 (fun w9 e9 => by rw [e9]; exact ⟨_, _, xu_eq _ _ _, by simp only [List.length_set, hlen]; decide, xu_xu _ _ _ _⟩) (by decide) k_282 (Or.inl rfl) rfl rfl rfl dX1_endLoan_12 ?_
  exact x_vret Γ rfl (fun w2 e2 => e2) ⟨Nat.le_of_ble_eq_true rfl, Nat.le_of_ble_eq_true rfl⟩ dX1_endLoan_15
set_option maxRecDepth 100000 in
theorem t_moveTo {w : xW} {a k0 : Nat} {fs : List Value} (h : w a = some (k0, .inr (2, fs))) {np dy : Int32} {bv : Value} (hlen : fs.length = 12) (hbf : fs[6]? = some bv) (hb : bv = .null ∨ ∃ q, bv = .ref q) : xMet l G yX1_moveTo cX1_moveTo 3 none ({ frames := 2, cells := 1, slots := 3, locals := 60 } : Room) [.ref a, .int np, .int dy] w embV (fun _ w' => ∃ q, w q = none ∧ q ≠ a ∧ w' = xu (xu w q (110, .inr (1, [.int np, .int (dy + 1), bv]))) a (k0, .inr (2, (fs.set 5 (.int np)).set 6 (.ref q)))) := by
  refine xMet_of (by decide) (Nat.le_of_ble_eq_true rfl) ?_
  intro p e s m below meth c Γ hnm
  refine x_aload_n Γ dX1_moveTo_0 rfl rfl ?_
  refine x_iload_n Γ dX1_moveTo_1 rfl rfl ?_
  refine x_putf (P' := fun w1 => w1 = xu w a (k0, .inr (2, fs.set 5 (.int np)))) Γ kl2 5 (fun w9 e9 => by rw [e9]; exact ⟨_, _, h, by rw [hlen]; decide, rfl⟩) (by decide) k_271 (Or.inl rfl) rfl rfl rfl dX1_moveTo_2 ?_
  refine x_aload_n Γ dX1_moveTo_5 rfl rfl ?_
  refine x_new (F := fun q w2 => w2 = xu (xu w a (k0, .inr (2, fs.set 5 (.int np)))) q (110, .inr (1, [.int 0, .int 0, .null])) ∧ (xu w a (k0, .inr (2, fs.set 5 (.int np)))) q = none) Γ kl1 [.int 0, .int 0, .null] 110 (by decide) k_242 k_243 k_15 (fun w9 q e9 h9 => by subst e9; exact ⟨rfl, h9⟩) ⟨Nat.le_of_ble_eq_true rfl, Nat.le_of_ble_eq_true rfl⟩ dX1_moveTo_6 ?_
  intro q
  refine x_then (P2 := fun w2 => w2 = xu (xu w a (k0, .inr (2, fs.set 5 (.int np)))) q (110, .inr (1, [.int 0, .int 0, .null]))) (φ := (xu w a (k0, .inr (2, fs.set 5 (.int np)))) q = none) (fun w9 h9 => ⟨h9.2, h9.1⟩) (fun hq => ?_)
  have hqa := xu_none hq
  refine x_dup Γ dX1_moveTo_9 rfl ?_
  refine x_iload_n Γ dX1_moveTo_10 rfl rfl ?_
  refine x_iload_n Γ dX1_moveTo_11 rfl rfl ?_
  refine x_iconst (v := 1) Γ dX1_moveTo_12 (by decide) ?_
  refine x_iadd Γ dX1_moveTo_13 ?_
  refine x_aload_n Γ dX1_moveTo_14 rfl rfl ?_
  refine x_getf Γ kl2 6 (fun w9 e9 => by rw [e9]; exact ⟨_, _, by rw [xu_ne (fun z => hqa.2 z.symm)]; exact xu_eq _ _ _, by rw [List.getElem?_set_ne (by decide)]; exact hbf⟩) (by decide) k_273 (Or.inl rfl) dX1_moveTo_15 ?_
  refine x_invIN (rm := ({ frames := 1, cells := 0, slots := 0, locals := 30 } : Room)) Γ [.int np, .int (dy + 1), bv] (fun w1 _ w2 => w2 = xu w1 q (110, .inr (1, [.int np, .int (dy + 1), bv]))) rfl (fun w1 h1 => t_tag (x0 := .int 0) (x1 := .int 0) (x2 := .null) (by rw [h1]; exact xu_eq _ _ _) hb) rfl k_246 k_15 k_244 k_245 hd_X0_init ⟨Nat.le_of_ble_eq_true rfl, Nat.le_of_ble_eq_true rfl⟩ ⟨Nat.le_of_ble_eq_true rfl, Nat.le_of_ble_eq_true rfl⟩ (Nat.le_of_ble_eq_true rfl) dX1_moveTo_18 (fun _ => ?_)
  refine x_weak (P' := fun w2 => w2 = xu (xu w a (k0, .inr (2, fs.set 5 (.int np)))) q (110, .inr (1, [.int np, .int (dy + 1), bv]))) (fun w9 h9 => by obtain ⟨w8, h8, h7⟩ := h9; rw [h7, h8, xu_xu]) ?_
  refine x_putf (P' := fun w2 => w2 = xu (xu (xu w a (k0, .inr (2, fs.set 5 (.int np)))) q (110, .inr (1, [.int np, .int (dy + 1), bv]))) a (k0, .inr (2, (fs.set 5 (.int np)).set 6 (.ref q)))) Γ kl2 6 (fun w9 e9 => by rw [e9]; exact ⟨_, _, by rw [xu_ne (fun z => hqa.2 z.symm)]; exact xu_eq _ _ _, by rw [List.length_set, hlen]; decide, rfl⟩) (by decide) k_273 (Or.inl rfl) rfl rfl rfl dX1_moveTo_21 ?_
  exact x_vret Γ rfl (fun w2 e2 => ⟨q, hqa.1, hqa.2, by rw [e2, xu_4]⟩) ⟨Nat.le_of_ble_eq_true rfl, Nat.le_of_ble_eq_true rfl⟩ dX1_moveTo_24
theorem tgAt_ref {w : xW} {r : xTg} {b : Value} (h : tgAt w r b) : b = .null ∨ ∃ z, b = .ref z := by
  cases r with
  | nil => exact Or.inl h
  | cons q r =>
    obtain ⟨a, b2, h1, -⟩ := h
    exact Or.inr ⟨a, h1⟩
set_option maxRecDepth 100000 in
theorem t_placeAt {w : xW} {a k0 : Nat} {fs : List Value} (h : w a = some (k0, .inr (2, fs))) {dy : Int32} {tg : xTg} {bv : Value} (hbf : fs[6]? = some bv) (htg : tgAt w tg bv) : xMet l G yX1_placeAtBeginningOf cX1_placeAtBeginningOf 3 (some .int) ({ frames := 0, cells := 0, slots := 0, locals := 0 } : Room) [.ref a, .int dy] w embI (fun r w' => r = lkp dy tg ∧ w' = w) := by
  refine xMet_of (by decide) (Nat.le_of_ble_eq_true rfl) ?_
  intro p e s m below meth c Γ hnm
  have loop : ∀ (r : xTg) (b : Value), tgAt w r b → lkp dy r = lkp dy tg → xJ p l e ({ frames := 0, cells := 0, slots := 0, locals := 0 } : Room) s m ([.ref a, .int dy] : List Value).toArray below meth c G 3 (MQ below (xQ G embI (fun r w' => r = lkp dy tg ∧ w' = w)) ([.ref a, .int dy] : List Value).toArray s ({ frames := 0, cells := 0, slots := 0, locals := 0 } : Room).cells ({ frames := 0, cells := 0, slots := 0, locals := 0 } : Room).slots (xA G)) (fun w1 => w1 = w) 0 0 5 [(0, .ref a), (1, .int dy), (2, b)] [] := by
    intro r
    induction r with
    | nil =>
      intro b hb hF
      have hb : b = .null := hb
      subst hb
      refine x_aload_nN Γ dX1_placeAtBeginningOf_5 rfl rfl ?_
      refine x_ifnullN (tgt := 30) Γ dX1_placeAtBeginningOf_6 (by decide) ?_
      refine x_bipush (v := 12) Γ dX1_placeAtBeginningOf_30 (by decide) ?_
      exact x_iret Γ rfl rfl (fun w2 e2 => ⟨hF, e2⟩) ⟨Nat.le_of_ble_eq_true rfl, Nat.le_of_ble_eq_true rfl⟩ dX1_placeAtBeginningOf_32
    | cons q r ih =>
      intro b hb hF
      obtain ⟨a2, b2, rfl, h2, h3⟩ := hb
      rw [lkp] at hF
      refine x_aload_n Γ dX1_placeAtBeginningOf_5 rfl rfl ?_
      refine x_ifnull Γ dX1_placeAtBeginningOf_6 ?_
      refine x_aload_n Γ dX1_placeAtBeginningOf_9 rfl rfl ?_
      refine x_getfN Γ kl1 1 (xv_get h2 rfl) (by decide) k_251 dX1_placeAtBeginningOf_10 ?_
      refine x_iload_n Γ dX1_placeAtBeginningOf_13 rfl rfl ?_
      refine x_icmp_gt (tgt := 22) Γ dX1_placeAtBeginningOf_14 (by decide) (fun c14 => ?_) (fun c14 => ?_)
      · rw [if_neg (Int32.not_le.mpr c14)] at hF
        refine x_aload_n Γ dX1_placeAtBeginningOf_22 rfl rfl ?_
        refine x_getfN Γ kl1 2 (xv_get h2 rfl) (by decide) k_253 dX1_placeAtBeginningOf_23 ?_
        have hb2 : b2 = .null ∨ ∃ z, b2 = .ref z := tgAt_ref h3
        rcases hb2 with rfl | ⟨z, rfl⟩
        · refine x_astore_nN Γ dX1_placeAtBeginningOf_26 rfl rfl (by decide) ?_
          refine x_goto (tgt := 5) Γ dX1_placeAtBeginningOf_27 (by decide) ?_
          refine x_lv [0, 1, 2] rfl ?_
          exact ih _ h3 hF
        · refine x_astore_n Γ dX1_placeAtBeginningOf_26 rfl rfl (by decide) ?_
          refine x_goto (tgt := 5) Γ dX1_placeAtBeginningOf_27 (by decide) ?_
          refine x_lv [0, 1, 2] rfl ?_
          exact ih _ h3 hF
      · rw [if_pos (Int32.not_lt.mp c14)] at hF
        refine x_aload_n Γ dX1_placeAtBeginningOf_17 rfl rfl ?_
        refine x_getfN Γ kl1 0 (xv_get h2 rfl) (by decide) k_249 dX1_placeAtBeginningOf_18 ?_
        exact x_iret Γ rfl rfl (fun w2 e2 => ⟨hF, e2⟩) ⟨Nat.le_of_ble_eq_true rfl, Nat.le_of_ble_eq_true rfl⟩ dX1_placeAtBeginningOf_21
  refine x_aload_n Γ dX1_placeAtBeginningOf_0 rfl rfl ?_
  refine x_getf Γ kl2 6 (xv_get h hbf) (by decide) k_273 (Or.inl rfl) dX1_placeAtBeginningOf_1 ?_
  have hb2 : bv = .null ∨ ∃ z, bv = .ref z := tgAt_ref htg
  rcases hb2 with rfl | ⟨z, rfl⟩
  · refine x_astore_nN Γ dX1_placeAtBeginningOf_4 rfl rfl (by decide) ?_
    refine x_lv [0, 1, 2] rfl ?_
    exact loop tg _ htg rfl
  · refine x_astore_n Γ dX1_placeAtBeginningOf_4 rfl rfl (by decide) ?_
    refine x_lv [0, 1, 2] rfl ?_
    exact loop tg _ htg rfl
set_option maxRecDepth 100000 in
theorem t_thing {w : xW} {a k0 : Nat} {nu ow z c0 dy : Int32} (h : w a = some (k0, .inr (2, [.int 0, .int 0, .int 0, .int 0, .int 0, .int 0, .null, .int 0, .int 0, .int 0, .int 0, .int 0]))) : xMet l G yX1_init cX1_init 6 none ({ frames := 2, cells := 1, slots := 3, locals := 60 } : Room) [.ref a, .int nu, .int ow, .int z, .int c0, .int dy] w embV (fun _ w' => ∃ q, w q = none ∧ q ≠ a ∧ w' = xu (xu w q (110, .inr (1, [.int c0, .int (dy + 1), .null]))) a (k0, .inr (2, [.int nu, .int ow, .int z, .int dy, .int (20 * z), .int c0, .ref q, .int (-1), .int 0, .int 0, .int (-1), .int (-1)]))) := by
  refine xMet_of (by decide) (Nat.le_of_ble_eq_true rfl) ?_
  intro p e s m below meth c Γ hnm
  refine x_aload_n Γ dX1_init_0 rfl rfl ?_
  refine x_obj Γ k_241 ⟨Nat.le_of_ble_eq_true rfl, Nat.le_of_ble_eq_true rfl⟩ dX1_init_1 ?_
  refine x_aload_n Γ dX1_init_4 rfl rfl ?_
  refine x_iconst (v := (-1)) Γ dX1_init_5 (by decide) ?_
  refine x_putf (P' := fun w1 => w1 = xu w a (k0, .inr (2, [.int 0, .int 0, .int 0, .int 0, .int 0, .int 0, .null, .int (-1), .int 0, .int 0, .int 0, .int 0]))) Γ kl2 7 (fun w9 e9 => by rw [e9]; exact ⟨_, _, h, Nat.le_of_ble_eq_true rfl, rfl⟩) (by decide) k_274 (Or.inl rfl) rfl rfl rfl dX1_init_6 ?_
  refine x_aload_n Γ dX1_init_9 rfl rfl ?_
  refine x_iconst (v := 0) Γ dX1_init_10 (by decide) ?_
  refine x_putf (P' := fun w1 => w1 = xu w a (k0, .inr (2, [.int 0, .int 0, .int 0, .int 0, .int 0, .int 0, .null, .int (-1), .int 0, .int 0, .int 0, .int 0]))) Γ kl2 8 (fun w9 e9 => by rw [e9]; exact ⟨_, _, xu_eq _ _ _, Nat.le_of_ble_eq_true rfl, xu_xu _ _ _ _⟩) (by decide) k_276 (Or.inl rfl) rfl rfl rfl dX1_init_11 ?_
  refine x_aload_n Γ dX1_init_14 rfl rfl ?_
  refine x_iconst (v := 0) Γ dX1_init_15 (by decide) ?_
  refine x_putf (P' := fun w1 => w1 = xu w a (k0, .inr (2, [.int 0, .int 0, .int 0, .int 0, .int 0, .int 0, .null, .int (-1), .int 0, .int 0, .int 0, .int 0]))) Γ kl2 9 (fun w9 e9 => by rw [e9]; exact ⟨_, _, xu_eq _ _ _, Nat.le_of_ble_eq_true rfl, xu_xu _ _ _ _⟩) (by decide) k_278 (Or.inl rfl) rfl rfl rfl dX1_init_16 ?_
  refine x_aload_n Γ dX1_init_19 rfl rfl ?_
  refine x_iconst (v := (-1)) Γ dX1_init_20 (by decide) ?_
  refine x_putf (P' := fun w1 => w1 = xu w a (k0, .inr (2, [.int 0, .int 0, .int 0, .int 0, .int 0, .int 0, .null, .int (-1), .int 0, .int 0, .int (-1), .int 0]))) Γ kl2 10 (fun w9 e9 => by rw [e9]; exact ⟨_, _, xu_eq _ _ _, Nat.le_of_ble_eq_true rfl, xu_xu _ _ _ _⟩) (by decide) k_280 (Or.inl rfl) rfl rfl rfl dX1_init_21 ?_
  refine x_aload_n Γ dX1_init_24 rfl rfl ?_
  refine x_iconst (v := (-1)) Γ dX1_init_25 (by decide) ?_
  refine x_putf (P' := fun w1 => w1 = xu w a (k0, .inr (2, [.int 0, .int 0, .int 0, .int 0, .int 0, .int 0, .null, .int (-1), .int 0, .int 0, .int (-1), .int (-1)]))) Γ kl2 11 (fun w9 e9 => by rw [e9]; exact ⟨_, _, xu_eq _ _ _, Nat.le_of_ble_eq_true rfl, xu_xu _ _ _ _⟩) (by decide) k_282 (Or.inl rfl) rfl rfl rfl dX1_init_26 ?_
  refine x_aload_n Γ dX1_init_29 rfl rfl ?_
  refine x_iload_n Γ dX1_init_30 rfl rfl ?_
  refine x_putfF (P' := fun w1 => w1 = xu w a (k0, .inr (2, [.int nu, .int 0, .int 0, .int 0, .int 0, .int 0, .null, .int (-1), .int 0, .int 0, .int (-1), .int (-1)]))) Γ hnm kl2 0 (fun w9 e9 => by rw [e9]; exact ⟨_, _, xu_eq _ _ _, Nat.le_of_ble_eq_true rfl, xu_xu _ _ _ _⟩) (by decide) k_261 rfl rfl rfl rfl dX1_init_31 ?_
  refine x_aload_n Γ dX1_init_34 rfl rfl ?_
  refine x_iload_n Γ dX1_init_35 rfl rfl ?_
  refine x_putfF (P' := fun w1 => w1 = xu w a (k0, .inr (2, [.int nu, .int ow, .int 0, .int 0, .int 0, .int 0, .null, .int (-1), .int 0, .int 0, .int (-1), .int (-1)]))) Γ hnm kl2 1 (fun w9 e9 => by rw [e9]; exact ⟨_, _, xu_eq _ _ _, Nat.le_of_ble_eq_true rfl, xu_xu _ _ _ _⟩) (by decide) k_263 rfl rfl rfl rfl dX1_init_36 ?_
  refine x_aload_n Γ dX1_init_39 rfl rfl ?_
  refine x_iload_n Γ dX1_init_40 rfl rfl ?_
  refine x_putfF (P' := fun w1 => w1 = xu w a (k0, .inr (2, [.int nu, .int ow, .int z, .int 0, .int 0, .int 0, .null, .int (-1), .int 0, .int 0, .int (-1), .int (-1)]))) Γ hnm kl2 2 (fun w9 e9 => by rw [e9]; exact ⟨_, _, xu_eq _ _ _, Nat.le_of_ble_eq_true rfl, xu_xu _ _ _ _⟩) (by decide) k_265 rfl rfl rfl rfl dX1_init_41 ?_
  refine x_aload_n Γ dX1_init_44 rfl rfl ?_
  refine x_iload Γ dX1_init_45 rfl ?_
  refine x_putfF (P' := fun w1 => w1 = xu w a (k0, .inr (2, [.int nu, .int ow, .int z, .int dy, .int 0, .int 0, .null, .int (-1), .int 0, .int 0, .int (-1), .int (-1)]))) Γ hnm kl2 3 (fun w9 e9 => by rw [e9]; exact ⟨_, _, xu_eq _ _ _, Nat.le_of_ble_eq_true rfl, xu_xu _ _ _ _⟩) (by decide) k_267 rfl rfl rfl rfl dX1_init_47 ?_
  refine x_aload_n Γ dX1_init_50 rfl rfl ?_
  refine x_bipush (v := 20) Γ dX1_init_51 (by decide) ?_
  refine x_iload_n Γ dX1_init_53 rfl rfl ?_
  refine x_imul Γ dX1_init_54 ?_
  refine x_putf (P' := fun w1 => w1 = xu w a (k0, .inr (2, [.int nu, .int ow, .int z, .int dy, .int (20 * z), .int 0, .null, .int (-1), .int 0, .int 0, .int (-1), .int (-1)]))) Γ kl2 4 (fun w9 e9 => by rw [e9]; exact ⟨_, _, xu_eq _ _ _, Nat.le_of_ble_eq_true rfl, xu_xu _ _ _ _⟩) (by decide) k_269 (Or.inl rfl) rfl rfl rfl dX1_init_55 ?_
  refine x_aload_n Γ dX1_init_58 rfl rfl ?_
  refine x_iload Γ dX1_init_59 rfl ?_
  refine x_putf (P' := fun w1 => w1 = xu w a (k0, .inr (2, [.int nu, .int ow, .int z, .int dy, .int (20 * z), .int c0, .null, .int (-1), .int 0, .int 0, .int (-1), .int (-1)]))) Γ kl2 5 (fun w9 e9 => by rw [e9]; exact ⟨_, _, xu_eq _ _ _, Nat.le_of_ble_eq_true rfl, xu_xu _ _ _ _⟩) (by decide) k_271 (Or.inl rfl) rfl rfl rfl dX1_init_61 ?_
  refine x_aload_n Γ dX1_init_64 rfl rfl ?_
  refine x_new (F := fun q w2 => w2 = xu (xu w a (k0, .inr (2, [.int nu, .int ow, .int z, .int dy, .int (20 * z), .int c0, .null, .int (-1), .int 0, .int 0, .int (-1), .int (-1)]))) q (110, .inr (1, [.int 0, .int 0, .null])) ∧ (xu w a (k0, .inr (2, [.int nu, .int ow, .int z, .int dy, .int (20 * z), .int c0, .null, .int (-1), .int 0, .int 0, .int (-1), .int (-1)]))) q = none) Γ kl1 [.int 0, .int 0, .null] 110 (by decide) k_242 k_243 k_15 (fun w9 q e9 h9 => by subst e9; exact ⟨rfl, h9⟩) ⟨Nat.le_of_ble_eq_true rfl, Nat.le_of_ble_eq_true rfl⟩ dX1_init_65 ?_
  intro q
  refine x_then (P2 := fun w2 => w2 = xu (xu w a (k0, .inr (2, [.int nu, .int ow, .int z, .int dy, .int (20 * z), .int c0, .null, .int (-1), .int 0, .int 0, .int (-1), .int (-1)]))) q (110, .inr (1, [.int 0, .int 0, .null]))) (φ := (xu w a (k0, .inr (2, [.int nu, .int ow, .int z, .int dy, .int (20 * z), .int c0, .null, .int (-1), .int 0, .int 0, .int (-1), .int (-1)]))) q = none) (fun w9 h9 => ⟨h9.2, h9.1⟩) (fun hq => ?_)
  have hqa := xu_none hq
  refine x_dup Γ dX1_init_68 rfl ?_
  refine x_iload Γ dX1_init_69 rfl ?_
  refine x_iload Γ dX1_init_71 rfl ?_
  refine x_iconst (v := 1) Γ dX1_init_73 (by decide) ?_
  refine x_iadd Γ dX1_init_74 ?_
  refine x_null Γ dX1_init_75 ?_
  refine x_invIN (rm := ({ frames := 1, cells := 0, slots := 0, locals := 30 } : Room)) Γ [.int c0, .int (dy + 1), .null] (fun w1 _ w2 => w2 = xu w1 q (110, .inr (1, [.int c0, .int (dy + 1), .null]))) rfl (fun w1 h1 => t_tag (x0 := .int 0) (x1 := .int 0) (x2 := .null) (by rw [h1]; exact xu_eq _ _ _) (Or.inl rfl)) rfl k_246 k_15 k_244 k_245 hd_X0_init ⟨Nat.le_of_ble_eq_true rfl, Nat.le_of_ble_eq_true rfl⟩ ⟨Nat.le_of_ble_eq_true rfl, Nat.le_of_ble_eq_true rfl⟩ (Nat.le_of_ble_eq_true rfl) dX1_init_76 (fun _ => ?_)
  refine x_weak (P' := fun w2 => w2 = xu (xu w a (k0, .inr (2, [.int nu, .int ow, .int z, .int dy, .int (20 * z), .int c0, .null, .int (-1), .int 0, .int 0, .int (-1), .int (-1)]))) q (110, .inr (1, [.int c0, .int (dy + 1), .null]))) (fun w9 h9 => by obtain ⟨w8, h8, h7⟩ := h9; rw [h7, h8, xu_xu]) ?_
  refine x_putf (P' := fun w2 => w2 = xu (xu (xu w a (k0, .inr (2, [.int nu, .int ow, .int z, .int dy, .int (20 * z), .int c0, .null, .int (-1), .int 0, .int 0, .int (-1), .int (-1)]))) q (110, .inr (1, [.int c0, .int (dy + 1), .null]))) a (k0, .inr (2, [.int nu, .int ow, .int z, .int dy, .int (20 * z), .int c0, .ref q, .int (-1), .int 0, .int 0, .int (-1), .int (-1)]))) Γ kl2 6 (fun w9 e9 => by rw [e9]; exact ⟨_, _, by rw [xu_ne (fun z => hqa.2 z.symm)]; exact xu_eq _ _ _, Nat.le_of_ble_eq_true rfl, rfl⟩) (by decide) k_273 (Or.inl rfl) rfl rfl rfl dX1_init_79 ?_
  exact x_vret Γ rfl (fun w2 e2 => ⟨q, hqa.1, hqa.2, by rw [e2, xu_4]⟩) ⟨Nat.le_of_ble_eq_true rfl, Nat.le_of_ble_eq_true rfl⟩ dX1_init_82
end XC1

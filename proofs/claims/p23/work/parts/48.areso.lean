section XLA
/-- what was seen, when t things have been looked at -/
def zSeen (Z A : xS) (t : Nat) : xS := fun j i => if j = 3 ∧ i < t then A 9 i else Z j i
theorem zSeen_0 (Z A : xS) : zSeen Z A 0 = Z := funext fun j => funext fun i => if_neg (fun h => absurd h.2 (Nat.not_lt_zero i))
theorem zSeen_s (Z A : xS) (t : Nat) : mU (zSeen Z A t) 3 t (A 9 t) = zSeen Z A (t + 1) := by
  funext j i
  by_cases hj : j = 3
  · subst hj
    by_cases hi : i = t
    · subst hi
      rw [mU_eq]
      show _ = (if 3 = 3 ∧ i < i + 1 then A 9 i else Z 3 i)
      rw [if_pos ⟨rfl, by omega⟩]
    · rw [mU_i hi]
      show (if 3 = 3 ∧ i < t then A 9 i else Z 3 i) = (if 3 = 3 ∧ i < t + 1 then A 9 i else Z 3 i)
      by_cases h : i < t
      · rw [if_pos ⟨rfl, h⟩, if_pos ⟨rfl, by omega⟩]
      · rw [if_neg (fun z => h z.2), if_neg (fun z => h (by omega))]
  · rw [mU_j hj]
    show (if j = 3 ∧ i < t then A 9 i else Z j i) = (if j = 3 ∧ i < t + 1 then A 9 i else Z j i)
    rw [if_neg (fun z => hj z.1), if_neg (fun z => hj z.1)]
theorem zSeen_j {Z A : xS} {t j : Nat} (h : j ≠ 3) : zSeen Z A t j = Z j := funext fun i => if_neg (fun z => h z.1)
theorem zSeen_at (Z A : xS) (t : Nat) : zSeen Z A t 3 t = Z 3 t := if_neg (fun z => Nat.lt_irrefl _ z.2)
theorem ld_ten {A : xS} {n D F mm c : Nat} (hJ : jI A n D F mm) (hn : n ≤ 24) (hc : c < 5) : ldF A (nI c) n ≤ 10 := by
  have h1 := ldF_int (A := A) (c := nI c) (N := n) (by omega) hJ.2.1 n (Nat.le_refl n)
  have h2 := hJ.2.2.1 c hc
  rw [i_le, h1, show (10 : Int32).toInt = 10 by decide]
  exact h2
variable {l : Launch} {G : xG} {p : Program} {e : Env} {s : State} {m : MethodId} {below : List Frame} {meth : Method} {c : Code}
variable {ca aa th : Nat → Nat} {A : xS} {n : Nat} {L : List Nat} {D m1 : Nat} {Z : xS}
set_option maxRecDepth 100000 in
theorem ar_in (Γ : xC p s m meth c G cL_areSo 7 yL_areSo.cls (some .boolean)) (hF : fI A n L D) (hJ : jI A n D (6 * D) m1) (hz : ∀ t, t < n → Z 1 t = A 7 t) (hn : n ≤ 24) {q : Nat} (kk : xJ p l e ({ frames := 7, cells := 0, slots := 0, locals := 200 } : Room) s m ([.ref (ca 0), .ref (aa 1), .ref (aa 3)] : List Value).toArray below meth c G 7 (MQ below (xQ G embI (fun r w' => r = 1 ∧ lP G ca aa A n L D th (zSeen Z A n) w')) ([.ref (ca 0), .ref (aa 1), .ref (aa 3)] : List Value).toArray s ({ frames := 7, cells := 0, slots := 0, locals := 200 } : Room).cells ({ frames := 7, cells := 0, slots := 0, locals := 200 } : Room).slots (xA G)) (lP G ca aa A n L D th Z) 0 0 59 [(0, .ref (ca 0)), (1, .ref (aa 1)), (2, .ref (aa 3)), (3, .int (nI D)), (4, .int (nI q)), (5, .int (ldF A (nI q) n)), (6, .int (nI n))] []) : ∀ d t, t + d = n → xJ p l e ({ frames := 7, cells := 0, slots := 0, locals := 200 } : Room) s m ([.ref (ca 0), .ref (aa 1), .ref (aa 3)] : List Value).toArray below meth c G 7 (MQ below (xQ G embI (fun r w' => r = 1 ∧ lP G ca aa A n L D th (zSeen Z A n) w')) ([.ref (ca 0), .ref (aa 1), .ref (aa 3)] : List Value).toArray s ({ frames := 7, cells := 0, slots := 0, locals := 200 } : Room).cells ({ frames := 7, cells := 0, slots := 0, locals := 200 } : Room).slots (xA G)) (lP G ca aa A n L D th Z) 0 0 20 [(0, .ref (ca 0)), (1, .ref (aa 1)), (2, .ref (aa 3)), (3, .int (nI D)), (4, .int (nI q)), (5, .int (ldF A (nI q) t)), (6, .int (nI t))] [] := by
  intro d
  induction d with
  | zero =>
    intro t htd
    obtain rfl : n = t := by omega
    refine x_iload Γ dL_areSo_20 rfl ?_
    refine x_aload_n Γ dL_areSo_22 rfl rfl ?_
    refine x_invV (emb := embI) (ci := 3) (rm := RS1) Γ [] (fun w1 r w2 => r = nI n ∧ lP G ca aa A n L D th Z w2) rfl (fun w1 h1 => l_things h1 hF) lP.obj rfl k_87 k_1 k_2295 k_85 k_86 hd_X2_things ⟨Nat.le_of_ble_eq_true rfl, Nat.le_of_ble_eq_true rfl⟩ ⟨Nat.le_of_ble_eq_true rfl, Nat.le_of_ble_eq_true rfl⟩ (Nat.le_of_ble_eq_true rfl) dL_areSo_23 (fun r => ?_)
    refine x_then (P2 := lP G ca aa A n L D th Z) (φ := r = nI n) (fun w2 h2 => by obtain ⟨w1, -, h3, h4⟩ := h2; exact ⟨h3, h4⟩) (fun e9 => ?_)
    subst e9
    refine x_icmp_ge (tgt := 59) Γ dL_areSo_26 (by decide) (fun c26 => ?_) (fun c26 => absurd (Int32.le_refl _) c26)
    exact kk
  | succ d ih =>
    intro t htd
    have ht : t < n := by omega
    refine x_iload Γ dL_areSo_20 rfl ?_
    refine x_aload_n Γ dL_areSo_22 rfl rfl ?_
    refine x_invV (emb := embI) (ci := 3) (rm := RS1) Γ [] (fun w1 r w2 => r = nI n ∧ lP G ca aa A n L D th Z w2) rfl (fun w1 h1 => l_things h1 hF) lP.obj rfl k_87 k_1 k_2295 k_85 k_86 hd_X2_things ⟨Nat.le_of_ble_eq_true rfl, Nat.le_of_ble_eq_true rfl⟩ ⟨Nat.le_of_ble_eq_true rfl, Nat.le_of_ble_eq_true rfl⟩ (Nat.le_of_ble_eq_true rfl) dL_areSo_23 (fun r => ?_)
    refine x_then (P2 := lP G ca aa A n L D th Z) (φ := r = nI n) (fun w2 h2 => by obtain ⟨w1, -, h3, h4⟩ := h2; exact ⟨h3, h4⟩) (fun e9 => ?_)
    subst e9
    refine x_icmp_ge (tgt := 59) Γ dL_areSo_26 (by decide) (fun c26 => absurd c26 (nI_ge ht (by omega))) (fun c26 => ?_)
    refine x_iload Γ dL_areSo_29 rfl ?_
    refine x_aload_n Γ dL_areSo_31 rfl rfl ?_
    refine x_iload Γ dL_areSo_32 rfl ?_
    refine x_invV (emb := embI) (ci := 3) (rm := RQ) Γ [.int (nI t)] (fun w1 r w2 => r = A 9 t ∧ lP G ca aa A n L D th Z w2) rfl (fun w1 h1 => l_where h1 hF ht) lP.obj rfl k_522 k_1 k_2299 k_520 k_521 hd_X2_where ⟨Nat.le_of_ble_eq_true rfl, Nat.le_of_ble_eq_true rfl⟩ ⟨Nat.le_of_ble_eq_true rfl, Nat.le_of_ble_eq_true rfl⟩ (Nat.le_of_ble_eq_true rfl) dL_areSo_34 (fun r => ?_)
    refine x_then (P2 := lP G ca aa A n L D th Z) (φ := r = A 9 t) (fun w2 h2 => by obtain ⟨w1, -, h3, h4⟩ := h2; exact ⟨h3, h4⟩) (fun e9 => ?_)
    subst e9
    refine x_iload Γ dL_areSo_37 rfl ?_
    refine x_icmp_ne (tgt := 49) Γ dL_areSo_39 (by decide) (fun c39 => ?_) (fun c39 => ?_)
    · refine x_iconst (v := 0) Γ dL_areSo_49 (by decide) ?_
      refine x_iadd Γ dL_areSo_50 ?_
      rw [show ldF A (nI q) t + 0 = ldF A (nI q) (t + 1) by rw [ldF, if_neg c39]]
      refine x_istore Γ dL_areSo_51 rfl (by decide) ?_
      refine x_iinc (v := nI (t + 1)) Γ dL_areSo_53 rfl (nI_1 t) rfl (by decide) ?_
      refine x_goto (tgt := 20) Γ dL_areSo_56 (by decide) ?_
      refine x_lv [0, 1, 2, 3, 4, 5, 6] rfl ?_
      exact ih (t + 1) (by omega)
    · refine x_aload_n Γ dL_areSo_42 rfl rfl ?_
      refine x_iload Γ dL_areSo_43 rfl ?_
      refine x_iald (N := 24) (f := Z 1) (x := A 7 t) Γ (lP.arr ⟨by decide, by decide⟩) (vp_in_nI (by omega) (by decide)) (by rw [nI_clamp (by omega)]; exact hz t ht) dL_areSo_45 ?_
      refine x_goto (tgt := 50) Γ dL_areSo_46 (by decide) ?_
      refine x_iadd Γ dL_areSo_50 ?_
      rw [show ldF A (nI q) t + A 7 t = ldF A (nI q) (t + 1) by rw [ldF, if_pos c39]]
      refine x_istore Γ dL_areSo_51 rfl (by decide) ?_
      refine x_iinc (v := nI (t + 1)) Γ dL_areSo_53 rfl (nI_1 t) rfl (by decide) ?_
      refine x_goto (tgt := 20) Γ dL_areSo_56 (by decide) ?_
      refine x_lv [0, 1, 2, 3, 4, 5, 6] rfl ?_
      exact ih (t + 1) (by omega)
set_option maxRecDepth 100000 in
theorem ar_out (Γ : xC p s m meth c G cL_areSo 7 yL_areSo.cls (some .boolean)) (hF : fI A n L D) (hJ : jI A n D (6 * D) m1) (hz : ∀ t, t < n → Z 1 t = A 7 t) (hn : n ≤ 24) (kk : xJ p l e ({ frames := 7, cells := 0, slots := 0, locals := 200 } : Room) s m ([.ref (ca 0), .ref (aa 1), .ref (aa 3)] : List Value).toArray below meth c G 7 (MQ below (xQ G embI (fun r w' => r = 1 ∧ lP G ca aa A n L D th (zSeen Z A n) w')) ([.ref (ca 0), .ref (aa 1), .ref (aa 3)] : List Value).toArray s ({ frames := 7, cells := 0, slots := 0, locals := 200 } : Room).cells ({ frames := 7, cells := 0, slots := 0, locals := 200 } : Room).slots (xA G)) (lP G ca aa A n L D th Z) 0 0 85 [(0, .ref (ca 0)), (1, .ref (aa 1)), (2, .ref (aa 3)), (3, .int (nI D))] []) : ∀ d q lx, q + d = 5 → xpick lx [0, 1, 2, 3, 4] = [(0, .ref (ca 0)), (1, .ref (aa 1)), (2, .ref (aa 3)), (3, .int (nI D)), (4, .int (nI q))] → xJ p l e ({ frames := 7, cells := 0, slots := 0, locals := 200 } : Room) s m ([.ref (ca 0), .ref (aa 1), .ref (aa 3)] : List Value).toArray below meth c G 7 (MQ below (xQ G embI (fun r w' => r = 1 ∧ lP G ca aa A n L D th (zSeen Z A n) w')) ([.ref (ca 0), .ref (aa 1), .ref (aa 3)] : List Value).toArray s ({ frames := 7, cells := 0, slots := 0, locals := 200 } : Room).cells ({ frames := 7, cells := 0, slots := 0, locals := 200 } : Room).slots (xA G)) (lP G ca aa A n L D th Z) 0 0 8 lx [] := by
  intro d
  induction d with
  | zero =>
    intro q lx hq hlx
    obtain rfl : q = 5 := by omega
    refine x_lv [0, 1, 2, 3, 4] hlx ?_
    refine x_iload Γ dL_areSo_8 rfl ?_
    refine x_iconst (v := 5) Γ dL_areSo_10 (by decide) ?_
    refine x_icmp_ge (tgt := 85) Γ dL_areSo_11 (by decide) (fun c11 => ?_) (fun c11 => absurd (Int32.le_refl _) c11)
    refine x_lv [0, 1, 2, 3] rfl ?_
    exact kk
  | succ d ih =>
    intro q lx hq hlx
    refine x_lv [0, 1, 2, 3, 4] hlx ?_
    refine x_iload Γ dL_areSo_8 rfl ?_
    refine x_iconst (v := 5) Γ dL_areSo_10 (by decide) ?_
    refine x_icmp_ge (tgt := 85) Γ dL_areSo_11 (by decide) (fun c11 => absurd c11 (nI_ge (b := 5) (by omega) (by decide))) (fun c11 => ?_)
    refine x_iconst (v := 0) Γ dL_areSo_14 (by decide) ?_
    refine x_istore Γ dL_areSo_15 rfl (by decide) ?_
    refine x_iconst (v := 0) Γ dL_areSo_17 (by decide) ?_
    refine x_istore Γ dL_areSo_18 rfl (by decide) ?_
    refine x_lv [0, 1, 2, 3, 4, 5, 6] rfl ?_
    refine ar_in Γ hF hJ hz hn (q := q) ?_ n 0 (by omega)
    refine x_iload Γ dL_areSo_59 rfl ?_
    refine x_aload_n Γ dL_areSo_61 rfl rfl ?_
    refine x_iload Γ dL_areSo_62 rfl ?_
    refine x_invV (emb := embI) (ci := 3) (rm := RQ) Γ [.int (nI q)] (fun w1 r w2 => r = ldF A (nI q) n ∧ lP G ca aa A n L D th Z w2) rfl (fun w1 h1 => l_load h1 hF (by omega)) lP.obj rfl k_541 k_1 k_2356 k_539 k_540 hd_X2_load ⟨Nat.le_of_ble_eq_true rfl, Nat.le_of_ble_eq_true rfl⟩ ⟨Nat.le_of_ble_eq_true rfl, Nat.le_of_ble_eq_true rfl⟩ (Nat.le_of_ble_eq_true rfl) dL_areSo_64 (fun r => ?_)
    refine x_then (P2 := lP G ca aa A n L D th Z) (φ := r = ldF A (nI q) n) (fun w2 h2 => by obtain ⟨w1, -, h3, h4⟩ := h2; exact ⟨h3, h4⟩) (fun e9 => ?_)
    subst e9
    refine x_icmp_ne (tgt := 77) Γ dL_areSo_67 (by decide) (fun c67 => absurd (rfl) c67) (fun c67 => ?_)
    refine x_iload Γ dL_areSo_70 rfl ?_
    refine x_bipush (v := 10) Γ dL_areSo_72 (by decide) ?_
    refine x_icmp_le (tgt := 79) Γ dL_areSo_74 (by decide) (fun c74 => ?_) (fun c74 => ?_)
    · refine x_iinc (v := nI (q + 1)) Γ dL_areSo_79 rfl (nI_1 q) rfl (by decide) ?_
      refine x_goto (tgt := 8) Γ dL_areSo_82 (by decide) ?_
      exact ih (q + 1) _ (by omega) rfl
    · exact absurd (ld_ten hJ hn (show q < 5 by omega)) c74
set_option maxRecDepth 100000 in
theorem ar_two (Γ : xC p s m meth c G cL_areSo 7 yL_areSo.cls (some .boolean)) (hF : fI A n L D) (hJ : jI A n D (6 * D) m1) (hz : ∀ t, t < n → Z 1 t = A 7 t) (hn : n ≤ 24) (hsee : ∀ t, t < 24 → Z 3 t < 10 ∨ (t < n ∧ A 9 t = Z 3 t)) : ∀ d t lx, t + d = n → xpick lx [0, 1, 2, 3, 4, 5] = [(0, .ref (ca 0)), (1, .ref (aa 1)), (2, .ref (aa 3)), (3, .int (nI D)), (4, .int 1), (5, .int (nI t))] → xJ p l e ({ frames := 7, cells := 0, slots := 0, locals := 200 } : Room) s m ([.ref (ca 0), .ref (aa 1), .ref (aa 3)] : List Value).toArray below meth c G 7 (MQ below (xQ G embI (fun r w' => r = 1 ∧ lP G ca aa A n L D th (zSeen Z A n) w')) ([.ref (ca 0), .ref (aa 1), .ref (aa 3)] : List Value).toArray s ({ frames := 7, cells := 0, slots := 0, locals := 200 } : Room).cells ({ frames := 7, cells := 0, slots := 0, locals := 200 } : Room).slots (xA G)) (lP G ca aa A n L D th (zSeen Z A t)) 0 0 91 lx [] := by
  intro d
  induction d with
  | zero =>
    intro t lx htd hlx
    obtain rfl : n = t := by omega
    refine x_lv [0, 1, 2, 3, 4, 5] hlx ?_
    refine x_iload Γ dL_areSo_91 rfl ?_
    refine x_aload_n Γ dL_areSo_93 rfl rfl ?_
    refine x_invV (emb := embI) (ci := 3) (rm := RS1) Γ [] (fun w1 r w2 => r = nI n ∧ lP G ca aa A n L D th (zSeen Z A n) w2) rfl (fun w1 h1 => l_things h1 hF) lP.obj rfl k_87 k_1 k_2295 k_85 k_86 hd_X2_things ⟨Nat.le_of_ble_eq_true rfl, Nat.le_of_ble_eq_true rfl⟩ ⟨Nat.le_of_ble_eq_true rfl, Nat.le_of_ble_eq_true rfl⟩ (Nat.le_of_ble_eq_true rfl) dL_areSo_94 (fun r => ?_)
    refine x_then (P2 := lP G ca aa A n L D th (zSeen Z A n)) (φ := r = nI n) (fun w2 h2 => by obtain ⟨w1, -, h3, h4⟩ := h2; exact ⟨h3, h4⟩) (fun e9 => ?_)
    subst e9
    refine x_icmp_ge (tgt := 193) Γ dL_areSo_97 (by decide) (fun c97 => ?_) (fun c97 => absurd (Int32.le_refl _) c97)
    refine x_iload Γ dL_areSo_193 rfl ?_
    exact x_iret Γ rfl rfl (fun w2 e2 => ⟨rfl, e2⟩) ⟨Nat.le_of_ble_eq_true rfl, Nat.le_of_ble_eq_true rfl⟩ dL_areSo_195
  | succ d ih =>
    intro t lx htd hlx
    have ht : t < n := by omega
    refine x_lv [0, 1, 2, 3, 4, 5] hlx ?_
    have k174 : xJ p l e ({ frames := 7, cells := 0, slots := 0, locals := 200 } : Room) s m ([.ref (ca 0), .ref (aa 1), .ref (aa 3)] : List Value).toArray below meth c G 7 (MQ below (xQ G embI (fun r w' => r = 1 ∧ lP G ca aa A n L D th (zSeen Z A n) w')) ([.ref (ca 0), .ref (aa 1), .ref (aa 3)] : List Value).toArray s ({ frames := 7, cells := 0, slots := 0, locals := 200 } : Room).cells ({ frames := 7, cells := 0, slots := 0, locals := 200 } : Room).slots (xA G)) (lP G ca aa A n L D th (zSeen Z A t)) 0 0 174 [(0, .ref (ca 0)), (1, .ref (aa 1)), (2, .ref (aa 3)), (3, .int (nI D)), (4, .int 1), (5, .int (nI t)), (6, .int (A 9 t))] [] := by
      refine x_iconst (v := 1) Γ dL_areSo_174 (by decide) ?_
      refine x_goto (tgt := 179) Γ dL_areSo_175 (by decide) ?_
      refine x_istore Γ dL_areSo_179 rfl (by decide) ?_
      refine x_aload_n Γ dL_areSo_181 rfl rfl ?_
      refine x_iload Γ dL_areSo_182 rfl ?_
      refine x_iload Γ dL_areSo_184 rfl ?_
      refine x_iast (N := 24) (f := zSeen Z A t 3) (P' := lP G ca aa A n L D th (zSeen Z A (t + 1))) Γ (fun w1 h1 => ?_) (vp_in_nI (by omega) (by decide)) dL_areSo_186 ?_
      · rw [nI_clamp (by omega), ← zSeen_s]
        exact lP.ast ⟨by decide, by decide⟩ t _ w1 h1
      refine x_iinc (v := nI (t + 1)) Γ dL_areSo_187 rfl (nI_1 t) rfl (by decide) ?_
      refine x_goto (tgt := 91) Γ dL_areSo_190 (by decide) ?_
      exact ih (t + 1) _ (by omega) rfl
    have k158 : xJ p l e ({ frames := 7, cells := 0, slots := 0, locals := 200 } : Room) s m ([.ref (ca 0), .ref (aa 1), .ref (aa 3)] : List Value).toArray below meth c G 7 (MQ below (xQ G embI (fun r w' => r = 1 ∧ lP G ca aa A n L D th (zSeen Z A n) w')) ([.ref (ca 0), .ref (aa 1), .ref (aa 3)] : List Value).toArray s ({ frames := 7, cells := 0, slots := 0, locals := 200 } : Room).cells ({ frames := 7, cells := 0, slots := 0, locals := 200 } : Room).slots (xA G)) (lP G ca aa A n L D th (zSeen Z A t)) 0 0 158 [(0, .ref (ca 0)), (1, .ref (aa 1)), (2, .ref (aa 3)), (3, .int (nI D)), (4, .int 1), (5, .int (nI t)), (6, .int (A 9 t))] [] := by
      refine x_iload_n Γ dL_areSo_158 rfl rfl ?_
      refine x_if_eq (tgt := 174) Γ dL_areSo_159 (by decide) (fun c159 => ?_) (fun c159 => ?_)
      · exact k174
      · have hD0 : 0 < D := by
          rcases Nat.eq_zero_or_pos D with h0 | h0
          · subst h0; exact absurd rfl c159
          · exact h0
        refine x_aload_n Γ dL_areSo_162 rfl rfl ?_
        refine x_iload Γ dL_areSo_163 rfl ?_
        refine x_iconst (v := nI 0) Γ dL_areSo_165 (by decide) ?_
        refine x_invV (emb := embI) (ci := 3) (rm := RQ) Γ [.int (nI t), .int (nI 0)] (fun w1 r w2 => r = (if 0 = D then A 9 t else A 18 (24 * 0 + t)) ∧ lP G ca aa A n L D th (zSeen Z A t) w2) rfl (fun w1 h1 => l_whereOn h1 hF ht (Nat.zero_le D)) lP.obj rfl k_529 k_1 k_2323 k_527 k_528 hd_X2_whereOn ⟨Nat.le_of_ble_eq_true rfl, Nat.le_of_ble_eq_true rfl⟩ ⟨Nat.le_of_ble_eq_true rfl, Nat.le_of_ble_eq_true rfl⟩ (Nat.le_of_ble_eq_true rfl) dL_areSo_166 (fun r => ?_)
        refine x_then (P2 := lP G ca aa A n L D th (zSeen Z A t)) (φ := r = (if 0 = D then A 9 t else A 18 (24 * 0 + t))) (fun w2 h2 => by obtain ⟨w1, -, h3, h4⟩ := h2; exact ⟨h3, h4⟩) (fun e9 => ?_)
        rw [if_neg (by omega), show 24 * 0 + t = t by omega, hJ.2.2.2.2.2.2.2.2.2 t (by omega)] at e9
        subst e9
        refine x_bipush (v := 12) Γ dL_areSo_169 (by decide) ?_
        refine x_icmp_ne (tgt := 178) Γ dL_areSo_171 (by decide) (fun c171 => absurd (rfl) c171) (fun c171 => ?_)
        exact k174
    have k140 : xJ p l e ({ frames := 7, cells := 0, slots := 0, locals := 200 } : Room) s m ([.ref (ca 0), .ref (aa 1), .ref (aa 3)] : List Value).toArray below meth c G 7 (MQ below (xQ G embI (fun r w' => r = 1 ∧ lP G ca aa A n L D th (zSeen Z A n) w')) ([.ref (ca 0), .ref (aa 1), .ref (aa 3)] : List Value).toArray s ({ frames := 7, cells := 0, slots := 0, locals := 200 } : Room).cells ({ frames := 7, cells := 0, slots := 0, locals := 200 } : Room).slots (xA G)) (lP G ca aa A n L D th (zSeen Z A t)) 0 0 140 [(0, .ref (ca 0)), (1, .ref (aa 1)), (2, .ref (aa 3)), (3, .int (nI D)), (4, .int 1), (5, .int (nI t)), (6, .int (A 9 t))] [] := by
      refine x_aload_n Γ dL_areSo_140 rfl rfl ?_
      refine x_iload Γ dL_areSo_141 rfl ?_
      refine x_iald (N := 24) (f := zSeen Z A t 3) (x := Z 3 t) Γ (lP.arr ⟨by decide, by decide⟩) (vp_in_nI (by omega) (by decide)) (by rw [nI_clamp (by omega)]; exact zSeen_at Z A t) dL_areSo_143 ?_
      refine x_bipush (v := 10) Γ dL_areSo_144 (by decide) ?_
      refine x_icmp_lt (tgt := 158) Γ dL_areSo_146 (by decide) (fun c146 => ?_) (fun c146 => ?_)
      · exact k158
      · refine x_aload_n Γ dL_areSo_149 rfl rfl ?_
        refine x_iload Γ dL_areSo_150 rfl ?_
        refine x_iald (N := 24) (f := zSeen Z A t 3) (x := Z 3 t) Γ (lP.arr ⟨by decide, by decide⟩) (vp_in_nI (by omega) (by decide)) (by rw [nI_clamp (by omega)]; exact zSeen_at Z A t) dL_areSo_152 ?_
        refine x_iload Γ dL_areSo_153 rfl ?_
        refine x_icmp_ne (tgt := 178) Γ dL_areSo_155 (by decide) (fun c155 => absurd (((hsee t (by omega)).elim (fun z => absurd z c146) (fun z => z.2.symm))) c155) (fun c155 => ?_)
        exact k158
    refine x_iload Γ dL_areSo_91 rfl ?_
    refine x_aload_n Γ dL_areSo_93 rfl rfl ?_
    refine x_invV (emb := embI) (ci := 3) (rm := RS1) Γ [] (fun w1 r w2 => r = nI n ∧ lP G ca aa A n L D th (zSeen Z A t) w2) rfl (fun w1 h1 => l_things h1 hF) lP.obj rfl k_87 k_1 k_2295 k_85 k_86 hd_X2_things ⟨Nat.le_of_ble_eq_true rfl, Nat.le_of_ble_eq_true rfl⟩ ⟨Nat.le_of_ble_eq_true rfl, Nat.le_of_ble_eq_true rfl⟩ (Nat.le_of_ble_eq_true rfl) dL_areSo_94 (fun r => ?_)
    refine x_then (P2 := lP G ca aa A n L D th (zSeen Z A t)) (φ := r = nI n) (fun w2 h2 => by obtain ⟨w1, -, h3, h4⟩ := h2; exact ⟨h3, h4⟩) (fun e9 => ?_)
    subst e9
    refine x_icmp_ge (tgt := 193) Γ dL_areSo_97 (by decide) (fun c97 => absurd c97 (nI_ge ht (by omega))) (fun c97 => ?_)
    refine x_iload Γ dL_areSo_100 rfl ?_
    refine x_if_eq (tgt := 193) Γ dL_areSo_102 (by decide) (fun c102 => absurd c102 (by decide)) (fun c102 => ?_)
    refine x_aload_n Γ dL_areSo_105 rfl rfl ?_
    refine x_iload Γ dL_areSo_106 rfl ?_
    refine x_invV (emb := embI) (ci := 3) (rm := RQ) Γ [.int (nI t)] (fun w1 r w2 => r = A 9 t ∧ lP G ca aa A n L D th (zSeen Z A t) w2) rfl (fun w1 h1 => l_where h1 hF ht) lP.obj rfl k_522 k_1 k_2299 k_520 k_521 hd_X2_where ⟨Nat.le_of_ble_eq_true rfl, Nat.le_of_ble_eq_true rfl⟩ ⟨Nat.le_of_ble_eq_true rfl, Nat.le_of_ble_eq_true rfl⟩ (Nat.le_of_ble_eq_true rfl) dL_areSo_108 (fun r => ?_)
    refine x_then (P2 := lP G ca aa A n L D th (zSeen Z A t)) (φ := r = A 9 t) (fun w2 h2 => by obtain ⟨w1, -, h3, h4⟩ := h2; exact ⟨h3, h4⟩) (fun e9 => ?_)
    subst e9
    refine x_istore Γ dL_areSo_111 rfl (by decide) ?_
    refine x_aload_n Γ dL_areSo_113 rfl rfl ?_
    refine x_iload Γ dL_areSo_114 rfl ?_
    refine x_iload_n Γ dL_areSo_116 rfl rfl ?_
    refine x_invV (emb := embI) (ci := 3) (rm := RQ) Γ [.int (nI t), .int (nI D)] (fun w1 r w2 => r = (if D = D then A 9 t else A 18 (24 * D + t)) ∧ lP G ca aa A n L D th (zSeen Z A t) w2) rfl (fun w1 h1 => l_whereOn h1 hF ht (Nat.le_refl D)) lP.obj rfl k_529 k_1 k_2323 k_527 k_528 hd_X2_whereOn ⟨Nat.le_of_ble_eq_true rfl, Nat.le_of_ble_eq_true rfl⟩ ⟨Nat.le_of_ble_eq_true rfl, Nat.le_of_ble_eq_true rfl⟩ (Nat.le_of_ble_eq_true rfl) dL_areSo_117 (fun r => ?_)
    refine x_then (P2 := lP G ca aa A n L D th (zSeen Z A t)) (φ := r = (if D = D then A 9 t else A 18 (24 * D + t))) (fun w2 h2 => by obtain ⟨w1, -, h3, h4⟩ := h2; exact ⟨h3, h4⟩) (fun e9 => ?_)
    rw [if_pos rfl] at e9
    subst e9
    refine x_iload Γ dL_areSo_120 rfl ?_
    refine x_icmp_ne (tgt := 178) Γ dL_areSo_122 (by decide) (fun c122 => absurd (rfl) c122) (fun c122 => ?_)
    refine x_aload_n Γ dL_areSo_125 rfl rfl ?_
    refine x_iload Γ dL_areSo_126 rfl ?_
    refine x_invV (emb := embI) (ci := 3) (rm := RQ) Γ [.int (nI t)] (fun w1 r w2 => r = A 12 t ∧ lP G ca aa A n L D th (zSeen Z A t) w2) rfl (fun w1 h1 => l_loan h1 hF ht) lP.obj rfl k_555 k_1 k_2332 k_553 k_554 hd_X2_loan ⟨Nat.le_of_ble_eq_true rfl, Nat.le_of_ble_eq_true rfl⟩ ⟨Nat.le_of_ble_eq_true rfl, Nat.le_of_ble_eq_true rfl⟩ (Nat.le_of_ble_eq_true rfl) dL_areSo_128 (fun r => ?_)
    refine x_then (P2 := lP G ca aa A n L D th (zSeen Z A t)) (φ := r = A 12 t) (fun w2 h2 => by obtain ⟨w1, -, h3, h4⟩ := h2; exact ⟨h3, h4⟩) (fun e9 => ?_)
    subst e9
    refine x_if_eq (tgt := 140) Γ dL_areSo_131 (by decide) (fun c131 => ?_) (fun c131 => ?_)
    · refine x_lv [0, 1, 2, 3, 4, 5, 6] rfl ?_
      exact k140
    · have h5 : A 9 t < 5 := (hF.1.2.2.2.2.2.1 t ht).elim (fun z => absurd z c131) (fun z => z.2)
      refine x_iload Γ dL_areSo_134 rfl ?_
      refine x_iconst (v := 5) Γ dL_areSo_136 (by decide) ?_
      refine x_icmp_ge (tgt := 178) Γ dL_areSo_137 (by decide) (fun c137 => absurd c137 (Int32.not_le.mpr h5)) (fun c137 => ?_)
      refine x_lv [0, 1, 2, 3, 4, 5, 6] rfl ?_
      exact k140
set_option maxRecDepth 100000 in
theorem w_areSo {w : xW} (h : lP G ca aa A n L D th Z w) (hF : fI A n L D) (hJ : jI A n D (6 * D) m1) (hz : ∀ t, t < n → Z 1 t = A 7 t) (hsee : ∀ t, t < 24 → Z 3 t < 10 ∨ (t < n ∧ A 9 t = Z 3 t)) : xMet l G yL_areSo cL_areSo 7 (some .boolean) ({ frames := 7, cells := 0, slots := 0, locals := 200 } : Room) [.ref (ca 0), .ref (aa 1), .ref (aa 3)] w embI (fun r w' => r = 1 ∧ lP G ca aa A n L D th (zSeen Z A n) w') := by
  refine xMet_of (by decide) (Nat.le_of_ble_eq_true rfl) ?_
  intro p e s m below meth c Γ hnm
  have hn := hF.1.1.2.1
  refine x_weak (P' := lP G ca aa A n L D th Z) (fun w1 e1 => by rw [e1]; exact h) ?_
  refine x_aload_n Γ dL_areSo_0 rfl rfl ?_
  refine x_invV (emb := embI) (ci := 3) (rm := RS1) Γ [] (fun w1 r w2 => r = nI D ∧ lP G ca aa A n L D th Z w2) rfl (fun w1 h1 => l_day h1 hF) lP.obj rfl k_83 k_1 k_2291 k_81 k_82 hd_X2_day ⟨Nat.le_of_ble_eq_true rfl, Nat.le_of_ble_eq_true rfl⟩ ⟨Nat.le_of_ble_eq_true rfl, Nat.le_of_ble_eq_true rfl⟩ (Nat.le_of_ble_eq_true rfl) dL_areSo_1 (fun r => ?_)
  refine x_then (P2 := lP G ca aa A n L D th Z) (φ := r = nI D) (fun w2 h2 => by obtain ⟨w1, -, h3, h4⟩ := h2; exact ⟨h3, h4⟩) (fun e9 => ?_)
  subst e9
  refine x_istore_n Γ dL_areSo_4 rfl rfl (by decide) ?_
  refine x_iconst (v := 0) Γ dL_areSo_5 (by decide) ?_
  refine x_istore Γ dL_areSo_6 rfl (by decide) ?_
  refine ar_out Γ hF hJ hz hn ?_ 5 0 _ (by omega) rfl
  refine x_weak (P' := lP G ca aa A n L D th (zSeen Z A 0)) (fun w1 e1 => by rw [zSeen_0]; exact e1) ?_
  refine x_iconst (v := 1) Γ dL_areSo_85 (by decide) ?_
  refine x_istore Γ dL_areSo_86 rfl (by decide) ?_
  refine x_iconst (v := 0) Γ dL_areSo_88 (by decide) ?_
  refine x_istore Γ dL_areSo_89 rfl (by decide) ?_
  exact ar_two Γ hF hJ hz hn hsee n 0 _ (by omega) rfl
end XLA

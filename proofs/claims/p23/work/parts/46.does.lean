section XLD
def doF (A : xS) (n D m u : Nat) (Z A' : xS) (n' : Nat) (L' : List Nat) (Z' : xS) : Prop :=
  fI A' n' L' D ∧ jI A' n' D (6 * D) (m + 400) ∧ rs n A A' ∧ Z' 2 = Z 2 ∧ Z' 3 = Z 3 ∧ (∀ t, t < n' → Z' 1 t = A' 7 t) ∧ (n' = n ∨ (n' = n + 1 ∧ n < 24 ∧ A' 6 n = nI (u / 15 % 8)))
def doX (G : xG) (ca aa : Nat → Nat) (A : xS) (n D m u : Nat) (Z : xS) : xW → Prop := fun w => ∃ A' n' L' th' Z', doF A n D m u Z A' n' L' Z' ∧ lP G ca aa A' n' L' D th' Z' w
theorem doF.same {A : xS} {n D m u : Nat} {Z A' : xS} {L' : List Nat} (hz : ∀ t, t < n → Z 1 t = A 7 t) (hF : fI A' n L' D) (hJ : jI A' n D (6 * D) m) (hr : rs n A A') : doF A n D m u Z A' n L' Z :=
  ⟨hF, hJ.mono (by omega), hr, rfl, rfl, fun t ht => by rw [hz t ht, (hr.2.2.2 t ht).2], Or.inl rfl⟩
variable {l : Launch} {G : xG} {p : Program} {e : Env} {s : State} {m : MethodId} {below : List Frame} {meth : Method} {c : Code}
variable {ca aa th : Nat → Nat} {A : xS} {n : Nat} {L : List Nat} {D m1 v u : Nat} {Z : xS}
set_option maxRecDepth 100000 in
theorem dc_358 (Γ : xC p s m meth c G cL_does 11 yL_does.cls (some .boolean)) (hfl : l.stackTraces = false) (hF : fI A n L D) (hJ : jI A n D (6 * D) m1) (hm : m1 ≤ 100000) (hD : D ≤ 919) (hz : ∀ t, t < n → Z 1 t = A 7 t) (hv : v < 2 ^ 31) (hu : u < 2 ^ 31) {th0 f0 : Int32} (hsel : f0 = 0 ∨ (f0 = 1 ∧ ∃ t, t < n ∧ th0 = nI t ∧ A 9 t < 5)) : xJ p l e ({ frames := 9, cells := 130, slots := 900, locals := 360 } : Room) s m ([.ref (ca 0), .ref (aa 1), .int (nI v), .int (nI u)] : List Value).toArray below meth c G 11 (MQ below (xQ G embI (fun r w' => r = 1 ∧ doX G ca aa A n D m1 u Z w')) ([.ref (ca 0), .ref (aa 1), .int (nI v), .int (nI u)] : List Value).toArray s ({ frames := 9, cells := 130, slots := 900, locals := 360 } : Room).cells ({ frames := 9, cells := 130, slots := 900, locals := 360 } : Room).slots (xA G)) (lP G ca aa A n L D th Z) 0 0 358 [(0, .ref (ca 0)), (1, .ref (aa 1)), (2, .int (nI v)), (3, .int (nI u)), (4, .int (nI n)), (5, .int th0), (6, .int f0)] [] := by
  refine x_iconst (v := 1) Γ dL_does_358 (by decide) ?_
  exact x_iret Γ rfl rfl (fun w2 e2 => ⟨rfl, _, _, _, _, _, doF.same hz hF hJ rs.rf, e2⟩) ⟨Nat.le_of_ble_eq_true rfl, Nat.le_of_ble_eq_true rfl⟩ dL_does_359
set_option maxRecDepth 100000 in
theorem dc_84 (Γ : xC p s m meth c G cL_does 11 yL_does.cls (some .boolean)) (hfl : l.stackTraces = false) (hF : fI A n L D) (hJ : jI A n D (6 * D) m1) (hm : m1 ≤ 100000) (hD : D ≤ 919) (hz : ∀ t, t < n → Z 1 t = A 7 t) (hv : v < 2 ^ 31) (hu : u < 2 ^ 31) {th0 f0 : Int32} (hsel : f0 = 0 ∨ (f0 = 1 ∧ ∃ t, t < n ∧ th0 = nI t ∧ A 9 t < 5)) : xJ p l e ({ frames := 9, cells := 130, slots := 900, locals := 360 } : Room) s m ([.ref (ca 0), .ref (aa 1), .int (nI v), .int (nI u)] : List Value).toArray below meth c G 11 (MQ below (xQ G embI (fun r w' => r = 1 ∧ doX G ca aa A n D m1 u Z w')) ([.ref (ca 0), .ref (aa 1), .int (nI v), .int (nI u)] : List Value).toArray s ({ frames := 9, cells := 130, slots := 900, locals := 360 } : Room).cells ({ frames := 9, cells := 130, slots := 900, locals := 360 } : Room).slots (xA G)) (lP G ca aa A n L D th Z) 0 0 84 [(0, .ref (ca 0)), (1, .ref (aa 1)), (2, .int (nI v)), (3, .int (nI u)), (4, .int (nI n)), (5, .int th0), (6, .int f0)] [] := by
  refine x_iconst (v := 1) Γ dL_does_84 (by decide) ?_
  refine x_iload_n Γ dL_does_85 rfl rfl ?_
  refine x_iconst (v := 3) Γ dL_does_86 (by decide) ?_
  refine x_irem (a := u) (d := 3) Γ rfl rfl hu (by decide) (by decide) dL_does_87 ?_
  refine x_iadd Γ dL_does_88 ?_
  rw [show (1 : Int32) + nI (u % 3) = nI (1 + u % 3) from nI_add 1 (u % 3)]
  refine x_istore Γ dL_does_89 rfl (by decide) ?_
  refine x_iload_n Γ dL_does_91 rfl rfl ?_
  refine x_iconst (v := 3) Γ dL_does_92 (by decide) ?_
  refine x_idivN (a := u) (d := 3) Γ rfl rfl hu (by decide) (by decide) dL_does_93 ?_
  refine x_iconst (v := 5) Γ dL_does_94 (by decide) ?_
  refine x_irem (a := u / 3) (d := 5) Γ rfl rfl (by omega) (by decide) (by decide) dL_does_95 ?_
  refine x_istore Γ dL_does_96 rfl (by decide) ?_
  refine x_iload Γ dL_does_98 rfl ?_
  refine x_bipush (v := 24) Γ dL_does_100 (by decide) ?_
  refine x_icmp_ge (tgt := 171) Γ dL_does_102 (by decide) (fun c102 => ?_) (fun c102 => ?_)
  · refine x_iconst (v := 1) Γ dL_does_171 (by decide) ?_
    exact x_iret Γ rfl rfl (fun w2 e2 => ⟨rfl, _, _, _, _, _, doF.same hz hF hJ rs.rf, e2⟩) ⟨Nat.le_of_ble_eq_true rfl, Nat.le_of_ble_eq_true rfl⟩ dL_does_172
  · refine x_aload_n Γ dL_does_105 rfl rfl ?_
    refine x_iload Γ dL_does_106 rfl ?_
    refine x_invV (emb := embI) (ci := 3) (rm := RQ) Γ [.int (nI (u / 3 % 5))] (fun w1 r w2 => r = ldF A (nI (u / 3 % 5)) n ∧ lP G ca aa A n L D th Z w2) rfl (fun w1 h1 => l_load h1 hF (Nat.mod_lt _ (by decide))) lP.obj rfl k_541 k_1 k_2356 k_539 k_540 hd_X2_load ⟨Nat.le_of_ble_eq_true rfl, Nat.le_of_ble_eq_true rfl⟩ ⟨Nat.le_of_ble_eq_true rfl, Nat.le_of_ble_eq_true rfl⟩ (Nat.le_of_ble_eq_true rfl) dL_does_108 (fun r => ?_)
    refine x_then (P2 := lP G ca aa A n L D th Z) (φ := r = ldF A (nI (u / 3 % 5)) n) (fun w2 h2 => by obtain ⟨w1, -, h3, h4⟩ := h2; exact ⟨h3, h4⟩) (fun e9 => ?_)
    subst e9
    refine x_iload Γ dL_does_111 rfl ?_
    refine x_iadd Γ dL_does_113 ?_
    refine x_bipush (v := 10) Γ dL_does_114 (by decide) ?_
    refine x_icmp_gt (tgt := 171) Γ dL_does_116 (by decide) (fun c116 => ?_) (fun c116 => ?_)
    · refine x_iconst (v := 1) Γ dL_does_171 (by decide) ?_
      exact x_iret Γ rfl rfl (fun w2 e2 => ⟨rfl, _, _, _, _, _, doF.same hz hF hJ rs.rf, e2⟩) ⟨Nat.le_of_ble_eq_true rfl, Nat.le_of_ble_eq_true rfl⟩ dL_does_172
    · have hg := hJ.1
      have g2 := hJ.2.1
      have hn24 : n < 24 := by
        rcases Nat.lt_or_ge n 24 with h | h
        · exact h
        · exact absurd (nI_le (a := 24) h (by have := hF.1.1.2.1; omega)) c102
      have hld : ¬ 10 < ldF A (nI (u / 3 % 5)) n + nI (1 + u % 3) := fun z => c116 z
      have e7 : (nI (1 + u % 3)).toInt = ((1 + u % 3 : Nat) : Int) := nI_int (by omega)
      have hc5 : u / 3 % 5 < 5 := Nat.mod_lt _ (by decide)
      have h0 : A 0 (u / 3 % 5) = 10 := hg _ hc5
      have hF2 := s_leave hF (ow := u / 15 % 8) (z := 1 + u % 3) (ci := u / 3 % 5) (Nat.mod_lt _ (by decide)) ⟨by omega, by omega⟩ hc5 hn24 h0 hld
      have hld2 : ldZ A (nI (u / 3 % 5)) n + (nI (1 + u % 3)).toInt ≤ 10 := by
        have h1 := ldF_int (A := A) (c := nI (u / 3 % 5)) (N := n) (by omega) g2 n (Nat.le_refl n)
        have h2 := ldZ_ge (A := A) (c := nI (u / 3 % 5)) (N := n) g2 n (Nat.le_refl n)
        have h3 := i_le.mp (Int32.not_lt.mp hld)
        rw [i_add (by rw [h1, e7]; omega) (by rw [h1, e7]; omega), h1, show (10 : Int32).toInt = 10 by decide] at h3
        exact h3
      obtain ⟨hJ2, hr2⟩ := jI.leave (L := L) hF.1 hJ hn24 (by omega) hc5 rfl (ow := nI (u / 15 % 8)) (z := nI (1 + u % 3)) ⟨by rw [e7]; omega, by rw [e7]; omega⟩ hld2
      have hO : doF A n D m1 u Z (bLeave (mU A 19 0 0) n (nI (u / 15 % 8)) (nI (1 + u % 3)) (nI (u / 3 % 5))) (n + 1) L (mU Z 1 n (nI (1 + u % 3))) := by
        refine ⟨hF2, hJ2.mono (by omega), hr2, rfl, rfl, fun t ht => ?_, Or.inr ⟨rfl, hn24, ?_⟩⟩
        · rw [lv_7]
          by_cases e : t = n
          · rw [if_pos e, e, mU_eq]
          · rw [if_neg e, mU_i e, hz t (by omega)]
        · rw [lv_6, if_pos rfl]
      refine x_aload_n Γ dL_does_119 rfl rfl ?_
      refine x_iload Γ dL_does_120 rfl ?_
      refine x_iload Γ dL_does_122 rfl ?_
      refine x_iast (N := 24) (f := Z 1) (P' := lP G ca aa A n L D th (mU Z 1 n (nI (1 + u % 3)))) Γ (fun w1 h1 => ?_) (vp_in_nI hn24 (by decide)) dL_does_124 ?_
      · rw [nI_clamp (by omega)]
        exact lP.ast ⟨by decide, by decide⟩ n _ w1 h1
      refine x_aload_n Γ dL_does_125 rfl rfl ?_
      refine x_iload_n Γ dL_does_126 rfl rfl ?_
      refine x_bipush (v := 15) Γ dL_does_127 (by decide) ?_
      refine x_idivN (a := u) (d := 15) Γ rfl rfl hu (by decide) (by decide) dL_does_129 ?_
      refine x_bipush (v := 8) Γ dL_does_130 (by decide) ?_
      refine x_irem (a := u / 15) (d := 8) Γ rfl rfl (by omega) (by decide) (by decide) dL_does_132 ?_
      refine x_iload Γ dL_does_133 rfl ?_
      refine x_iload Γ dL_does_135 rfl ?_
      refine x_invV (emb := embI) (ci := 3) (rm := RMu) Γ [.int (nI (u / 15 % 8)), .int (nI (1 + u % 3)), .int (nI (u / 3 % 5))] (fun w1 r w2 => r = nI n ∧ ∃ th', lP G ca aa (bLeave (mU A 19 0 0) n (nI (u / 15 % 8)) (nI (1 + u % 3)) (nI (u / 3 % 5))) (n + 1) L D th' (mU Z 1 n (nI (1 + u % 3))) w2) rfl (fun w1 h1 => l_leave hfl h1 hF (Nat.mod_lt _ (by decide)) ⟨by omega, by omega⟩ hc5 hn24 h0 hld) lP.obj rfl k_193 k_1 k_2361 k_191 k_192 hd_X2_leave ⟨Nat.le_of_ble_eq_true rfl, Nat.le_of_ble_eq_true rfl⟩ ⟨Nat.le_of_ble_eq_true rfl, Nat.le_of_ble_eq_true rfl⟩ (Nat.le_of_ble_eq_true rfl) dL_does_137 (fun r => ?_)
      refine x_then (P2 := fun w2 => ∃ th', lP G ca aa (bLeave (mU A 19 0 0) n (nI (u / 15 % 8)) (nI (1 + u % 3)) (nI (u / 3 % 5))) (n + 1) L D th' (mU Z 1 n (nI (1 + u % 3))) w2) (φ := r = nI n) (fun w2 h2 => by obtain ⟨w1, -, h3, h4⟩ := h2; exact ⟨h3, h4⟩) (fun e9 => ?_)
      subst e9
      refine x_any (F := fun th' => lP G ca aa (bLeave (mU A 19 0 0) n (nI (u / 15 % 8)) (nI (1 + u % 3)) (nI (u / 3 % 5))) (n + 1) L D th' (mU Z 1 n (nI (1 + u % 3)))) (fun th' => ?_)
      refine x_iload Γ dL_does_140 rfl ?_
      refine x_icmp_ne (tgt := 169) Γ dL_does_142 (by decide) (fun c142 => absurd (rfl) c142) (fun c142 => ?_)
      refine x_aload_n Γ dL_does_145 rfl rfl ?_
      refine x_iload Γ dL_does_146 rfl ?_
      refine x_invV (emb := embI) (ci := 3) (rm := RQ) Γ [.int (nI n)] (fun w1 r w2 => r = (bLeave (mU A 19 0 0) n (nI (u / 15 % 8)) (nI (1 + u % 3)) (nI (u / 3 % 5))) 9 n ∧ lP G ca aa (bLeave (mU A 19 0 0) n (nI (u / 15 % 8)) (nI (1 + u % 3)) (nI (u / 3 % 5))) (n + 1) L D th' (mU Z 1 n (nI (1 + u % 3))) w2) rfl (fun w1 h1 => l_where h1 hF2 (by omega)) lP.obj rfl k_522 k_1 k_2299 k_520 k_521 hd_X2_where ⟨Nat.le_of_ble_eq_true rfl, Nat.le_of_ble_eq_true rfl⟩ ⟨Nat.le_of_ble_eq_true rfl, Nat.le_of_ble_eq_true rfl⟩ (Nat.le_of_ble_eq_true rfl) dL_does_148 (fun r => ?_)
      refine x_then (P2 := lP G ca aa (bLeave (mU A 19 0 0) n (nI (u / 15 % 8)) (nI (1 + u % 3)) (nI (u / 3 % 5))) (n + 1) L D th' (mU Z 1 n (nI (1 + u % 3)))) (φ := r = (bLeave (mU A 19 0 0) n (nI (u / 15 % 8)) (nI (1 + u % 3)) (nI (u / 3 % 5))) 9 n) (fun w2 h2 => by obtain ⟨w1, -, h3, h4⟩ := h2; exact ⟨h3, h4⟩) (fun e9 => ?_)
      rw [lv_9, if_pos rfl] at e9
      subst e9
      refine x_iload Γ dL_does_151 rfl ?_
      refine x_icmp_ne (tgt := 169) Γ dL_does_153 (by decide) (fun c153 => absurd (rfl) c153) (fun c153 => ?_)
      refine x_aload_n Γ dL_does_156 rfl rfl ?_
      refine x_iload Γ dL_does_157 rfl ?_
      refine x_invV (emb := embI) (ci := 3) (rm := RQ) Γ [.int (nI n)] (fun w1 r w2 => r = (bLeave (mU A 19 0 0) n (nI (u / 15 % 8)) (nI (1 + u % 3)) (nI (u / 3 % 5))) 11 n ∧ lP G ca aa (bLeave (mU A 19 0 0) n (nI (u / 15 % 8)) (nI (1 + u % 3)) (nI (u / 3 % 5))) (n + 1) L D th' (mU Z 1 n (nI (1 + u % 3))) w2) rfl (fun w1 h1 => l_fees h1 hF2 (by omega)) lP.obj rfl k_548 k_1 k_2468 k_546 k_547 hd_X2_fees ⟨Nat.le_of_ble_eq_true rfl, Nat.le_of_ble_eq_true rfl⟩ ⟨Nat.le_of_ble_eq_true rfl, Nat.le_of_ble_eq_true rfl⟩ (Nat.le_of_ble_eq_true rfl) dL_does_159 (fun r => ?_)
      refine x_then (P2 := lP G ca aa (bLeave (mU A 19 0 0) n (nI (u / 15 % 8)) (nI (1 + u % 3)) (nI (u / 3 % 5))) (n + 1) L D th' (mU Z 1 n (nI (1 + u % 3)))) (φ := r = (bLeave (mU A 19 0 0) n (nI (u / 15 % 8)) (nI (1 + u % 3)) (nI (u / 3 % 5))) 11 n) (fun w2 h2 => by obtain ⟨w1, -, h3, h4⟩ := h2; exact ⟨h3, h4⟩) (fun e9 => ?_)
      rw [leave_j (by decide), (hF.1.2.2.2.2.2.2.2.2 n (Nat.le_refl n) hn24).1] at e9
      subst e9
      refine x_if_ne (tgt := 169) Γ dL_does_162 (by decide) (fun c162 => absurd (rfl) c162) (fun c162 => ?_)
      refine x_iconst (v := 1) Γ dL_does_165 (by decide) ?_
      refine x_goto (tgt := 170) Γ dL_does_166 (by decide) ?_
      exact x_iret Γ rfl rfl (fun w2 e2 => ⟨rfl, _, _, _, _, _, hO, e2⟩) ⟨Nat.le_of_ble_eq_true rfl, Nat.le_of_ble_eq_true rfl⟩ dL_does_170
set_option maxRecDepth 100000 in
theorem dc_173 (Γ : xC p s m meth c G cL_does 11 yL_does.cls (some .boolean)) (hfl : l.stackTraces = false) (hF : fI A n L D) (hJ : jI A n D (6 * D) m1) (hm : m1 ≤ 100000) (hD : D ≤ 919) (hz : ∀ t, t < n → Z 1 t = A 7 t) (hv : v < 2 ^ 31) (hu : u < 2 ^ 31) {th0 f0 : Int32} (hsel : f0 = 0 ∨ (f0 = 1 ∧ ∃ t, t < n ∧ th0 = nI t ∧ A 9 t < 5)) : xJ p l e ({ frames := 9, cells := 130, slots := 900, locals := 360 } : Room) s m ([.ref (ca 0), .ref (aa 1), .int (nI v), .int (nI u)] : List Value).toArray below meth c G 11 (MQ below (xQ G embI (fun r w' => r = 1 ∧ doX G ca aa A n D m1 u Z w')) ([.ref (ca 0), .ref (aa 1), .int (nI v), .int (nI u)] : List Value).toArray s ({ frames := 9, cells := 130, slots := 900, locals := 360 } : Room).cells ({ frames := 9, cells := 130, slots := 900, locals := 360 } : Room).slots (xA G)) (lP G ca aa A n L D th Z) 0 0 173 [(0, .ref (ca 0)), (1, .ref (aa 1)), (2, .int (nI v)), (3, .int (nI u)), (4, .int (nI n)), (5, .int th0), (6, .int f0)] [] := by
  rcases hsel with rfl | ⟨rfl, t, ht, rfl, h9⟩
  · refine x_iload Γ dL_does_173 rfl ?_
    refine x_if_eq (tgt := 258) Γ dL_does_175 (by decide) (fun c175 => ?_) (fun c175 => absurd (rfl) c175)
    refine x_iconst (v := 1) Γ dL_does_258 (by decide) ?_
    exact x_iret Γ rfl rfl (fun w2 e2 => ⟨rfl, _, _, _, _, _, doF.same hz hF hJ rs.rf, e2⟩) ⟨Nat.le_of_ble_eq_true rfl, Nat.le_of_ble_eq_true rfl⟩ dL_does_259
  · refine x_iload Γ dL_does_173 rfl ?_
    refine x_if_eq (tgt := 258) Γ dL_does_175 (by decide) (fun c175 => absurd c175 (by decide)) (fun c175 => ?_)
    refine x_aload_n Γ dL_does_178 rfl rfl ?_
    refine x_iload Γ dL_does_179 rfl ?_
    refine x_invV (emb := embI) (ci := 3) (rm := RQ) Γ [.int (nI t)] (fun w1 r w2 => r = (A) 12 t ∧ lP G ca aa A n L D th Z w2) rfl (fun w1 h1 => l_loan h1 hF ht) lP.obj rfl k_555 k_1 k_2332 k_553 k_554 hd_X2_loan ⟨Nat.le_of_ble_eq_true rfl, Nat.le_of_ble_eq_true rfl⟩ ⟨Nat.le_of_ble_eq_true rfl, Nat.le_of_ble_eq_true rfl⟩ (Nat.le_of_ble_eq_true rfl) dL_does_181 (fun r => ?_)
    refine x_then (P2 := lP G ca aa A n L D th Z) (φ := r = (A) 12 t) (fun w2 h2 => by obtain ⟨w1, -, h3, h4⟩ := h2; exact ⟨h3, h4⟩) (fun e9 => ?_)
    subst e9
    refine x_if_ne (tgt := 258) Γ dL_does_184 (by decide) (fun c184 => ?_) (fun c184 => ?_)
    · refine x_iconst (v := 1) Γ dL_does_258 (by decide) ?_
      exact x_iret Γ rfl rfl (fun w2 e2 => ⟨rfl, _, _, _, _, _, doF.same hz hF hJ rs.rf, e2⟩) ⟨Nat.le_of_ble_eq_true rfl, Nat.le_of_ble_eq_true rfl⟩ dL_does_259
    · have h12 : ¬ 0 < A 12 t := fun z => by rw [c184] at z; exact absurd z (by decide)
      have hF2 := s_fetch hF ht h9 h12
      obtain ⟨hJ2, hr2⟩ := jI.fetch hJ ht h9 (by omega) hF.1.1.2.1
      refine x_iload_n Γ dL_does_187 rfl rfl ?_
      refine x_iconst (v := 4) Γ dL_does_188 (by decide) ?_
      refine x_irem (a := u) (d := 4) Γ rfl rfl hu (by decide) (by decide) dL_does_189 ?_
      refine x_if_ne (tgt := 258) Γ dL_does_190 (by decide) (fun c190 => ?_) (fun c190 => ?_)
      · refine x_iconst (v := 1) Γ dL_does_258 (by decide) ?_
        exact x_iret Γ rfl rfl (fun w2 e2 => ⟨rfl, _, _, _, _, _, doF.same hz hF hJ rs.rf, e2⟩) ⟨Nat.le_of_ble_eq_true rfl, Nat.le_of_ble_eq_true rfl⟩ dL_does_259
      · refine x_aload_n Γ dL_does_193 rfl rfl ?_
        refine x_invV (emb := embI) (ci := 3) (rm := RS1) Γ [] (fun w1 r w2 => r = (A) 3 0 ∧ lP G ca aa A n L D th Z w2) rfl (fun w1 h1 => l_taken h1 hF) lP.obj rfl k_95 k_1 k_2336 k_93 k_94 hd_X2_taken ⟨Nat.le_of_ble_eq_true rfl, Nat.le_of_ble_eq_true rfl⟩ ⟨Nat.le_of_ble_eq_true rfl, Nat.le_of_ble_eq_true rfl⟩ (Nat.le_of_ble_eq_true rfl) dL_does_194 (fun r => ?_)
        refine x_then (P2 := lP G ca aa A n L D th Z) (φ := r = (A) 3 0) (fun w2 h2 => by obtain ⟨w1, -, h3, h4⟩ := h2; exact ⟨h3, h4⟩) (fun e9 => ?_)
        subst e9
        refine x_istore Γ dL_does_197 rfl (by decide) ?_
        refine x_aload_n Γ dL_does_199 rfl rfl ?_
        refine x_iload Γ dL_does_200 rfl ?_
        refine x_invV (emb := embI) (ci := 3) (rm := RQ) Γ [.int (nI t)] (fun w1 r w2 => r = (A) 11 t ∧ lP G ca aa A n L D th Z w2) rfl (fun w1 h1 => l_fees h1 hF ht) lP.obj rfl k_548 k_1 k_2468 k_546 k_547 hd_X2_fees ⟨Nat.le_of_ble_eq_true rfl, Nat.le_of_ble_eq_true rfl⟩ ⟨Nat.le_of_ble_eq_true rfl, Nat.le_of_ble_eq_true rfl⟩ (Nat.le_of_ble_eq_true rfl) dL_does_202 (fun r => ?_)
        refine x_then (P2 := lP G ca aa A n L D th Z) (φ := r = (A) 11 t) (fun w2 h2 => by obtain ⟨w1, -, h3, h4⟩ := h2; exact ⟨h3, h4⟩) (fun e9 => ?_)
        subst e9
        refine x_istore Γ dL_does_205 rfl (by decide) ?_
        refine x_aload_n Γ dL_does_207 rfl rfl ?_
        refine x_iload Γ dL_does_208 rfl ?_
        refine x_invV (emb := embI) (ci := 3) (rm := RMu) Γ [.int (nI t)] (fun w1 r w2 => r = A 11 t ∧ lP G ca aa (bFetch (mU A 19 0 0) t) n (fFor t L) D th Z w2) rfl (fun w1 h1 => l_fetch hfl h1 hF ht h9 h12) lP.obj rfl k_371 k_1 k_2472 k_369 k_370 hd_X2_fetch ⟨Nat.le_of_ble_eq_true rfl, Nat.le_of_ble_eq_true rfl⟩ ⟨Nat.le_of_ble_eq_true rfl, Nat.le_of_ble_eq_true rfl⟩ (Nat.le_of_ble_eq_true rfl) dL_does_210 (fun r => ?_)
        refine x_then (P2 := lP G ca aa (bFetch (mU A 19 0 0) t) n (fFor t L) D th Z) (φ := r = A 11 t) (fun w2 h2 => by obtain ⟨w1, -, h3, h4⟩ := h2; exact ⟨h3, h4⟩) (fun e9 => ?_)
        subst e9
        refine x_iload Γ dL_does_213 rfl ?_
        refine x_icmp_ne (tgt := 256) Γ dL_does_215 (by decide) (fun c215 => absurd (rfl) c215) (fun c215 => ?_)
        refine x_aload_n Γ dL_does_218 rfl rfl ?_
        refine x_invV (emb := embI) (ci := 3) (rm := RS1) Γ [] (fun w1 r w2 => r = (bFetch (mU A 19 0 0) t) 3 0 ∧ lP G ca aa (bFetch (mU A 19 0 0) t) n (fFor t L) D th Z w2) rfl (fun w1 h1 => l_taken h1 hF2) lP.obj rfl k_95 k_1 k_2336 k_93 k_94 hd_X2_taken ⟨Nat.le_of_ble_eq_true rfl, Nat.le_of_ble_eq_true rfl⟩ ⟨Nat.le_of_ble_eq_true rfl, Nat.le_of_ble_eq_true rfl⟩ (Nat.le_of_ble_eq_true rfl) dL_does_219 (fun r => ?_)
        refine x_then (P2 := lP G ca aa (bFetch (mU A 19 0 0) t) n (fFor t L) D th Z) (φ := r = (bFetch (mU A 19 0 0) t) 3 0) (fun w2 h2 => by obtain ⟨w1, -, h3, h4⟩ := h2; exact ⟨h3, h4⟩) (fun e9 => ?_)
        subst e9
        refine x_iload Γ dL_does_222 rfl ?_
        refine x_iload Γ dL_does_224 rfl ?_
        refine x_iadd Γ dL_does_226 ?_
        refine x_icmp_ne (tgt := 256) Γ dL_does_227 (by decide) (fun c227 => absurd (fetch_3 A t) c227) (fun c227 => ?_)
        refine x_aload_n Γ dL_does_230 rfl rfl ?_
        refine x_iload Γ dL_does_231 rfl ?_
        refine x_invV (emb := embI) (ci := 3) (rm := RQ) Γ [.int (nI t)] (fun w1 r w2 => r = (bFetch (mU A 19 0 0) t) 9 t ∧ lP G ca aa (bFetch (mU A 19 0 0) t) n (fFor t L) D th Z w2) rfl (fun w1 h1 => l_where h1 hF2 ht) lP.obj rfl k_522 k_1 k_2299 k_520 k_521 hd_X2_where ⟨Nat.le_of_ble_eq_true rfl, Nat.le_of_ble_eq_true rfl⟩ ⟨Nat.le_of_ble_eq_true rfl, Nat.le_of_ble_eq_true rfl⟩ (Nat.le_of_ble_eq_true rfl) dL_does_233 (fun r => ?_)
        refine x_then (P2 := lP G ca aa (bFetch (mU A 19 0 0) t) n (fFor t L) D th Z) (φ := r = (bFetch (mU A 19 0 0) t) 9 t) (fun w2 h2 => by obtain ⟨w1, -, h3, h4⟩ := h2; exact ⟨h3, h4⟩) (fun e9 => ?_)
        subst e9
        refine x_bipush (v := 10) Γ dL_does_236 (by decide) ?_
        refine x_icmp_ne (tgt := 256) Γ dL_does_238 (by decide) (fun c238 => absurd ((by rw [fetch_9, if_pos rfl])) c238) (fun c238 => ?_)
        refine x_aload_n Γ dL_does_241 rfl rfl ?_
        refine x_iload Γ dL_does_242 rfl ?_
        refine x_invV (emb := embI) (ci := 3) (rm := RQ) Γ [.int (nI t)] (fun w1 r w2 => r = (bFetch (mU A 19 0 0) t) 11 t ∧ lP G ca aa (bFetch (mU A 19 0 0) t) n (fFor t L) D th Z w2) rfl (fun w1 h1 => l_fees h1 hF2 ht) lP.obj rfl k_548 k_1 k_2468 k_546 k_547 hd_X2_fees ⟨Nat.le_of_ble_eq_true rfl, Nat.le_of_ble_eq_true rfl⟩ ⟨Nat.le_of_ble_eq_true rfl, Nat.le_of_ble_eq_true rfl⟩ (Nat.le_of_ble_eq_true rfl) dL_does_244 (fun r => ?_)
        refine x_then (P2 := lP G ca aa (bFetch (mU A 19 0 0) t) n (fFor t L) D th Z) (φ := r = (bFetch (mU A 19 0 0) t) 11 t) (fun w2 h2 => by obtain ⟨w1, -, h3, h4⟩ := h2; exact ⟨h3, h4⟩) (fun e9 => ?_)
        subst e9
        refine x_iload Γ dL_does_247 rfl ?_
        refine x_icmp_ne (tgt := 256) Γ dL_does_249 (by decide) (fun c249 => absurd ((by rw [fetch_j (by decide) (by decide) (by decide) (by decide)])) c249) (fun c249 => ?_)
        refine x_iconst (v := 1) Γ dL_does_252 (by decide) ?_
        refine x_goto (tgt := 257) Γ dL_does_253 (by decide) ?_
        exact x_iret Γ rfl rfl (fun w2 e2 => ⟨rfl, _, _, _, _, _, doF.same hz hF2 hJ2 hr2, e2⟩) ⟨Nat.le_of_ble_eq_true rfl, Nat.le_of_ble_eq_true rfl⟩ dL_does_257
set_option maxRecDepth 100000 in
theorem dc_260 (Γ : xC p s m meth c G cL_does 11 yL_does.cls (some .boolean)) (hfl : l.stackTraces = false) (hF : fI A n L D) (hJ : jI A n D (6 * D) m1) (hm : m1 ≤ 100000) (hD : D ≤ 919) (hz : ∀ t, t < n → Z 1 t = A 7 t) (hv : v < 2 ^ 31) (hu : u < 2 ^ 31) {th0 f0 : Int32} (hsel : f0 = 0 ∨ (f0 = 1 ∧ ∃ t, t < n ∧ th0 = nI t ∧ A 9 t < 5)) : xJ p l e ({ frames := 9, cells := 130, slots := 900, locals := 360 } : Room) s m ([.ref (ca 0), .ref (aa 1), .int (nI v), .int (nI u)] : List Value).toArray below meth c G 11 (MQ below (xQ G embI (fun r w' => r = 1 ∧ doX G ca aa A n D m1 u Z w')) ([.ref (ca 0), .ref (aa 1), .int (nI v), .int (nI u)] : List Value).toArray s ({ frames := 9, cells := 130, slots := 900, locals := 360 } : Room).cells ({ frames := 9, cells := 130, slots := 900, locals := 360 } : Room).slots (xA G)) (lP G ca aa A n L D th Z) 0 0 260 [(0, .ref (ca 0)), (1, .ref (aa 1)), (2, .int (nI v)), (3, .int (nI u)), (4, .int (nI n)), (5, .int th0), (6, .int f0)] [] := by
  rcases hsel with rfl | ⟨rfl, t, ht, rfl, h9⟩
  · refine x_iload Γ dL_does_260 rfl ?_
    refine x_if_eq (tgt := 308) Γ dL_does_262 (by decide) (fun c262 => ?_) (fun c262 => absurd (rfl) c262)
    refine x_iconst (v := 1) Γ dL_does_308 (by decide) ?_
    refine x_goto (tgt := 313) Γ dL_does_309 (by decide) ?_
    exact x_iret Γ rfl rfl (fun w2 e2 => ⟨rfl, _, _, _, _, _, doF.same hz hF hJ rs.rf, e2⟩) ⟨Nat.le_of_ble_eq_true rfl, Nat.le_of_ble_eq_true rfl⟩ dL_does_313
  · refine x_iload Γ dL_does_260 rfl ?_
    refine x_if_eq (tgt := 308) Γ dL_does_262 (by decide) (fun c262 => absurd c262 (by decide)) (fun c262 => ?_)
    refine x_aload_n Γ dL_does_265 rfl rfl ?_
    refine x_iload Γ dL_does_266 rfl ?_
    refine x_invV (emb := embI) (ci := 3) (rm := RQ) Γ [.int (nI t)] (fun w1 r w2 => r = (A) 9 t ∧ lP G ca aa A n L D th Z w2) rfl (fun w1 h1 => l_where h1 hF ht) lP.obj rfl k_522 k_1 k_2299 k_520 k_521 hd_X2_where ⟨Nat.le_of_ble_eq_true rfl, Nat.le_of_ble_eq_true rfl⟩ ⟨Nat.le_of_ble_eq_true rfl, Nat.le_of_ble_eq_true rfl⟩ (Nat.le_of_ble_eq_true rfl) dL_does_268 (fun r => ?_)
    refine x_then (P2 := lP G ca aa A n L D th Z) (φ := r = (A) 9 t) (fun w2 h2 => by obtain ⟨w1, -, h3, h4⟩ := h2; exact ⟨h3, h4⟩) (fun e9 => ?_)
    subst e9
    refine x_iload_n Γ dL_does_271 rfl rfl ?_
    refine x_iconst (v := 5) Γ dL_does_272 (by decide) ?_
    refine x_irem (a := u) (d := 5) Γ rfl rfl hu (by decide) (by decide) dL_does_273 ?_
    refine x_icmp_eq (tgt := 308) Γ dL_does_274 (by decide) (fun c274 => ?_) (fun c274 => ?_)
    · refine x_iconst (v := 1) Γ dL_does_308 (by decide) ?_
      refine x_goto (tgt := 313) Γ dL_does_309 (by decide) ?_
      exact x_iret Γ rfl rfl (fun w2 e2 => ⟨rfl, _, _, _, _, _, doF.same hz hF hJ rs.rf, e2⟩) ⟨Nat.le_of_ble_eq_true rfl, Nat.le_of_ble_eq_true rfl⟩ dL_does_313
    · have hF2 := s_want hF ht h9 (ci := u % 5) (Nat.mod_lt _ (by decide)) c274
      obtain ⟨hJ2, hr2⟩ := jI.want hJ t (nI (u % 5))
      have hlen : (fFor t L).length + 1 < 2 ^ 31 := by
        have h1 := fFor_len t L
        have h2 := hF.1.2.1.1
        have h3 := hF.1.1.2.1
        omega
      refine x_aload_n Γ dL_does_277 rfl rfl ?_
      refine x_iload Γ dL_does_278 rfl ?_
      refine x_iload_n Γ dL_does_280 rfl rfl ?_
      refine x_iconst (v := 5) Γ dL_does_281 (by decide) ?_
      refine x_irem (a := u) (d := 5) Γ rfl rfl hu (by decide) (by decide) dL_does_282 ?_
      refine x_invV (emb := embI) (ci := 3) (rm := RMu) Γ [.int (nI t), .int (nI (u % 5))] (fun w1 r w2 => r = nI ((fFor t L).length + 1) ∧ lP G ca aa (mU (mU (mU A 19 0 0) 15 t (-1)) 15 t (nI (u % 5))) n (fFor t L ++ [t]) D th Z w2) rfl (fun w1 h1 => l_want hfl h1 hF ht h9 (Nat.mod_lt _ (by decide)) c274) lP.obj rfl k_429 k_1 k_2477 k_427 k_428 hd_X2_want ⟨Nat.le_of_ble_eq_true rfl, Nat.le_of_ble_eq_true rfl⟩ ⟨Nat.le_of_ble_eq_true rfl, Nat.le_of_ble_eq_true rfl⟩ (Nat.le_of_ble_eq_true rfl) dL_does_283 (fun r => ?_)
      refine x_then (P2 := lP G ca aa (mU (mU (mU A 19 0 0) 15 t (-1)) 15 t (nI (u % 5))) n (fFor t L ++ [t]) D th Z) (φ := r = nI ((fFor t L).length + 1)) (fun w2 h2 => by obtain ⟨w1, -, h3, h4⟩ := h2; exact ⟨h3, h4⟩) (fun e9 => ?_)
      subst e9
      refine x_if_le (tgt := 312) Γ dL_does_286 (by decide) (fun c286 => absurd c286 (nI_nle (by omega) hlen)) (fun c286 => ?_)
      refine x_aload_n Γ dL_does_289 rfl rfl ?_
      refine x_iload Γ dL_does_290 rfl ?_
      refine x_invV (emb := embI) (ci := 3) (rm := RQ) Γ [.int (nI t)] (fun w1 r w2 => r = (mU (mU (mU A 19 0 0) 15 t (-1)) 15 t (nI (u % 5))) 12 t ∧ lP G ca aa (mU (mU (mU A 19 0 0) 15 t (-1)) 15 t (nI (u % 5))) n (fFor t L ++ [t]) D th Z w2) rfl (fun w1 h1 => l_loan h1 hF2 ht) lP.obj rfl k_555 k_1 k_2332 k_553 k_554 hd_X2_loan ⟨Nat.le_of_ble_eq_true rfl, Nat.le_of_ble_eq_true rfl⟩ ⟨Nat.le_of_ble_eq_true rfl, Nat.le_of_ble_eq_true rfl⟩ (Nat.le_of_ble_eq_true rfl) dL_does_292 (fun r => ?_)
      refine x_then (P2 := lP G ca aa (mU (mU (mU A 19 0 0) 15 t (-1)) 15 t (nI (u % 5))) n (fFor t L ++ [t]) D th Z) (φ := r = (mU (mU (mU A 19 0 0) 15 t (-1)) 15 t (nI (u % 5))) 12 t) (fun w2 h2 => by obtain ⟨w1, -, h3, h4⟩ := h2; exact ⟨h3, h4⟩) (fun e9 => ?_)
      subst e9
      refine x_if_gt (tgt := 308) Γ dL_does_295 (by decide) (fun c295 => ?_) (fun c295 => ?_)
      · refine x_iconst (v := 1) Γ dL_does_308 (by decide) ?_
        refine x_goto (tgt := 313) Γ dL_does_309 (by decide) ?_
        exact x_iret Γ rfl rfl (fun w2 e2 => ⟨rfl, _, _, _, _, _, doF.same hz hF2 hJ2 hr2, e2⟩) ⟨Nat.le_of_ble_eq_true rfl, Nat.le_of_ble_eq_true rfl⟩ dL_does_313
      · refine x_aload_n Γ dL_does_298 rfl rfl ?_
        refine x_iload Γ dL_does_299 rfl ?_
        refine x_invV (emb := embI) (ci := 3) (rm := RQ) Γ [.int (nI t)] (fun w1 r w2 => r = (mU (mU (mU A 19 0 0) 15 t (-1)) 15 t (nI (u % 5))) 9 t ∧ lP G ca aa (mU (mU (mU A 19 0 0) 15 t (-1)) 15 t (nI (u % 5))) n (fFor t L ++ [t]) D th Z w2) rfl (fun w1 h1 => l_where h1 hF2 ht) lP.obj rfl k_522 k_1 k_2299 k_520 k_521 hd_X2_where ⟨Nat.le_of_ble_eq_true rfl, Nat.le_of_ble_eq_true rfl⟩ ⟨Nat.le_of_ble_eq_true rfl, Nat.le_of_ble_eq_true rfl⟩ (Nat.le_of_ble_eq_true rfl) dL_does_301 (fun r => ?_)
        refine x_then (P2 := lP G ca aa (mU (mU (mU A 19 0 0) 15 t (-1)) 15 t (nI (u % 5))) n (fFor t L ++ [t]) D th Z) (φ := r = (mU (mU (mU A 19 0 0) 15 t (-1)) 15 t (nI (u % 5))) 9 t) (fun w2 h2 => by obtain ⟨w1, -, h3, h4⟩ := h2; exact ⟨h3, h4⟩) (fun e9 => ?_)
        subst e9
        refine x_iconst (v := 5) Γ dL_does_304 (by decide) ?_
        refine x_icmp_ge (tgt := 312) Γ dL_does_305 (by decide) (fun c305 => absurd c305 (Int32.not_le.mpr (show A 9 t < 5 from h9))) (fun c305 => ?_)
        refine x_iconst (v := 1) Γ dL_does_308 (by decide) ?_
        refine x_goto (tgt := 313) Γ dL_does_309 (by decide) ?_
        exact x_iret Γ rfl rfl (fun w2 e2 => ⟨rfl, _, _, _, _, _, doF.same hz hF2 hJ2 hr2, e2⟩) ⟨Nat.le_of_ble_eq_true rfl, Nat.le_of_ble_eq_true rfl⟩ dL_does_313
set_option maxRecDepth 100000 in
theorem dc_314 (Γ : xC p s m meth c G cL_does 11 yL_does.cls (some .boolean)) (hfl : l.stackTraces = false) (hF : fI A n L D) (hJ : jI A n D (6 * D) m1) (hm : m1 ≤ 100000) (hD : D ≤ 919) (hz : ∀ t, t < n → Z 1 t = A 7 t) (hv : v < 2 ^ 31) (hu : u < 2 ^ 31) {th0 f0 : Int32} (hsel : f0 = 0 ∨ (f0 = 1 ∧ ∃ t, t < n ∧ th0 = nI t ∧ A 9 t < 5)) : xJ p l e ({ frames := 9, cells := 130, slots := 900, locals := 360 } : Room) s m ([.ref (ca 0), .ref (aa 1), .int (nI v), .int (nI u)] : List Value).toArray below meth c G 11 (MQ below (xQ G embI (fun r w' => r = 1 ∧ doX G ca aa A n D m1 u Z w')) ([.ref (ca 0), .ref (aa 1), .int (nI v), .int (nI u)] : List Value).toArray s ({ frames := 9, cells := 130, slots := 900, locals := 360 } : Room).cells ({ frames := 9, cells := 130, slots := 900, locals := 360 } : Room).slots (xA G)) (lP G ca aa A n L D th Z) 0 0 314 [(0, .ref (ca 0)), (1, .ref (aa 1)), (2, .int (nI v)), (3, .int (nI u)), (4, .int (nI n)), (5, .int th0), (6, .int f0)] [] := by
  rcases hsel with rfl | ⟨rfl, t, ht, rfl, h9⟩
  · refine x_iload Γ dL_does_314 rfl ?_
    refine x_if_eq (tgt := 352) Γ dL_does_316 (by decide) (fun c316 => ?_) (fun c316 => absurd (rfl) c316)
    refine x_iconst (v := 1) Γ dL_does_352 (by decide) ?_
    refine x_goto (tgt := 357) Γ dL_does_353 (by decide) ?_
    exact x_iret Γ rfl rfl (fun w2 e2 => ⟨rfl, _, _, _, _, _, doF.same hz hF hJ rs.rf, e2⟩) ⟨Nat.le_of_ble_eq_true rfl, Nat.le_of_ble_eq_true rfl⟩ dL_does_357
  · have hm9 : u % 300 < 300 := Nat.mod_lt _ (by decide)
    have hF2 := s_value hF (v := u % 300) ht h9 (by omega)
    have e7 : (nI (u % 300)).toInt = ((u % 300 : Nat) : Int) := nI_int (by omega)
    obtain ⟨hJ2, hr2⟩ := jI.value hJ t (v := nI (u % 300)) ⟨by rw [e7]; omega, by rw [e7]; omega⟩
    have hF3 := s_value hF2 (v := u % 300) ht h9 (by omega)
    obtain ⟨hJ3, hr3⟩ := jI.value hJ2 t (v := nI (u % 300)) ⟨by rw [e7]; omega, by rw [e7]; omega⟩
    refine x_iload Γ dL_does_314 rfl ?_
    refine x_if_eq (tgt := 352) Γ dL_does_316 (by decide) (fun c316 => absurd c316 (by decide)) (fun c316 => ?_)
    refine x_aload_n Γ dL_does_319 rfl rfl ?_
    refine x_iload Γ dL_does_320 rfl ?_
    refine x_iload_n Γ dL_does_322 rfl rfl ?_
    refine x_sipush (v := 300) Γ dL_does_323 (by decide) ?_
    refine x_irem (a := u) (d := 300) Γ rfl rfl hu (by decide) (by decide) dL_does_326 ?_
    refine x_invV (emb := embI) (ci := 3) (rm := RMu) Γ [.int (nI t), .int (nI (u % 300))] (fun w1 r w2 => r = (A) 8 t ∧ lP G ca aa (mU (mU A 19 0 0) 8 t (nI (u % 300))) n L D th Z w2) rfl (fun w1 h1 => l_value hfl h1 hF ht h9 (by omega)) lP.obj rfl k_438 k_1 k_2482 k_436 k_437 hd_X2_value ⟨Nat.le_of_ble_eq_true rfl, Nat.le_of_ble_eq_true rfl⟩ ⟨Nat.le_of_ble_eq_true rfl, Nat.le_of_ble_eq_true rfl⟩ (Nat.le_of_ble_eq_true rfl) dL_does_327 (fun r => ?_)
    refine x_then (P2 := lP G ca aa (mU (mU A 19 0 0) 8 t (nI (u % 300))) n L D th Z) (φ := r = (A) 8 t) (fun w2 h2 => by obtain ⟨w1, -, h3, h4⟩ := h2; exact ⟨h3, h4⟩) (fun e9 => ?_)
    subst e9
    refine x_if_lt (tgt := 356) Γ dL_does_330 (by decide) (fun c330 => absurd c330 ((fun z => by have := i_lt.mp z; have := (hJ.2.2.2.1 t ht).1; rw [i_0] at *; omega))) (fun c330 => ?_)
    refine x_aload_n Γ dL_does_333 rfl rfl ?_
    refine x_iload Γ dL_does_334 rfl ?_
    refine x_iload_n Γ dL_does_336 rfl rfl ?_
    refine x_sipush (v := 300) Γ dL_does_337 (by decide) ?_
    refine x_irem (a := u) (d := 300) Γ rfl rfl hu (by decide) (by decide) dL_does_340 ?_
    refine x_invV (emb := embI) (ci := 3) (rm := RMu) Γ [.int (nI t), .int (nI (u % 300))] (fun w1 r w2 => r = (mU (mU A 19 0 0) 8 t (nI (u % 300))) 8 t ∧ lP G ca aa (mU (mU (mU (mU A 19 0 0) 8 t (nI (u % 300))) 19 0 0) 8 t (nI (u % 300))) n L D th Z w2) rfl (fun w1 h1 => l_value hfl h1 hF2 ht h9 (by omega)) lP.obj rfl k_438 k_1 k_2482 k_436 k_437 hd_X2_value ⟨Nat.le_of_ble_eq_true rfl, Nat.le_of_ble_eq_true rfl⟩ ⟨Nat.le_of_ble_eq_true rfl, Nat.le_of_ble_eq_true rfl⟩ (Nat.le_of_ble_eq_true rfl) dL_does_341 (fun r => ?_)
    refine x_then (P2 := lP G ca aa (mU (mU (mU (mU A 19 0 0) 8 t (nI (u % 300))) 19 0 0) 8 t (nI (u % 300))) n L D th Z) (φ := r = (mU (mU A 19 0 0) 8 t (nI (u % 300))) 8 t) (fun w2 h2 => by obtain ⟨w1, -, h3, h4⟩ := h2; exact ⟨h3, h4⟩) (fun e9 => ?_)
    subst e9
    refine x_iload_n Γ dL_does_344 rfl rfl ?_
    refine x_sipush (v := 300) Γ dL_does_345 (by decide) ?_
    refine x_irem (a := u) (d := 300) Γ rfl rfl hu (by decide) (by decide) dL_does_348 ?_
    refine x_icmp_ne (tgt := 356) Γ dL_does_349 (by decide) (fun c349 => absurd (mU_eq _ _ _ _) c349) (fun c349 => ?_)
    refine x_iconst (v := 1) Γ dL_does_352 (by decide) ?_
    refine x_goto (tgt := 357) Γ dL_does_353 (by decide) ?_
    exact x_iret Γ rfl rfl (fun w2 e2 => ⟨rfl, _, _, _, _, _, doF.same hz hF3 hJ3 (hr2.tr hr3), e2⟩) ⟨Nat.le_of_ble_eq_true rfl, Nat.le_of_ble_eq_true rfl⟩ dL_does_357
set_option maxRecDepth 100000 in
theorem dc_46 (Γ : xC p s m meth c G cL_does 11 yL_does.cls (some .boolean)) (hfl : l.stackTraces = false) (hF : fI A n L D) (hJ : jI A n D (6 * D) m1) (hm : m1 ≤ 100000) (hD : D ≤ 919) (hz : ∀ t, t < n → Z 1 t = A 7 t) (hv : v < 2 ^ 31) (hu : u < 2 ^ 31) {th0 f0 : Int32} (hsel : f0 = 0 ∨ (f0 = 1 ∧ ∃ t, t < n ∧ th0 = nI t ∧ A 9 t < 5)) : xJ p l e ({ frames := 9, cells := 130, slots := 900, locals := 360 } : Room) s m ([.ref (ca 0), .ref (aa 1), .int (nI v), .int (nI u)] : List Value).toArray below meth c G 11 (MQ below (xQ G embI (fun r w' => r = 1 ∧ doX G ca aa A n D m1 u Z w')) ([.ref (ca 0), .ref (aa 1), .int (nI v), .int (nI u)] : List Value).toArray s ({ frames := 9, cells := 130, slots := 900, locals := 360 } : Room).cells ({ frames := 9, cells := 130, slots := 900, locals := 360 } : Room).slots (xA G)) (lP G ca aa A n L D th Z) 0 0 46 [(0, .ref (ca 0)), (1, .ref (aa 1)), (2, .int (nI v)), (3, .int (nI u)), (4, .int (nI n)), (5, .int th0), (6, .int f0)] [] := by
  refine x_iload_n Γ dL_does_46 rfl rfl ?_
  refine x_bipush (v := 8) Γ dL_does_47 (by decide) ?_
  refine x_irem (a := v) (d := 8) Γ rfl rfl hv (by decide) (by decide) dL_does_49 ?_
  have h8 : v % 8 = 0 ∨ v % 8 = 1 ∨ v % 8 = 2 ∨ v % 8 = 3 ∨ v % 8 = 4 ∨ v % 8 = 5 ∨ v % 8 = 6 ∨ v % 8 = 7 := by omega
  rcases h8 with h8 | h8 | h8 | h8 | h8 | h8 | h8 | h8 <;> rw [h8]
  · exact x_tin (tgt := 84) (off := 34) Γ dL_does_50 (by decide) (by decide) (by decide) (by decide) (dc_84 Γ hfl hF hJ hm hD hz hv hu hsel)
  · exact x_tin (tgt := 84) (off := 34) Γ dL_does_50 (by decide) (by decide) (by decide) (by decide) (dc_84 Γ hfl hF hJ hm hD hz hv hu hsel)
  · exact x_tin (tgt := 173) (off := 123) Γ dL_does_50 (by decide) (by decide) (by decide) (by decide) (dc_173 Γ hfl hF hJ hm hD hz hv hu hsel)
  · exact x_tin (tgt := 260) (off := 210) Γ dL_does_50 (by decide) (by decide) (by decide) (by decide) (dc_260 Γ hfl hF hJ hm hD hz hv hu hsel)
  · exact x_tin (tgt := 314) (off := 264) Γ dL_does_50 (by decide) (by decide) (by decide) (by decide) (dc_314 Γ hfl hF hJ hm hD hz hv hu hsel)
  · exact x_tout (tgt := 358) Γ dL_does_50 (Or.inr (by decide)) (by decide) (dc_358 Γ hfl hF hJ hm hD hz hv hu hsel)
  · exact x_tout (tgt := 358) Γ dL_does_50 (Or.inr (by decide)) (by decide) (dc_358 Γ hfl hF hJ hm hD hz hv hu hsel)
  · exact x_tout (tgt := 358) Γ dL_does_50 (Or.inr (by decide)) (by decide) (dc_358 Γ hfl hF hJ hm hD hz hv hu hsel)
set_option maxRecDepth 100000 in
theorem w_does {w : xW} (hfl : l.stackTraces = false) (h : lP G ca aa A n L D th Z w) (hF : fI A n L D) (hJ : jI A n D (6 * D) m1) (hm : m1 ≤ 100000) (hD : D ≤ 919) (hz : ∀ t, t < n → Z 1 t = A 7 t) (hv : v < 2 ^ 31) (hu : u < 2 ^ 31) : xMet l G yL_does cL_does 11 (some .boolean) ({ frames := 9, cells := 130, slots := 900, locals := 360 } : Room) [.ref (ca 0), .ref (aa 1), .int (nI v), .int (nI u)] w embI (fun r w' => r = 1 ∧ doX G ca aa A n D m1 u Z w') := by
  refine xMet_of (by decide) (Nat.le_of_ble_eq_true rfl) ?_
  intro p e s m below meth c Γ hnm
  have hn24 := hF.1.1.2.1
  refine x_weak (P' := lP G ca aa A n L D th Z) (fun w1 e1 => by rw [e1]; exact h) ?_
  refine x_aload_n Γ dL_does_0 rfl rfl ?_
  refine x_invV (emb := embI) (ci := 3) (rm := RS1) Γ [] (fun w1 r w2 => r = nI n ∧ lP G ca aa A n L D th Z w2) rfl (fun w1 h1 => l_things h1 hF) lP.obj rfl k_87 k_1 k_2295 k_85 k_86 hd_X2_things ⟨Nat.le_of_ble_eq_true rfl, Nat.le_of_ble_eq_true rfl⟩ ⟨Nat.le_of_ble_eq_true rfl, Nat.le_of_ble_eq_true rfl⟩ (Nat.le_of_ble_eq_true rfl) dL_does_1 (fun r => ?_)
  refine x_then (P2 := lP G ca aa A n L D th Z) (φ := r = nI n) (fun w2 h2 => by obtain ⟨w1, -, h3, h4⟩ := h2; exact ⟨h3, h4⟩) (fun e9 => ?_)
  subst e9
  refine x_istore Γ dL_does_4 rfl (by decide) ?_
  refine x_iload Γ dL_does_6 rfl ?_
  refine x_if_ne (tgt := 15) Γ dL_does_8 (by decide) (fun c8 => ?_) (fun c8 => ?_)
  · have hn0 : 0 < n := by
      rcases Nat.eq_zero_or_pos n with h0 | h0
      · subst h0; exact absurd rfl c8
      · exact h0
    refine x_iload_n Γ dL_does_15 rfl rfl ?_
    refine x_bipush (v := 8) Γ dL_does_16 (by decide) ?_
    refine x_idivN (a := v) (d := 8) Γ rfl rfl hv (by decide) (by decide) dL_does_18 ?_
    refine x_iload Γ dL_does_19 rfl ?_
    refine x_irem (a := v / 8) (d := n) Γ rfl rfl (by omega) hn0 (by omega) dL_does_21 ?_
    refine x_istore Γ dL_does_22 rfl (by decide) ?_
    refine x_iload Γ dL_does_24 rfl ?_
    refine x_if_lt (tgt := 43) Γ dL_does_26 (by decide) (fun c26 => absurd c26 (nI_nonneg (Nat.mod_lt _ hn0) (by omega))) (fun c26 => ?_)
    refine x_aload_n Γ dL_does_29 rfl rfl ?_
    refine x_iload Γ dL_does_30 rfl ?_
    refine x_invV (emb := embI) (ci := 3) (rm := RQ) Γ [.int (nI (v / 8 % n))] (fun w1 r w2 => r = A 9 (v / 8 % n) ∧ lP G ca aa A n L D th Z w2) rfl (fun w1 h1 => l_where h1 hF (Nat.mod_lt _ hn0)) lP.obj rfl k_522 k_1 k_2299 k_520 k_521 hd_X2_where ⟨Nat.le_of_ble_eq_true rfl, Nat.le_of_ble_eq_true rfl⟩ ⟨Nat.le_of_ble_eq_true rfl, Nat.le_of_ble_eq_true rfl⟩ (Nat.le_of_ble_eq_true rfl) dL_does_32 (fun r => ?_)
    refine x_then (P2 := lP G ca aa A n L D th Z) (φ := r = A 9 (v / 8 % n)) (fun w2 h2 => by obtain ⟨w1, -, h3, h4⟩ := h2; exact ⟨h3, h4⟩) (fun e9 => ?_)
    refine x_iconst (v := 5) Γ dL_does_35 (by decide) ?_
    refine x_icmp_ge (tgt := 43) Γ dL_does_36 (by decide) (fun c36 => ?_) (fun c36 => ?_)
    · subst e9
      refine x_iconst (v := 0) Γ dL_does_43 (by decide) ?_
      refine x_istore Γ dL_does_44 rfl (by decide) ?_
      refine x_lv [0, 1, 2, 3, 4, 5, 6] rfl ?_
      exact dc_46 Γ hfl hF hJ hm hD hz hv hu (Or.inl rfl)
    · subst e9
      refine x_iconst (v := 1) Γ dL_does_39 (by decide) ?_
      refine x_goto (tgt := 44) Γ dL_does_40 (by decide) ?_
      refine x_istore Γ dL_does_44 rfl (by decide) ?_
      refine x_lv [0, 1, 2, 3, 4, 5, 6] rfl ?_
      exact dc_46 Γ hfl hF hJ hm hD hz hv hu (Or.inr ⟨rfl, _, Nat.mod_lt _ hn0, rfl, Int32.not_le.mp c36⟩)
  · refine x_iconst (v := (-1)) Γ dL_does_11 (by decide) ?_
    refine x_goto (tgt := 22) Γ dL_does_12 (by decide) ?_
    refine x_istore Γ dL_does_22 rfl (by decide) ?_
    refine x_iload Γ dL_does_24 rfl ?_
    refine x_if_lt (tgt := 43) Γ dL_does_26 (by decide) (fun c26 => ?_) (fun c26 => absurd (by decide) c26)
    refine x_iconst (v := 0) Γ dL_does_43 (by decide) ?_
    refine x_istore Γ dL_does_44 rfl (by decide) ?_
    refine x_lv [0, 1, 2, 3, 4, 5, 6] rfl ?_
    exact dc_46 Γ hfl hF hJ hm hD hz hv hu (Or.inl rfl)
end XLD

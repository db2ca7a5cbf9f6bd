section XLL
def leX (G : xG) (ca aa : Nat → Nat) (A : xS) (n D m : Nat) (th : Nat → Nat) (Z : xS) : xW → Prop := fun w => ∃ A' L', (fI A' n L' D ∧ jI A' n D (6 * D) (m + 400) ∧ rs n A A') ∧ lP G ca aa A' n L' D th Z w
variable {l : Launch} {G : xG} {ca aa th : Nat → Nat} {A : xS} {n : Nat} {L : List Nat} {D m1 v t lr : Nat} {Z : xS}
theorem lend_12 (A : xS) (t : Nat) (l z : Int32) : bLend (mU A 19 0 0) t l z 12 t = z := by
  unfold bLend
  rw [mU_j (by decide), mU_j (by decide), mU_j (by decide), mU_eq]
theorem lend_14 (A : xS) (t : Nat) (l z : Int32) : bLend (mU A 19 0 0) t l z 14 t = -1 := by
  unfold bLend
  rw [mU_j (by decide), mU_eq]
theorem lend_4 (A : xS) (t : Nat) (l z : Int32) : bLend (mU A 19 0 0) t l z 4 = A 4 := by
  unfold bLend
  rw [mU_j (by decide), mU_j (by decide), mU_j (by decide), mU_j (by decide), mU_j (by decide)]
theorem repay_12 (A : xS) (t : Nat) : bRepay (mU A 19 0 0) t 12 t = 0 := by
  unfold bRepay
  rw [mU_j (by decide), mU_eq]
set_option maxRecDepth 100000 in
theorem w_lends {w : xW} (hfl : l.stackTraces = false) (h : lP G ca aa A n L D th Z w) (hF : fI A n L D) (hJ : jI A n D (6 * D) m1) (hm : m1 ≤ 100000) (hD : D ≤ 919) (ht : t < n) (hlr : lr < 8) (hv : v < 2 ^ 31) (hz : ∀ t, t < n → Z 2 t = A 6 t) : xMet l G yL_lends cL_lends 9 (some .boolean) ({ frames := 9, cells := 190, slots := 1300, locals := 360 } : Room) [.ref (ca 0), .ref (aa 2), .int (nI t), .int (nI lr), .int (nI v)] w embI (fun r w' => r = 1 ∧ leX G ca aa A n D m1 th Z w') := by
  refine xMet_of (by decide) (Nat.le_of_ble_eq_true rfl) ?_
  intro p e s m below meth c Γ hnm
  have hn24 := hF.1.1.2.1
  refine x_weak (P' := lP G ca aa A n L D th Z) (fun w1 e1 => by rw [e1]; exact h) ?_
  refine x_aload_n Γ dL_lends_0 rfl rfl ?_
  refine x_invS (emb := embI) (rm := ({ frames := 6, cells := 0, slots := 0, locals := 165 } : Room)) Γ [.ref (ca 0)] (fun w1 r w2 => r = psI (A) 8 ∧ lP G ca aa (A) n L D th Z w2) rfl (fun w1 h1 => w_purses h1 hF) k_2347 k_0 k_2345 k_2346 hd_L_purses ⟨Nat.le_of_ble_eq_true rfl, Nat.le_of_ble_eq_true rfl⟩ ⟨Nat.le_of_ble_eq_true rfl, Nat.le_of_ble_eq_true rfl⟩ (Nat.le_of_ble_eq_true rfl) dL_lends_1 (fun r => ?_)
  refine x_then (P2 := lP G ca aa (A) n L D th Z) (φ := r = psI (A) 8) (fun w2 h2 => by obtain ⟨w1, -, h3, h4⟩ := h2; exact ⟨h3, h4⟩) (fun e9 => ?_)
  subst e9
  refine x_istore Γ dL_lends_4 rfl (by decide) ?_
  refine x_aload_n Γ dL_lends_6 rfl rfl ?_
  refine x_iload_n Γ dL_lends_7 rfl rfl ?_
  refine x_invV (emb := embI) (ci := 3) (rm := RQ) Γ [.int (nI t)] (fun w1 r w2 => r = (A) 9 t ∧ lP G ca aa (A) n L D th Z w2) rfl (fun w1 h1 => l_where h1 hF ht) lP.obj rfl k_522 k_1 k_2299 k_520 k_521 hd_X2_where ⟨Nat.le_of_ble_eq_true rfl, Nat.le_of_ble_eq_true rfl⟩ ⟨Nat.le_of_ble_eq_true rfl, Nat.le_of_ble_eq_true rfl⟩ (Nat.le_of_ble_eq_true rfl) dL_lends_8 (fun r => ?_)
  refine x_then (P2 := lP G ca aa (A) n L D th Z) (φ := r = (A) 9 t) (fun w2 h2 => by obtain ⟨w1, -, h3, h4⟩ := h2; exact ⟨h3, h4⟩) (fun e9 => ?_)
  subst e9
  refine x_iconst (v := 5) Γ dL_lends_11 (by decide) ?_
  refine x_icmp_lt (tgt := 29) Γ dL_lends_12 (by decide) (fun c12 => ?_) (fun c12 => ?_)
  · refine x_aload_n Γ dL_lends_29 rfl rfl ?_
    refine x_iload_n Γ dL_lends_30 rfl rfl ?_
    refine x_invV (emb := embI) (ci := 3) (rm := RQ) Γ [.int (nI t)] (fun w1 r w2 => r = (A) 12 t ∧ lP G ca aa (A) n L D th Z w2) rfl (fun w1 h1 => l_loan h1 hF ht) lP.obj rfl k_555 k_1 k_2332 k_553 k_554 hd_X2_loan ⟨Nat.le_of_ble_eq_true rfl, Nat.le_of_ble_eq_true rfl⟩ ⟨Nat.le_of_ble_eq_true rfl, Nat.le_of_ble_eq_true rfl⟩ (Nat.le_of_ble_eq_true rfl) dL_lends_31 (fun r => ?_)
    refine x_then (P2 := lP G ca aa (A) n L D th Z) (φ := r = (A) 12 t) (fun w2 h2 => by obtain ⟨w1, -, h3, h4⟩ := h2; exact ⟨h3, h4⟩) (fun e9 => ?_)
    subst e9
    refine x_istore Γ dL_lends_34 rfl (by decide) ?_
    refine x_iload Γ dL_lends_36 rfl ?_
    refine x_if_le (tgt := 77) Γ dL_lends_38 (by decide) (fun c38 => ?_) (fun c38 => ?_)
    · have h9 : A 9 t < 5 := c12
      have h12 : ¬ 0 < A 12 t := Int32.not_lt.mpr c38
      have e40 : (nI 40).toInt = 40 := by decide
      have hF1 : fI (mU (mU A 19 0 0) 8 t (nI 40)) n L D := s_value hF (v := 40) ht h9 (by omega)
      obtain ⟨hJ1, hr1⟩ := jI.value hJ t (v := nI 40) ⟨by rw [e40]; omega, by rw [e40]; omega⟩
      refine x_aload_n Γ dL_lends_77 rfl rfl ?_
      refine x_iload_n Γ dL_lends_78 rfl rfl ?_
      refine x_bipush (v := nI 40) Γ dL_lends_79 rfl ?_
      refine x_invV (emb := embI) (ci := 3) (rm := RMu) Γ [.int (nI t), .int (nI 40)] (fun w1 r w2 => r = A 8 t ∧ lP G ca aa (mU (mU A 19 0 0) 8 t (nI 40)) n L D th Z w2) rfl (fun w1 h1 => l_value hfl h1 hF ht h9 (by omega)) lP.obj rfl k_438 k_1 k_2482 k_436 k_437 hd_X2_value ⟨Nat.le_of_ble_eq_true rfl, Nat.le_of_ble_eq_true rfl⟩ ⟨Nat.le_of_ble_eq_true rfl, Nat.le_of_ble_eq_true rfl⟩ (Nat.le_of_ble_eq_true rfl) dL_lends_81 (fun r => ?_)
      refine x_then (P2 := lP G ca aa (mU (mU A 19 0 0) 8 t (nI 40)) n L D th Z) (φ := r = A 8 t) (fun w2 h2 => by obtain ⟨w1, -, h3, h4⟩ := h2; exact ⟨h3, h4⟩) (fun e9 => ?_)
      subst e9
      refine x_pop Γ dL_lends_84 rfl ?_
      refine x_aload_n Γ dL_lends_85 rfl rfl ?_
      refine x_iload_n Γ dL_lends_86 rfl rfl ?_
      refine x_iald (N := 24) (f := Z 2) (x := A 6 t) Γ (lP.arr ⟨by decide, by decide⟩) (vp_in_nI (by omega) (by decide)) (by rw [nI_clamp (by omega)]; exact hz t ht) dL_lends_87 ?_
      refine x_istore Γ dL_lends_88 rfl (by decide) ?_
      refine x_iload Γ dL_lends_90 rfl ?_
      refine x_iload_n Γ dL_lends_92 rfl rfl ?_
      refine x_icmp_ne (tgt := 98) Γ dL_lends_93 (by decide) (fun c93 => ?_) (fun c93 => ?_)
      · have hne : ¬ A 6 t = nI lr := c93
        have hz20 : 1 ≤ 1 + v % 20 ∧ 1 + v % 20 ≤ 20 := ⟨by omega, by omega⟩
        have ez : (nI (1 + v % 20)).toInt = ((1 + v % 20 : Nat) : Int) := nI_int (by omega)
        have hF2 : fI (bLend (mU (mU (mU A 19 0 0) 8 t (nI 40)) 19 0 0) t (nI lr) (nI (1 + v % 20))) n L D := s_lend hF1 ht h9 h12 hlr hz20 (mU_eq _ _ _ _) hne
        obtain ⟨hJ2, hr2, hp2⟩ := jI.lend (L := L) (l := nI lr) (z := nI (1 + v % 20)) hF1.1 hJ1 ht ⟨by rw [ez]; omega, by rw [ez]; omega⟩ (by omega)
        have hps : psI (bLend (mU (mU (mU A 19 0 0) 8 t (nI 40)) 19 0 0) t (nI lr) (nI (1 + v % 20))) 8 = psI A 8 + 1 + nI (v % 20) := by rw [hp2, psI_row (A := A) (A' := mU (mU A 19 0 0) 8 t (nI 40)) rfl, ← nI_add 1 (v % 20), ← Int32.add_assoc]; rfl
        have e12 : (bLend (mU (mU (mU A 19 0 0) 8 t (nI 40)) 19 0 0) t (nI lr) (nI (1 + v % 20))) 12 t = nI (1 + v % 20) := lend_12 _ _ _ _
        have e4 : (bLend (mU (mU (mU A 19 0 0) 8 t (nI 40)) 19 0 0) t (nI lr) (nI (1 + v % 20))) 4 0 = nI D := hF2.2.2.1
        refine x_aload_n Γ dL_lends_98 rfl rfl ?_
        refine x_iload_n Γ dL_lends_99 rfl rfl ?_
        refine x_iload_n Γ dL_lends_100 rfl rfl ?_
        refine x_iconst (v := 1) Γ dL_lends_101 (by decide) ?_
        refine x_iload Γ dL_lends_102 rfl ?_
        refine x_bipush (v := 20) Γ dL_lends_104 (by decide) ?_
        refine x_irem (a := v) (d := 20) Γ rfl rfl hv (by decide) (by decide) dL_lends_106 ?_
        refine x_iadd Γ dL_lends_107 ?_
        rw [show (1 : Int32) + nI (v % 20) = nI (1 + v % 20) from nI_add 1 (v % 20)]
        refine x_invV (emb := embV) (ci := 3) (rm := RMu) Γ [.int (nI t), .int (nI lr), .int (nI (1 + v % 20))] (fun w1 _ w2 => lP G ca aa (bLend (mU (mU (mU A 19 0 0) 8 t (nI 40)) 19 0 0) t (nI lr) (nI (1 + v % 20))) n L D th Z w2) rfl (fun w1 h1 => l_lend hfl h1 hF1 ht h9 h12 hlr hz20 (mU_eq _ _ _ _) hne) lP.obj rfl k_447 k_1 k_2496 k_445 k_446 hd_X2_lend ⟨Nat.le_of_ble_eq_true rfl, Nat.le_of_ble_eq_true rfl⟩ ⟨Nat.le_of_ble_eq_true rfl, Nat.le_of_ble_eq_true rfl⟩ (Nat.le_of_ble_eq_true rfl) dL_lends_108 (fun _ => ?_)
        refine x_weak (P' := lP G ca aa (bLend (mU (mU (mU A 19 0 0) 8 t (nI 40)) 19 0 0) t (nI lr) (nI (1 + v % 20))) n L D th Z) (fun w2 h2 => by obtain ⟨w1, -, h4⟩ := h2; exact h4) ?_
        refine x_iload Γ dL_lends_111 rfl ?_
        refine x_iconst (v := 3) Γ dL_lends_113 (by decide) ?_
        refine x_irem (a := v) (d := 3) Γ rfl rfl hv (by decide) (by decide) dL_lends_114 ?_
        refine x_if_ne (tgt := 126) Γ dL_lends_115 (by decide) (fun c115 => ?_) (fun c115 => ?_)
        · refine x_aload_n Γ dL_lends_126 rfl rfl ?_
          refine x_invV (emb := embI) (ci := 3) (rm := RS1) Γ [] (fun w1 r w2 => r = nI D ∧ lP G ca aa (bLend (mU (mU (mU A 19 0 0) 8 t (nI 40)) 19 0 0) t (nI lr) (nI (1 + v % 20))) n L D th Z w2) rfl (fun w1 h1 => l_day h1 hF2) lP.obj rfl k_83 k_1 k_2291 k_81 k_82 hd_X2_day ⟨Nat.le_of_ble_eq_true rfl, Nat.le_of_ble_eq_true rfl⟩ ⟨Nat.le_of_ble_eq_true rfl, Nat.le_of_ble_eq_true rfl⟩ (Nat.le_of_ble_eq_true rfl) dL_lends_127 (fun r => ?_)
          refine x_then (P2 := lP G ca aa (bLend (mU (mU (mU A 19 0 0) 8 t (nI 40)) 19 0 0) t (nI lr) (nI (1 + v % 20))) n L D th Z) (φ := r = nI D) (fun w2 h2 => by obtain ⟨w1, -, h3, h4⟩ := h2; exact ⟨h3, h4⟩) (fun e9 => ?_)
          subst e9
          refine x_iconst (v := 3) Γ dL_lends_130 (by decide) ?_
          refine x_iadd Γ dL_lends_131 ?_
          refine x_istore Γ dL_lends_132 rfl (by decide) ?_
          refine x_aload_n Γ dL_lends_134 rfl rfl ?_
          refine x_iload_n Γ dL_lends_135 rfl rfl ?_
          refine x_invV (emb := embI) (ci := 3) (rm := RQ) Γ [.int (nI t)] (fun w1 r w2 => r = (bLend (mU (mU (mU A 19 0 0) 8 t (nI 40)) 19 0 0) t (nI lr) (nI (1 + v % 20))) 12 t ∧ lP G ca aa (bLend (mU (mU (mU A 19 0 0) 8 t (nI 40)) 19 0 0) t (nI lr) (nI (1 + v % 20))) n L D th Z w2) rfl (fun w1 h1 => l_loan h1 hF2 ht) lP.obj rfl k_555 k_1 k_2332 k_553 k_554 hd_X2_loan ⟨Nat.le_of_ble_eq_true rfl, Nat.le_of_ble_eq_true rfl⟩ ⟨Nat.le_of_ble_eq_true rfl, Nat.le_of_ble_eq_true rfl⟩ (Nat.le_of_ble_eq_true rfl) dL_lends_136 (fun r => ?_)
          refine x_then (P2 := lP G ca aa (bLend (mU (mU (mU A 19 0 0) 8 t (nI 40)) 19 0 0) t (nI lr) (nI (1 + v % 20))) n L D th Z) (φ := r = (bLend (mU (mU (mU A 19 0 0) 8 t (nI 40)) 19 0 0) t (nI lr) (nI (1 + v % 20))) 12 t) (fun w2 h2 => by obtain ⟨w1, -, h3, h4⟩ := h2; exact ⟨h3, h4⟩) (fun e9 => ?_)
          rw [e12] at e9
          subst e9
          refine x_iconst (v := 1) Γ dL_lends_139 (by decide) ?_
          refine x_iload Γ dL_lends_140 rfl ?_
          refine x_bipush (v := 20) Γ dL_lends_142 (by decide) ?_
          refine x_irem (a := v) (d := 20) Γ rfl rfl hv (by decide) (by decide) dL_lends_144 ?_
          refine x_iadd Γ dL_lends_145 ?_
          rw [show (1 : Int32) + nI (v % 20) = nI (1 + v % 20) from nI_add 1 (v % 20)]
          refine x_icmp_ne (tgt := 181) Γ dL_lends_146 (by decide) (fun c146 => absurd (rfl) c146) (fun c146 => ?_)
          refine x_aload_n Γ dL_lends_149 rfl rfl ?_
          refine x_invS (emb := embI) (rm := ({ frames := 6, cells := 0, slots := 0, locals := 165 } : Room)) Γ [.ref (ca 0)] (fun w1 r w2 => r = psI (bLend (mU (mU (mU A 19 0 0) 8 t (nI 40)) 19 0 0) t (nI lr) (nI (1 + v % 20))) 8 ∧ lP G ca aa (bLend (mU (mU (mU A 19 0 0) 8 t (nI 40)) 19 0 0) t (nI lr) (nI (1 + v % 20))) n L D th Z w2) rfl (fun w1 h1 => w_purses h1 hF2) k_2347 k_0 k_2345 k_2346 hd_L_purses ⟨Nat.le_of_ble_eq_true rfl, Nat.le_of_ble_eq_true rfl⟩ ⟨Nat.le_of_ble_eq_true rfl, Nat.le_of_ble_eq_true rfl⟩ (Nat.le_of_ble_eq_true rfl) dL_lends_150 (fun r => ?_)
          refine x_then (P2 := lP G ca aa (bLend (mU (mU (mU A 19 0 0) 8 t (nI 40)) 19 0 0) t (nI lr) (nI (1 + v % 20))) n L D th Z) (φ := r = psI (bLend (mU (mU (mU A 19 0 0) 8 t (nI 40)) 19 0 0) t (nI lr) (nI (1 + v % 20))) 8) (fun w2 h2 => by obtain ⟨w1, -, h3, h4⟩ := h2; exact ⟨h3, h4⟩) (fun e9 => ?_)
          rw [hps] at e9
          subst e9
          refine x_iload Γ dL_lends_153 rfl ?_
          refine x_iconst (v := 1) Γ dL_lends_155 (by decide) ?_
          refine x_iadd Γ dL_lends_156 ?_
          refine x_iload Γ dL_lends_157 rfl ?_
          refine x_bipush (v := 20) Γ dL_lends_159 (by decide) ?_
          refine x_irem (a := v) (d := 20) Γ rfl rfl hv (by decide) (by decide) dL_lends_161 ?_
          refine x_iadd Γ dL_lends_162 ?_
          refine x_icmp_ne (tgt := 181) Γ dL_lends_163 (by decide) (fun c163 => absurd (rfl) c163) (fun c163 => ?_)
          refine x_iload Γ dL_lends_166 rfl ?_
          refine x_aload_n Γ dL_lends_168 rfl rfl ?_
          refine x_invV (emb := embI) (ci := 3) (rm := RS1) Γ [] (fun w1 r w2 => r = nI D ∧ lP G ca aa (bLend (mU (mU (mU A 19 0 0) 8 t (nI 40)) 19 0 0) t (nI lr) (nI (1 + v % 20))) n L D th Z w2) rfl (fun w1 h1 => l_day h1 hF2) lP.obj rfl k_83 k_1 k_2291 k_81 k_82 hd_X2_day ⟨Nat.le_of_ble_eq_true rfl, Nat.le_of_ble_eq_true rfl⟩ ⟨Nat.le_of_ble_eq_true rfl, Nat.le_of_ble_eq_true rfl⟩ (Nat.le_of_ble_eq_true rfl) dL_lends_169 (fun r => ?_)
          refine x_then (P2 := lP G ca aa (bLend (mU (mU (mU A 19 0 0) 8 t (nI 40)) 19 0 0) t (nI lr) (nI (1 + v % 20))) n L D th Z) (φ := r = nI D) (fun w2 h2 => by obtain ⟨w1, -, h3, h4⟩ := h2; exact ⟨h3, h4⟩) (fun e9 => ?_)
          subst e9
          refine x_iconst (v := 3) Γ dL_lends_172 (by decide) ?_
          refine x_iadd Γ dL_lends_173 ?_
          refine x_icmp_ne (tgt := 181) Γ dL_lends_174 (by decide) (fun c174 => absurd (rfl) c174) (fun c174 => ?_)
          refine x_iconst (v := 1) Γ dL_lends_177 (by decide) ?_
          refine x_goto (tgt := 182) Γ dL_lends_178 (by decide) ?_
          exact x_iret Γ rfl rfl (fun w2 e2 => ⟨rfl, _, _, ⟨hF2, hJ2.mono (by omega), (hr1.tr hr2)⟩, e2⟩) ⟨Nat.le_of_ble_eq_true rfl, Nat.le_of_ble_eq_true rfl⟩ dL_lends_182
        · have hF3 : fI (mU (mU (bLend (mU (mU (mU A 19 0 0) 8 t (nI 40)) 19 0 0) t (nI lr) (nI (1 + v % 20))) 19 0 0) 14 t ((bLend (mU (mU (mU A 19 0 0) 8 t (nI 40)) 19 0 0) t (nI lr) (nI (1 + v % 20))) 4 0 + 3)) n L D := s_doubt hF2 ht (by rw [e12]; exact nI_lt (a := 0) (by omega) (by omega)) (lend_14 _ _ _ _)
          obtain ⟨hJ3, hr3⟩ := jI.doubt hJ2 t ((bLend (mU (mU (mU A 19 0 0) 8 t (nI 40)) 19 0 0) t (nI lr) (nI (1 + v % 20))) 4 0 + 3)
          have e12b : (mU (mU (bLend (mU (mU (mU A 19 0 0) 8 t (nI 40)) 19 0 0) t (nI lr) (nI (1 + v % 20))) 19 0 0) 14 t ((bLend (mU (mU (mU A 19 0 0) 8 t (nI 40)) 19 0 0) t (nI lr) (nI (1 + v % 20))) 4 0 + 3)) 12 t = nI (1 + v % 20) := e12
          have hps3 : psI (mU (mU (bLend (mU (mU (mU A 19 0 0) 8 t (nI 40)) 19 0 0) t (nI lr) (nI (1 + v % 20))) 19 0 0) 14 t ((bLend (mU (mU (mU A 19 0 0) 8 t (nI 40)) 19 0 0) t (nI lr) (nI (1 + v % 20))) 4 0 + 3)) 8 = psI A 8 + 1 + nI (v % 20) := (psI_row (A := bLend (mU (mU (mU A 19 0 0) 8 t (nI 40)) 19 0 0) t (nI lr) (nI (1 + v % 20))) (A' := mU (mU (bLend (mU (mU (mU A 19 0 0) 8 t (nI 40)) 19 0 0) t (nI lr) (nI (1 + v % 20))) 19 0 0) 14 t ((bLend (mU (mU (mU A 19 0 0) 8 t (nI 40)) 19 0 0) t (nI lr) (nI (1 + v % 20))) 4 0 + 3)) rfl 8).trans hps
          refine x_aload_n Γ dL_lends_118 rfl rfl ?_
          refine x_iload_n Γ dL_lends_119 rfl rfl ?_
          refine x_invV (emb := embI) (ci := 3) (rm := RMu) Γ [.int (nI t)] (fun w1 r w2 => r = (bLend (mU (mU (mU A 19 0 0) 8 t (nI 40)) 19 0 0) t (nI lr) (nI (1 + v % 20))) 4 0 + 3 ∧ lP G ca aa (mU (mU (bLend (mU (mU (mU A 19 0 0) 8 t (nI 40)) 19 0 0) t (nI lr) (nI (1 + v % 20))) 19 0 0) 14 t ((bLend (mU (mU (mU A 19 0 0) 8 t (nI 40)) 19 0 0) t (nI lr) (nI (1 + v % 20))) 4 0 + 3)) n L D th Z w2) rfl (fun w1 h1 => l_doubt hfl h1 hF2 ht (by rw [e12]; exact nI_lt (a := 0) (by omega) (by omega)) (lend_14 _ _ _ _)) lP.obj rfl k_476 k_1 k_2506 k_474 k_475 hd_X2_doubt ⟨Nat.le_of_ble_eq_true rfl, Nat.le_of_ble_eq_true rfl⟩ ⟨Nat.le_of_ble_eq_true rfl, Nat.le_of_ble_eq_true rfl⟩ (Nat.le_of_ble_eq_true rfl) dL_lends_120 (fun r => ?_)
          refine x_then (P2 := lP G ca aa (mU (mU (bLend (mU (mU (mU A 19 0 0) 8 t (nI 40)) 19 0 0) t (nI lr) (nI (1 + v % 20))) 19 0 0) 14 t ((bLend (mU (mU (mU A 19 0 0) 8 t (nI 40)) 19 0 0) t (nI lr) (nI (1 + v % 20))) 4 0 + 3)) n L D th Z) (φ := r = (bLend (mU (mU (mU A 19 0 0) 8 t (nI 40)) 19 0 0) t (nI lr) (nI (1 + v % 20))) 4 0 + 3) (fun w2 h2 => by obtain ⟨w1, -, h3, h4⟩ := h2; exact ⟨h3, h4⟩) (fun e9 => ?_)
          rw [e4] at e9
          subst e9
          refine x_goto (tgt := 132) Γ dL_lends_123 (by decide) ?_
          refine x_istore Γ dL_lends_132 rfl (by decide) ?_
          refine x_aload_n Γ dL_lends_134 rfl rfl ?_
          refine x_iload_n Γ dL_lends_135 rfl rfl ?_
          refine x_invV (emb := embI) (ci := 3) (rm := RQ) Γ [.int (nI t)] (fun w1 r w2 => r = (mU (mU (bLend (mU (mU (mU A 19 0 0) 8 t (nI 40)) 19 0 0) t (nI lr) (nI (1 + v % 20))) 19 0 0) 14 t ((bLend (mU (mU (mU A 19 0 0) 8 t (nI 40)) 19 0 0) t (nI lr) (nI (1 + v % 20))) 4 0 + 3)) 12 t ∧ lP G ca aa (mU (mU (bLend (mU (mU (mU A 19 0 0) 8 t (nI 40)) 19 0 0) t (nI lr) (nI (1 + v % 20))) 19 0 0) 14 t ((bLend (mU (mU (mU A 19 0 0) 8 t (nI 40)) 19 0 0) t (nI lr) (nI (1 + v % 20))) 4 0 + 3)) n L D th Z w2) rfl (fun w1 h1 => l_loan h1 hF3 ht) lP.obj rfl k_555 k_1 k_2332 k_553 k_554 hd_X2_loan ⟨Nat.le_of_ble_eq_true rfl, Nat.le_of_ble_eq_true rfl⟩ ⟨Nat.le_of_ble_eq_true rfl, Nat.le_of_ble_eq_true rfl⟩ (Nat.le_of_ble_eq_true rfl) dL_lends_136 (fun r => ?_)
          refine x_then (P2 := lP G ca aa (mU (mU (bLend (mU (mU (mU A 19 0 0) 8 t (nI 40)) 19 0 0) t (nI lr) (nI (1 + v % 20))) 19 0 0) 14 t ((bLend (mU (mU (mU A 19 0 0) 8 t (nI 40)) 19 0 0) t (nI lr) (nI (1 + v % 20))) 4 0 + 3)) n L D th Z) (φ := r = (mU (mU (bLend (mU (mU (mU A 19 0 0) 8 t (nI 40)) 19 0 0) t (nI lr) (nI (1 + v % 20))) 19 0 0) 14 t ((bLend (mU (mU (mU A 19 0 0) 8 t (nI 40)) 19 0 0) t (nI lr) (nI (1 + v % 20))) 4 0 + 3)) 12 t) (fun w2 h2 => by obtain ⟨w1, -, h3, h4⟩ := h2; exact ⟨h3, h4⟩) (fun e9 => ?_)
          rw [e12b] at e9
          subst e9
          refine x_iconst (v := 1) Γ dL_lends_139 (by decide) ?_
          refine x_iload Γ dL_lends_140 rfl ?_
          refine x_bipush (v := 20) Γ dL_lends_142 (by decide) ?_
          refine x_irem (a := v) (d := 20) Γ rfl rfl hv (by decide) (by decide) dL_lends_144 ?_
          refine x_iadd Γ dL_lends_145 ?_
          rw [show (1 : Int32) + nI (v % 20) = nI (1 + v % 20) from nI_add 1 (v % 20)]
          refine x_icmp_ne (tgt := 181) Γ dL_lends_146 (by decide) (fun c146 => absurd (rfl) c146) (fun c146 => ?_)
          refine x_aload_n Γ dL_lends_149 rfl rfl ?_
          refine x_invS (emb := embI) (rm := ({ frames := 6, cells := 0, slots := 0, locals := 165 } : Room)) Γ [.ref (ca 0)] (fun w1 r w2 => r = psI (mU (mU (bLend (mU (mU (mU A 19 0 0) 8 t (nI 40)) 19 0 0) t (nI lr) (nI (1 + v % 20))) 19 0 0) 14 t ((bLend (mU (mU (mU A 19 0 0) 8 t (nI 40)) 19 0 0) t (nI lr) (nI (1 + v % 20))) 4 0 + 3)) 8 ∧ lP G ca aa (mU (mU (bLend (mU (mU (mU A 19 0 0) 8 t (nI 40)) 19 0 0) t (nI lr) (nI (1 + v % 20))) 19 0 0) 14 t ((bLend (mU (mU (mU A 19 0 0) 8 t (nI 40)) 19 0 0) t (nI lr) (nI (1 + v % 20))) 4 0 + 3)) n L D th Z w2) rfl (fun w1 h1 => w_purses h1 hF3) k_2347 k_0 k_2345 k_2346 hd_L_purses ⟨Nat.le_of_ble_eq_true rfl, Nat.le_of_ble_eq_true rfl⟩ ⟨Nat.le_of_ble_eq_true rfl, Nat.le_of_ble_eq_true rfl⟩ (Nat.le_of_ble_eq_true rfl) dL_lends_150 (fun r => ?_)
          refine x_then (P2 := lP G ca aa (mU (mU (bLend (mU (mU (mU A 19 0 0) 8 t (nI 40)) 19 0 0) t (nI lr) (nI (1 + v % 20))) 19 0 0) 14 t ((bLend (mU (mU (mU A 19 0 0) 8 t (nI 40)) 19 0 0) t (nI lr) (nI (1 + v % 20))) 4 0 + 3)) n L D th Z) (φ := r = psI (mU (mU (bLend (mU (mU (mU A 19 0 0) 8 t (nI 40)) 19 0 0) t (nI lr) (nI (1 + v % 20))) 19 0 0) 14 t ((bLend (mU (mU (mU A 19 0 0) 8 t (nI 40)) 19 0 0) t (nI lr) (nI (1 + v % 20))) 4 0 + 3)) 8) (fun w2 h2 => by obtain ⟨w1, -, h3, h4⟩ := h2; exact ⟨h3, h4⟩) (fun e9 => ?_)
          rw [hps3] at e9
          subst e9
          refine x_iload Γ dL_lends_153 rfl ?_
          refine x_iconst (v := 1) Γ dL_lends_155 (by decide) ?_
          refine x_iadd Γ dL_lends_156 ?_
          refine x_iload Γ dL_lends_157 rfl ?_
          refine x_bipush (v := 20) Γ dL_lends_159 (by decide) ?_
          refine x_irem (a := v) (d := 20) Γ rfl rfl hv (by decide) (by decide) dL_lends_161 ?_
          refine x_iadd Γ dL_lends_162 ?_
          refine x_icmp_ne (tgt := 181) Γ dL_lends_163 (by decide) (fun c163 => absurd (rfl) c163) (fun c163 => ?_)
          refine x_iload Γ dL_lends_166 rfl ?_
          refine x_aload_n Γ dL_lends_168 rfl rfl ?_
          refine x_invV (emb := embI) (ci := 3) (rm := RS1) Γ [] (fun w1 r w2 => r = nI D ∧ lP G ca aa (mU (mU (bLend (mU (mU (mU A 19 0 0) 8 t (nI 40)) 19 0 0) t (nI lr) (nI (1 + v % 20))) 19 0 0) 14 t ((bLend (mU (mU (mU A 19 0 0) 8 t (nI 40)) 19 0 0) t (nI lr) (nI (1 + v % 20))) 4 0 + 3)) n L D th Z w2) rfl (fun w1 h1 => l_day h1 hF3) lP.obj rfl k_83 k_1 k_2291 k_81 k_82 hd_X2_day ⟨Nat.le_of_ble_eq_true rfl, Nat.le_of_ble_eq_true rfl⟩ ⟨Nat.le_of_ble_eq_true rfl, Nat.le_of_ble_eq_true rfl⟩ (Nat.le_of_ble_eq_true rfl) dL_lends_169 (fun r => ?_)
          refine x_then (P2 := lP G ca aa (mU (mU (bLend (mU (mU (mU A 19 0 0) 8 t (nI 40)) 19 0 0) t (nI lr) (nI (1 + v % 20))) 19 0 0) 14 t ((bLend (mU (mU (mU A 19 0 0) 8 t (nI 40)) 19 0 0) t (nI lr) (nI (1 + v % 20))) 4 0 + 3)) n L D th Z) (φ := r = nI D) (fun w2 h2 => by obtain ⟨w1, -, h3, h4⟩ := h2; exact ⟨h3, h4⟩) (fun e9 => ?_)
          subst e9
          refine x_iconst (v := 3) Γ dL_lends_172 (by decide) ?_
          refine x_iadd Γ dL_lends_173 ?_
          refine x_icmp_ne (tgt := 181) Γ dL_lends_174 (by decide) (fun c174 => absurd (rfl) c174) (fun c174 => ?_)
          refine x_iconst (v := 1) Γ dL_lends_177 (by decide) ?_
          refine x_goto (tgt := 182) Γ dL_lends_178 (by decide) ?_
          exact x_iret Γ rfl rfl (fun w2 e2 => ⟨rfl, _, _, ⟨hF3, hJ3.mono (by omega), (hr1.tr (hr2.tr hr3))⟩, e2⟩) ⟨Nat.le_of_ble_eq_true rfl, Nat.le_of_ble_eq_true rfl⟩ dL_lends_182
      · refine x_iconst (v := 1) Γ dL_lends_96 (by decide) ?_
        exact x_iret Γ rfl rfl (fun w2 e2 => ⟨rfl, _, _, ⟨hF1, hJ1.mono (by omega), hr1⟩, e2⟩) ⟨Nat.le_of_ble_eq_true rfl, Nat.le_of_ble_eq_true rfl⟩ dL_lends_97
    · have c38 : 0 < A 12 t := Int32.not_le.mp c38
      have hF2 := s_repay hF ht c38
      obtain ⟨hJ2, hr2, hp2⟩ := jI.repay hF.1 hJ ht (by omega)
      refine x_aload_n Γ dL_lends_41 rfl rfl ?_
      refine x_iload_n Γ dL_lends_42 rfl rfl ?_
      refine x_invV (emb := embI) (ci := 3) (rm := RMu) Γ [.int (nI t)] (fun w1 r w2 => r = A 12 t ∧ lP G ca aa (bRepay (mU A 19 0 0) t) n L D th Z w2) rfl (fun w1 h1 => l_repay hfl h1 hF ht c38) lP.obj rfl k_464 k_1 k_2491 k_462 k_463 hd_X2_repay ⟨Nat.le_of_ble_eq_true rfl, Nat.le_of_ble_eq_true rfl⟩ ⟨Nat.le_of_ble_eq_true rfl, Nat.le_of_ble_eq_true rfl⟩ (Nat.le_of_ble_eq_true rfl) dL_lends_43 (fun r => ?_)
      refine x_then (P2 := lP G ca aa (bRepay (mU A 19 0 0) t) n L D th Z) (φ := r = A 12 t) (fun w2 h2 => by obtain ⟨w1, -, h3, h4⟩ := h2; exact ⟨h3, h4⟩) (fun e9 => ?_)
      subst e9
      refine x_iload Γ dL_lends_46 rfl ?_
      refine x_icmp_ne (tgt := 75) Γ dL_lends_48 (by decide) (fun c48 => absurd (rfl) c48) (fun c48 => ?_)
      refine x_aload_n Γ dL_lends_51 rfl rfl ?_
      refine x_iload_n Γ dL_lends_52 rfl rfl ?_
      refine x_invV (emb := embI) (ci := 3) (rm := RQ) Γ [.int (nI t)] (fun w1 r w2 => r = (bRepay (mU A 19 0 0) t) 12 t ∧ lP G ca aa (bRepay (mU A 19 0 0) t) n L D th Z w2) rfl (fun w1 h1 => l_loan h1 hF2 ht) lP.obj rfl k_555 k_1 k_2332 k_553 k_554 hd_X2_loan ⟨Nat.le_of_ble_eq_true rfl, Nat.le_of_ble_eq_true rfl⟩ ⟨Nat.le_of_ble_eq_true rfl, Nat.le_of_ble_eq_true rfl⟩ (Nat.le_of_ble_eq_true rfl) dL_lends_53 (fun r => ?_)
      refine x_then (P2 := lP G ca aa (bRepay (mU A 19 0 0) t) n L D th Z) (φ := r = (bRepay (mU A 19 0 0) t) 12 t) (fun w2 h2 => by obtain ⟨w1, -, h3, h4⟩ := h2; exact ⟨h3, h4⟩) (fun e9 => ?_)
      rw [repay_12] at e9
      subst e9
      refine x_if_ne (tgt := 75) Γ dL_lends_56 (by decide) (fun c56 => absurd (rfl) c56) (fun c56 => ?_)
      refine x_aload_n Γ dL_lends_59 rfl rfl ?_
      refine x_invS (emb := embI) (rm := ({ frames := 6, cells := 0, slots := 0, locals := 165 } : Room)) Γ [.ref (ca 0)] (fun w1 r w2 => r = psI (bRepay (mU A 19 0 0) t) 8 ∧ lP G ca aa (bRepay (mU A 19 0 0) t) n L D th Z w2) rfl (fun w1 h1 => w_purses h1 hF2) k_2347 k_0 k_2345 k_2346 hd_L_purses ⟨Nat.le_of_ble_eq_true rfl, Nat.le_of_ble_eq_true rfl⟩ ⟨Nat.le_of_ble_eq_true rfl, Nat.le_of_ble_eq_true rfl⟩ (Nat.le_of_ble_eq_true rfl) dL_lends_60 (fun r => ?_)
      refine x_then (P2 := lP G ca aa (bRepay (mU A 19 0 0) t) n L D th Z) (φ := r = psI (bRepay (mU A 19 0 0) t) 8) (fun w2 h2 => by obtain ⟨w1, -, h3, h4⟩ := h2; exact ⟨h3, h4⟩) (fun e9 => ?_)
      rw [hp2] at e9
      subst e9
      refine x_iload Γ dL_lends_63 rfl ?_
      refine x_iload Γ dL_lends_65 rfl ?_
      refine x_iadd Γ dL_lends_67 ?_
      refine x_icmp_ne (tgt := 75) Γ dL_lends_68 (by decide) (fun c68 => absurd (rfl) c68) (fun c68 => ?_)
      refine x_iconst (v := 1) Γ dL_lends_71 (by decide) ?_
      refine x_goto (tgt := 76) Γ dL_lends_72 (by decide) ?_
      exact x_iret Γ rfl rfl (fun w2 e2 => ⟨rfl, _, _, ⟨hF2, hJ2.mono (by omega), hr2⟩, e2⟩) ⟨Nat.le_of_ble_eq_true rfl, Nat.le_of_ble_eq_true rfl⟩ dL_lends_76
  · have h0 : A 12 t = 0 := (hF.1.2.2.2.2.2.1 t ht).elim id (fun z => absurd z.2 c12)
    refine x_aload_n Γ dL_lends_15 rfl rfl ?_
    refine x_iload_n Γ dL_lends_16 rfl rfl ?_
    refine x_invV (emb := embI) (ci := 3) (rm := RQ) Γ [.int (nI t)] (fun w1 r w2 => r = (A) 12 t ∧ lP G ca aa (A) n L D th Z w2) rfl (fun w1 h1 => l_loan h1 hF ht) lP.obj rfl k_555 k_1 k_2332 k_553 k_554 hd_X2_loan ⟨Nat.le_of_ble_eq_true rfl, Nat.le_of_ble_eq_true rfl⟩ ⟨Nat.le_of_ble_eq_true rfl, Nat.le_of_ble_eq_true rfl⟩ (Nat.le_of_ble_eq_true rfl) dL_lends_17 (fun r => ?_)
    refine x_then (P2 := lP G ca aa (A) n L D th Z) (φ := r = (A) 12 t) (fun w2 h2 => by obtain ⟨w1, -, h3, h4⟩ := h2; exact ⟨h3, h4⟩) (fun e9 => ?_)
    subst e9
    refine x_if_ne (tgt := 27) Γ dL_lends_20 (by decide) (fun c20 => absurd (h0) c20) (fun c20 => ?_)
    refine x_iconst (v := 1) Γ dL_lends_23 (by decide) ?_
    refine x_goto (tgt := 28) Γ dL_lends_24 (by decide) ?_
    exact x_iret Γ rfl rfl (fun w2 e2 => ⟨rfl, _, _, ⟨hF, hJ.mono (by omega), rs.rf⟩, e2⟩) ⟨Nat.le_of_ble_eq_true rfl, Nat.le_of_ble_eq_true rfl⟩ dL_lends_28
end XLL

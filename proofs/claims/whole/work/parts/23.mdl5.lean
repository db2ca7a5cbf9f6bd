section XM7
variable {l : Launch} {G : xG}
set_option maxRecDepth 100000 in
theorem t_endsDay {o : Nat} {ad : Nat → Nat} {A : xS} {L : List Nat} {w : xW} (h : MRep G w o ad A L) {n d : Nat} (hI : aI A n) (hLI : lI A n L) (hd : A 4 0 = nI d) (hd1 : d + 1 ≤ 1000) : xMet l G yX3_endsDay cX3_endsDay 3 (some .int) ({ frames := 2, cells := 0, slots := 0, locals := 80 } : Room) [.ref o] w embI (fun r w' => r = (fDay n (0, A, L)).1 ∧ mP G o ad (fDay n (0, A, L)).2.1 (fDay n (0, A, L)).2.2 w w') := by
  refine xMet_of (by decide) (Nat.le_of_ble_eq_true rfl) ?_
  intro p e s m below meth c Γ hnm
  have hn2 := hI.2.1
  refine m_in h ?_
  have L4 : ∀ (B : xS) (LL : List Nat) (cnt : Int32), B 5 0 = nI n → B 4 0 = nI (d + 1) → (cnt, fBeg n B, LL) = fDay n (0, A, L) → xJ p l e ({ frames := 2, cells := 0, slots := 0, locals := 80 } : Room) s m ([.ref o] : List Value).toArray below meth c G 3 (MQ below (xQ G embI (fun r w' => r = (fDay n (0, A, L)).1 ∧ mP G o ad (fDay n (0, A, L)).2.1 (fDay n (0, A, L)).2.2 w w')) ([.ref o] : List Value).toArray s ({ frames := 2, cells := 0, slots := 0, locals := 80 } : Room).cells ({ frames := 2, cells := 0, slots := 0, locals := 80 } : Room).slots (xA G)) (mP G o ad B LL w) 0 0 192 [(0, .ref o), (1, .int cnt)] [] := by
    intro B LL cnt hB5 hB4 hF
    have lp : ∀ d2 t, t + d2 = n → xJ p l e ({ frames := 2, cells := 0, slots := 0, locals := 80 } : Room) s m ([.ref o] : List Value).toArray below meth c G 3 (MQ below (xQ G embI (fun r w' => r = (fDay n (0, A, L)).1 ∧ mP G o ad (fDay n (0, A, L)).2.1 (fDay n (0, A, L)).2.2 w w')) ([.ref o] : List Value).toArray s ({ frames := 2, cells := 0, slots := 0, locals := 80 } : Room).cells ({ frames := 2, cells := 0, slots := 0, locals := 80 } : Room).slots (xA G)) (mP G o ad (fBeg t B) LL w) 0 0 194 [(0, .ref o), (1, .int (cnt)), (2, .int (nI t))] [] := by
      intro d2
      induction d2 with
      | zero =>
        intro t ht2
        refine x_iload_n Γ dX3_endsDay_194 rfl rfl ?_
        refine x_aload_n Γ dX3_endsDay_195 rfl rfl ?_
        refine m_getiv Γ 5 ((congrFun (fBeg_j (by decide)) 0).trans hB5) (by decide) (by decide) (fun _ => rfl) k_583 rfl dX3_endsDay_196 ?_
        refine x_icmp_ge (tgt := 228) Γ dX3_endsDay_199 (by decide) (fun c199 => ?_) (fun c199 => absurd (nI_le (by omega) (by omega)) c199)
        refine x_iload_n Γ dX3_endsDay_228 rfl rfl ?_
        refine x_iret Γ rfl rfl (fun w2 e2 => ?_) ⟨Nat.le_of_ble_eq_true rfl, Nat.le_of_ble_eq_true rfl⟩ dX3_endsDay_229
        rw [← hF, show n = t by omega]
        exact ⟨rfl, e2⟩
      | succ d2 ih =>
        intro t ht2
        have ht : t < 24 := by omega
        have h24 : 24 * nI (d + 1) + nI t = nI (24 * (d + 1) + t) := by
          rw [show (24 : Int32) = nI 24 from rfl, nI_mul, nI_add]
        have es : fBeg (t + 1) B = mU (fBeg t B) 18 (24 * (d + 1) + t) (B 9 t) := by
          rw [fBeg, hB4, h24, ixn2 (by omega)]
        refine x_iload_n Γ dX3_endsDay_194 rfl rfl ?_
        refine x_aload_n Γ dX3_endsDay_195 rfl rfl ?_
        refine m_getiv Γ 5 ((congrFun (fBeg_j (by decide)) 0).trans hB5) (by decide) (by decide) (fun _ => rfl) k_583 rfl dX3_endsDay_196 ?_
        refine x_icmp_ge (tgt := 228) Γ dX3_endsDay_199 (by decide) (fun c199 => absurd c199 (nI_ge (by omega) (by omega))) (fun c199 => ?_)
        refine x_aload_n Γ dX3_endsDay_202 rfl rfl ?_
        refine m_geta Γ 18 (by decide) (fun _ => rfl) k_596 rfl dX3_endsDay_203 ?_
        refine x_bipush (v := 24) Γ dX3_endsDay_206 (by decide) ?_
        refine x_aload_n Γ dX3_endsDay_208 rfl rfl ?_
        refine m_getiv Γ 4 ((congrFun (fBeg_j (by decide)) 0).trans hB4) (by decide) (by decide) (fun _ => rfl) k_582 rfl dX3_endsDay_209 ?_
        refine x_imul Γ dX3_endsDay_212 ?_
        refine x_iload_n Γ dX3_endsDay_213 rfl rfl ?_
        refine x_iadd Γ dX3_endsDay_214 ?_
        rw [h24]
        refine x_aload_n Γ dX3_endsDay_215 rfl rfl ?_
        refine m_geta Γ 9 (by decide) (fun _ => rfl) k_587 rfl dX3_endsDay_216 ?_
        refine x_iload_n Γ dX3_endsDay_219 rfl rfl ?_
        refine m_aldv Γ (congrFun (fBeg_j (by decide)) t) rfl rfl (by decide) (by show _ < 24; omega) dX3_endsDay_220 ?_
        refine m_ast Γ rfl rfl (by decide) (by show 24 * (d + 1) + t < 24048; omega) dX3_endsDay_221 ?_
        rw [← es]
        refine x_iinc (v := _ + 1) Γ dX3_endsDay_222 rfl rfl rfl (by decide) ?_
        rw [nI_1]
        refine x_goto (tgt := 194) Γ dX3_endsDay_225 (by decide) ?_
        refine x_lv [0, 1, 2] rfl ?_
        exact ih (t + 1) (by omega)
    refine x_iconst (v := 0) Γ dX3_endsDay_192 (by decide) ?_
    refine x_istore_n Γ dX3_endsDay_193 rfl rfl (by decide) ?_
    refine x_lv [0, 1, 2] rfl ?_
    exact lp n 0 (by omega)
  have L3 : ∀ V : xV, lI V.2.1 n V.2.2 → aI V.2.1 n → V.2.1 4 0 = nI d → fUnf n V = fUnf n (fCal n (0, fOwe n A, L)) → xJ p l e ({ frames := 2, cells := 0, slots := 0, locals := 80 } : Room) s m ([.ref o] : List Value).toArray below meth c G 3 (MQ below (xQ G embI (fun r w' => r = (fDay n (0, A, L)).1 ∧ mP G o ad (fDay n (0, A, L)).2.1 (fDay n (0, A, L)).2.2 w w')) ([.ref o] : List Value).toArray s ({ frames := 2, cells := 0, slots := 0, locals := 80 } : Room).cells ({ frames := 2, cells := 0, slots := 0, locals := 80 } : Room).slots (xA G)) (mP G o ad V.2.1 V.2.2 w) 0 0 119 [(0, .ref o), (1, .int V.1)] [] := by
    intro V hV hVI hVd hF
    have hV5 := hVI.1
    have lp : ∀ d2 t, t + d2 = n → xJ p l e ({ frames := 2, cells := 0, slots := 0, locals := 80 } : Room) s m ([.ref o] : List Value).toArray below meth c G 3 (MQ below (xQ G embI (fun r w' => r = (fDay n (0, A, L)).1 ∧ mP G o ad (fDay n (0, A, L)).2.1 (fDay n (0, A, L)).2.2 w w')) ([.ref o] : List Value).toArray s ({ frames := 2, cells := 0, slots := 0, locals := 80 } : Room).cells ({ frames := 2, cells := 0, slots := 0, locals := 80 } : Room).slots (xA G)) (mP G o ad (fUnf t V).2.1 (fUnf t V).2.2 w) 0 0 121 [(0, .ref o), (1, .int ((fUnf t V).1)), (2, .int (nI t))] [] := by
      intro d2
      induction d2 with
      | zero =>
        intro t ht2
        obtain ⟨hs, hl⟩ := fUnf_I (n := n) V t hV
        have h5 : (fUnf t V).2.1 5 0 = nI n := by rw [hs 5 rfl]; exact hV5
        refine x_iload_n Γ dX3_endsDay_121 rfl rfl ?_
        refine x_aload_n Γ dX3_endsDay_122 rfl rfl ?_
        refine m_getiv Γ 5 h5 (by decide) (by decide) (fun _ => rfl) k_583 rfl dX3_endsDay_123 ?_
        refine x_icmp_ge (tgt := 178) Γ dX3_endsDay_126 (by decide) (fun c126 => ?_) (fun c126 => absurd (nI_le (by omega) (by omega)) c126)
        refine x_lv [0, 1] rfl ?_
        have hnt : t = n := by omega
        subst hnt
        refine x_aload_n Γ dX3_endsDay_178 rfl rfl ?_
        refine x_invV (emb := embV) (ci := 4) (rm := ({ frames := 1, cells := 0, slots := 0, locals := 40 } : Room)) Γ [] (fun w1 _ w2 => mP G o ad (fDrv t (fUnf t V).2.2 ((fUnf t V).2.1 1 0, (fUnf t V).2.1, (fUnf t V).2.2)).2.1 (fDrv t (fUnf t V).2.2 ((fUnf t V).2.1 1 0, (fUnf t V).2.1, (fUnf t V).2.2)).2.2 w1 w2) rfl (fun w1 h1 => t_drives h1.1 (sameR_aI hs hVI) hl) m_obj rfl k_720 k_6 k_717 k_719 s_31 hd_X3_drives ⟨Nat.le_of_ble_eq_true rfl, Nat.le_of_ble_eq_true rfl⟩ ⟨Nat.le_of_ble_eq_true rfl, Nat.le_of_ble_eq_true rfl⟩ (Nat.le_of_ble_eq_true rfl) dX3_endsDay_179 (fun _ => ?_)
        refine m_then0 (A' := (fDrv t (fUnf t V).2.2 ((fUnf t V).2.1 1 0, (fUnf t V).2.1, (fUnf t V).2.2)).2.1) (L' := (fDrv t (fUnf t V).2.2 ((fUnf t V).2.1 1 0, (fUnf t V).2.1, (fUnf t V).2.2)).2.2) ?_
        refine x_aload_n Γ dX3_endsDay_182 rfl rfl ?_
        refine x_dup Γ dX3_endsDay_183 rfl ?_
        obtain ⟨hs2, hl2⟩ := fDrv_I (n := t) (fUnf t V).2.2 ((fUnf t V).2.1 1 0, (fUnf t V).2.1, (fUnf t V).2.2) hl
        refine m_getiv Γ 4 ((congrFun (hs2 4 rfl) 0).trans ((congrFun (hs 4 rfl) 0).trans hVd)) (by decide) (by decide) (fun _ => rfl) k_582 rfl dX3_endsDay_184 ?_
        refine x_iconst (v := 1) Γ dX3_endsDay_187 (by decide) ?_
        refine x_iadd Γ dX3_endsDay_188 ?_
        rw [nI_1]
        refine m_puti Γ 4 (by decide) (by decide) (fun _ => rfl) k_582 rfl rfl rfl dX3_endsDay_189 ?_
        refine L4 _ _ _ ((congrFun (hs2 5 rfl) 0).trans h5) (mU_eq _ _ _ _) ?_
        unfold fDay
        rw [← hF]
        show _ = ((fUnf t V).1, fBeg t (mU (fDrv t (fUnf t V).2.2 ((fUnf t V).2.1 1 0, (fUnf t V).2.1, (fUnf t V).2.2)).2.1 4 0 ((fDrv t (fUnf t V).2.2 ((fUnf t V).2.1 1 0, (fUnf t V).2.1, (fUnf t V).2.2)).2.1 4 0 + 1)), (fDrv t (fUnf t V).2.2 ((fUnf t V).2.1 1 0, (fUnf t V).2.1, (fUnf t V).2.2)).2.2)
        rw [hs2 4 rfl, show (fUnf t V).2.1 4 0 = nI d from (congrFun (hs 4 rfl) 0).trans hVd, nI_1]
      | succ d2 ih =>
        intro t ht2
        have ht : t < 24 := by omega
        obtain ⟨hs, hl⟩ := fUnf_I (n := n) V t hV
        have h5 : (fUnf t V).2.1 5 0 = nI n := by rw [hs 5 rfl]; exact hV5
        have hIt := sameR_aI hs hVI
        have hnx : ∀ V2 : xV, fUnf (t + 1) V = V2 → xJ p l e ({ frames := 2, cells := 0, slots := 0, locals := 80 } : Room) s m ([.ref o] : List Value).toArray below meth c G 3 (MQ below (xQ G embI (fun r w' => r = (fDay n (0, A, L)).1 ∧ mP G o ad (fDay n (0, A, L)).2.1 (fDay n (0, A, L)).2.2 w w')) ([.ref o] : List Value).toArray s ({ frames := 2, cells := 0, slots := 0, locals := 80 } : Room).cells ({ frames := 2, cells := 0, slots := 0, locals := 80 } : Room).slots (xA G)) (mP G o ad V2.2.1 V2.2.2 w) 0 0 172 [(0, .ref o), (1, .int (V2.1)), (2, .int (nI t))] [] := by
          intro V2 hV2
          subst hV2
          refine x_iinc (v := _ + 1) Γ dX3_endsDay_172 rfl rfl rfl (by decide) ?_
          rw [nI_1]
          refine x_goto (tgt := 121) Γ dX3_endsDay_175 (by decide) ?_
          refine x_lv [0, 1, 2] rfl ?_
          exact ih (t + 1) (by omega)
        refine x_iload_n Γ dX3_endsDay_121 rfl rfl ?_
        refine x_aload_n Γ dX3_endsDay_122 rfl rfl ?_
        refine m_getiv Γ 5 h5 (by decide) (by decide) (fun _ => rfl) k_583 rfl dX3_endsDay_123 ?_
        refine x_icmp_ge (tgt := 178) Γ dX3_endsDay_126 (by decide) (fun c126 => absurd c126 (nI_ge (by omega) (by omega))) (fun c126 => ?_)
        refine x_aload_n Γ dX3_endsDay_129 rfl rfl ?_
        refine x_iload_n Γ dX3_endsDay_130 rfl rfl ?_
        refine x_invV (emb := embI) (ci := 4) (rm := ({ frames := 0, cells := 0, slots := 0, locals := 0 } : Room)) Γ [.int (nI t)] (fun w1 r w2 => bq (((fUnf t V).2.1) 9 t < 5) r ∧ mP G o ad ((fUnf t V).2.1) ((fUnf t V).2.2) w1 w2) rfl (fun w1 h1 => t_isAt h1.1 (by omega)) m_obj rfl k_680 k_6 k_677 k_679 s_27 hd_X3_isAt ⟨Nat.le_of_ble_eq_true rfl, Nat.le_of_ble_eq_true rfl⟩ ⟨Nat.le_of_ble_eq_true rfl, Nat.le_of_ble_eq_true rfl⟩ (Nat.le_of_ble_eq_true rfl) dX3_endsDay_131 (fun r => ?_)
        refine m_then (A' := (fUnf t V).2.1) (L' := (fUnf t V).2.2) (fun qA => ?_)
        refine x_if_eq (tgt := 172) Γ dX3_endsDay_134 (by decide) (fun c134 => ?_) (fun c134 => ?_)
        · refine x_lv [0, 1, 2] rfl ?_
          exact hnx _ (by rw [fUnf, if_neg (fun z => qA.eq c134 z.1)])
        · refine x_aload_n Γ dX3_endsDay_137 rfl rfl ?_
          refine m_geta Γ 12 (by decide) (fun _ => rfl) k_590 rfl dX3_endsDay_138 ?_
          refine x_iload_n Γ dX3_endsDay_141 rfl rfl ?_
          refine m_ald Γ rfl rfl (by decide) (by show _ < 24; omega) dX3_endsDay_142 ?_
          refine x_if_ne (tgt := 172) Γ dX3_endsDay_143 (by decide) (fun c143 => ?_) (fun c143 => ?_)
          · refine x_lv [0, 1, 2] rfl ?_
            exact hnx _ (by rw [fUnf, if_neg (fun z => c143 z.2.1)])
          · refine x_aload_n Γ dX3_endsDay_146 rfl rfl ?_
            refine m_geti Γ 4 (by decide) (by decide) (fun _ => rfl) k_582 rfl dX3_endsDay_147 ?_
            refine x_aload_n Γ dX3_endsDay_150 rfl rfl ?_
            refine m_geta Γ 10 (by decide) (fun _ => rfl) k_588 rfl dX3_endsDay_151 ?_
            refine x_iload_n Γ dX3_endsDay_154 rfl rfl ?_
            refine m_ald Γ rfl rfl (by decide) (by show _ < 24; omega) dX3_endsDay_155 ?_
            refine x_isub Γ dX3_endsDay_156 ?_
            refine x_iconst (v := 1) Γ dX3_endsDay_157 (by decide) ?_
            refine x_iadd Γ dX3_endsDay_158 ?_
            refine x_bipush (v := 30) Γ dX3_endsDay_159 (by decide) ?_
            refine x_icmp_lt (tgt := 172) Γ dX3_endsDay_161 (by decide) (fun c161 => ?_) (fun c161 => ?_)
            · refine x_lv [0, 1, 2] rfl ?_
              exact hnx _ (by rw [fUnf, if_neg (fun z => absurd c161 (Int32.not_lt.mpr z.2.2))])
            · refine x_aload_n Γ dX3_endsDay_164 rfl rfl ?_
              refine x_iload_n Γ dX3_endsDay_165 rfl rfl ?_
              refine x_invV (emb := embV) (ci := 4) (rm := ({ frames := 1, cells := 0, slots := 0, locals := 40 } : Room)) Γ [.int (nI t)] (fun w1 _ w2 => mP G o ad (fSell t (fUnf t V).2.1) (fFor t (fUnf t V).2.2) w1 w2) rfl (fun w1 h1 => t_sells h1.1 hIt ht (fun q hq => (hl.2.2 q hq).1) hl.1) m_obj rfl k_716 k_6 k_713 k_715 s_30 hd_X3_sells ⟨Nat.le_of_ble_eq_true rfl, Nat.le_of_ble_eq_true rfl⟩ ⟨Nat.le_of_ble_eq_true rfl, Nat.le_of_ble_eq_true rfl⟩ (Nat.le_of_ble_eq_true rfl) dX3_endsDay_166 (fun _ => ?_)
              refine m_then0 (A' := fSell t (fUnf t V).2.1) (L' := fFor t (fUnf t V).2.2) ?_
              refine x_iinc (v := _ + 1) Γ dX3_endsDay_169 rfl rfl rfl (by decide) ?_
              refine x_lv [0, 1, 2] rfl ?_
              exact hnx (vSell t (fUnf t V)) (by rw [fUnf, if_pos ⟨qA.ne c134, by first | exact c143 | exact Decidable.not_not.mp c143, Int32.not_lt.mp c161⟩])
    refine x_iconst (v := 0) Γ dX3_endsDay_119 (by decide) ?_
    refine x_istore_n Γ dX3_endsDay_120 rfl rfl (by decide) ?_
    refine x_lv [0, 1, 2] rfl ?_
    exact lp n 0 (by omega)
  have L2 : ∀ V : xV, lI V.2.1 n V.2.2 → aI V.2.1 n → V.2.1 4 0 = nI d → V = (0, fOwe n A, L) → xJ p l e ({ frames := 2, cells := 0, slots := 0, locals := 80 } : Room) s m ([.ref o] : List Value).toArray below meth c G 3 (MQ below (xQ G embI (fun r w' => r = (fDay n (0, A, L)).1 ∧ mP G o ad (fDay n (0, A, L)).2.1 (fDay n (0, A, L)).2.2 w w')) ([.ref o] : List Value).toArray s ({ frames := 2, cells := 0, slots := 0, locals := 80 } : Room).cells ({ frames := 2, cells := 0, slots := 0, locals := 80 } : Room).slots (xA G)) (mP G o ad V.2.1 V.2.2 w) 0 0 65 [(0, .ref o), (1, .int V.1)] [] := by
    intro V hV hVI hVd hF
    have hV5 := hVI.1
    have lp : ∀ d2 t, t + d2 = n → xJ p l e ({ frames := 2, cells := 0, slots := 0, locals := 80 } : Room) s m ([.ref o] : List Value).toArray below meth c G 3 (MQ below (xQ G embI (fun r w' => r = (fDay n (0, A, L)).1 ∧ mP G o ad (fDay n (0, A, L)).2.1 (fDay n (0, A, L)).2.2 w w')) ([.ref o] : List Value).toArray s ({ frames := 2, cells := 0, slots := 0, locals := 80 } : Room).cells ({ frames := 2, cells := 0, slots := 0, locals := 80 } : Room).slots (xA G)) (mP G o ad (fCal t V).2.1 (fCal t V).2.2 w) 0 0 67 [(0, .ref o), (1, .int ((fCal t V).1)), (2, .int (nI t))] [] := by
      intro d2
      induction d2 with
      | zero =>
        intro t ht2
        obtain ⟨hs, hl⟩ := fCal_I (n := n) V t hV
        have h5 : (fCal t V).2.1 5 0 = nI n := by rw [hs 5 rfl]; exact hV5
        refine x_iload_n Γ dX3_endsDay_67 rfl rfl ?_
        refine x_aload_n Γ dX3_endsDay_68 rfl rfl ?_
        refine m_getiv Γ 5 h5 (by decide) (by decide) (fun _ => rfl) k_583 rfl dX3_endsDay_69 ?_
        refine x_icmp_ge (tgt := 119) Γ dX3_endsDay_72 (by decide) (fun c72 => ?_) (fun c72 => absurd (nI_le (by omega) (by omega)) c72)
        refine x_lv [0, 1] rfl ?_
        have hnt : t = n := by omega
        subst hnt
        exact L3 (fCal t V) hl (sameR_aI hs hVI) ((congrFun (hs 4 rfl) 0).trans hVd) (by rw [hF])
      | succ d2 ih =>
        intro t ht2
        have ht : t < 24 := by omega
        obtain ⟨hs, hl⟩ := fCal_I (n := n) V t hV
        have h5 : (fCal t V).2.1 5 0 = nI n := by rw [hs 5 rfl]; exact hV5
        have hIt := sameR_aI hs hVI
        have hnx : ∀ V2 : xV, fCal (t + 1) V = V2 → xJ p l e ({ frames := 2, cells := 0, slots := 0, locals := 80 } : Room) s m ([.ref o] : List Value).toArray below meth c G 3 (MQ below (xQ G embI (fun r w' => r = (fDay n (0, A, L)).1 ∧ mP G o ad (fDay n (0, A, L)).2.1 (fDay n (0, A, L)).2.2 w w')) ([.ref o] : List Value).toArray s ({ frames := 2, cells := 0, slots := 0, locals := 80 } : Room).cells ({ frames := 2, cells := 0, slots := 0, locals := 80 } : Room).slots (xA G)) (mP G o ad V2.2.1 V2.2.2 w) 0 0 113 [(0, .ref o), (1, .int (V2.1)), (2, .int (nI t))] [] := by
          intro V2 hV2
          subst hV2
          refine x_iinc (v := _ + 1) Γ dX3_endsDay_113 rfl rfl rfl (by decide) ?_
          rw [nI_1]
          refine x_goto (tgt := 67) Γ dX3_endsDay_116 (by decide) ?_
          refine x_lv [0, 1, 2] rfl ?_
          exact ih (t + 1) (by omega)
        refine x_iload_n Γ dX3_endsDay_67 rfl rfl ?_
        refine x_aload_n Γ dX3_endsDay_68 rfl rfl ?_
        refine m_getiv Γ 5 h5 (by decide) (by decide) (fun _ => rfl) k_583 rfl dX3_endsDay_69 ?_
        refine x_icmp_ge (tgt := 119) Γ dX3_endsDay_72 (by decide) (fun c72 => absurd c72 (nI_ge (by omega) (by omega))) (fun c72 => ?_)
        refine x_aload_n Γ dX3_endsDay_75 rfl rfl ?_
        refine x_iload_n Γ dX3_endsDay_76 rfl rfl ?_
        refine x_invV (emb := embI) (ci := 4) (rm := ({ frames := 0, cells := 0, slots := 0, locals := 0 } : Room)) Γ [.int (nI t)] (fun w1 r w2 => bq (((fCal t V).2.1) 9 t < 5) r ∧ mP G o ad ((fCal t V).2.1) ((fCal t V).2.2) w1 w2) rfl (fun w1 h1 => t_isAt h1.1 (by omega)) m_obj rfl k_680 k_6 k_677 k_679 s_27 hd_X3_isAt ⟨Nat.le_of_ble_eq_true rfl, Nat.le_of_ble_eq_true rfl⟩ ⟨Nat.le_of_ble_eq_true rfl, Nat.le_of_ble_eq_true rfl⟩ (Nat.le_of_ble_eq_true rfl) dX3_endsDay_77 (fun r => ?_)
        refine m_then (A' := (fCal t V).2.1) (L' := (fCal t V).2.2) (fun qA => ?_)
        refine x_if_eq (tgt := 113) Γ dX3_endsDay_80 (by decide) (fun c80 => ?_) (fun c80 => ?_)
        · refine x_lv [0, 1, 2] rfl ?_
          exact hnx _ (by rw [fCal, if_neg (fun z => qA.eq c80 z.1)])
        · refine x_aload_n Γ dX3_endsDay_83 rfl rfl ?_
          refine m_geta Γ 12 (by decide) (fun _ => rfl) k_590 rfl dX3_endsDay_84 ?_
          refine x_iload_n Γ dX3_endsDay_87 rfl rfl ?_
          refine m_ald Γ rfl rfl (by decide) (by show _ < 24; omega) dX3_endsDay_88 ?_
          refine x_if_le (tgt := 113) Γ dX3_endsDay_89 (by decide) (fun c89 => ?_) (fun c89 => ?_)
          · refine x_lv [0, 1, 2] rfl ?_
            exact hnx _ (by rw [fCal, if_neg (fun z => absurd c89 (Int32.not_le.mpr z.2.1))])
          · refine x_aload_n Γ dX3_endsDay_92 rfl rfl ?_
            refine m_geta Γ 14 (by decide) (fun _ => rfl) k_592 rfl dX3_endsDay_93 ?_
            refine x_iload_n Γ dX3_endsDay_96 rfl rfl ?_
            refine m_ald Γ rfl rfl (by decide) (by show _ < 24; omega) dX3_endsDay_97 ?_
            refine x_aload_n Γ dX3_endsDay_98 rfl rfl ?_
            refine m_geti Γ 4 (by decide) (by decide) (fun _ => rfl) k_582 rfl dX3_endsDay_99 ?_
            refine x_icmp_ne (tgt := 113) Γ dX3_endsDay_102 (by decide) (fun c102 => ?_) (fun c102 => ?_)
            · refine x_lv [0, 1, 2] rfl ?_
              exact hnx _ (by rw [fCal, if_neg (fun z => c102 z.2.2)])
            · refine x_aload_n Γ dX3_endsDay_105 rfl rfl ?_
              refine x_iload_n Γ dX3_endsDay_106 rfl rfl ?_
              refine x_invV (emb := embV) (ci := 4) (rm := ({ frames := 1, cells := 0, slots := 0, locals := 40 } : Room)) Γ [.int (nI t)] (fun w1 _ w2 => mP G o ad (fSell t (fCal t V).2.1) (fFor t (fCal t V).2.2) w1 w2) rfl (fun w1 h1 => t_sells h1.1 hIt ht (fun q hq => (hl.2.2 q hq).1) hl.1) m_obj rfl k_716 k_6 k_713 k_715 s_30 hd_X3_sells ⟨Nat.le_of_ble_eq_true rfl, Nat.le_of_ble_eq_true rfl⟩ ⟨Nat.le_of_ble_eq_true rfl, Nat.le_of_ble_eq_true rfl⟩ (Nat.le_of_ble_eq_true rfl) dX3_endsDay_107 (fun _ => ?_)
              refine m_then0 (A' := fSell t (fCal t V).2.1) (L' := fFor t (fCal t V).2.2) ?_
              refine x_iinc (v := _ + 1) Γ dX3_endsDay_110 rfl rfl rfl (by decide) ?_
              refine x_lv [0, 1, 2] rfl ?_
              exact hnx (vSell t (fCal t V)) (by rw [fCal, if_pos ⟨qA.ne c80, Int32.not_le.mp c89, by first | exact c102 | exact Decidable.not_not.mp c102⟩])
    refine x_iconst (v := 0) Γ dX3_endsDay_65 (by decide) ?_
    refine x_istore_n Γ dX3_endsDay_66 rfl rfl (by decide) ?_
    refine x_lv [0, 1, 2] rfl ?_
    exact lp n 0 (by omega)
  have L1 : ∀ d2 t, t + d2 = n → xJ p l e ({ frames := 2, cells := 0, slots := 0, locals := 80 } : Room) s m ([.ref o] : List Value).toArray below meth c G 3 (MQ below (xQ G embI (fun r w' => r = (fDay n (0, A, L)).1 ∧ mP G o ad (fDay n (0, A, L)).2.1 (fDay n (0, A, L)).2.2 w w')) ([.ref o] : List Value).toArray s ({ frames := 2, cells := 0, slots := 0, locals := 80 } : Room).cells ({ frames := 2, cells := 0, slots := 0, locals := 80 } : Room).slots (xA G)) (mP G o ad (fOwe t A) L w) 0 0 4 [(0, .ref o), (1, .int (0)), (2, .int (nI t))] [] := by
    intro d2
    induction d2 with
    | zero =>
      intro t ht2
      refine x_iload_n Γ dX3_endsDay_4 rfl rfl ?_
      refine x_aload_n Γ dX3_endsDay_5 rfl rfl ?_
      refine m_getiv Γ 5 ((congrFun (fOwe_j (by decide)) 0).trans hI.1) (by decide) (by decide) (fun _ => rfl) k_583 rfl dX3_endsDay_6 ?_
      refine x_icmp_ge (tgt := 65) Γ dX3_endsDay_9 (by decide) (fun c9 => ?_) (fun c9 => absurd (nI_le (by omega) (by omega)) c9)
      refine x_lv [0, 1] rfl ?_
      have hnt : t = n := by omega
      subst hnt
      exact L2 (0, fOwe t A, L) (lI_same hLI (fOwe_j (by decide))) (sameR_aI (sameR_owe A t) hI) ((congrFun (fOwe_j (by decide)) 0).trans hd) rfl
    | succ d2 ih =>
      intro t ht2
      have ht : t < 24 := by omega
      have hnx : ∀ v, v = owes (fOwe t A) t → xJ p l e ({ frames := 2, cells := 0, slots := 0, locals := 80 } : Room) s m ([.ref o] : List Value).toArray below meth c G 3 (MQ below (xQ G embI (fun r w' => r = (fDay n (0, A, L)).1 ∧ mP G o ad (fDay n (0, A, L)).2.1 (fDay n (0, A, L)).2.2 w w')) ([.ref o] : List Value).toArray s ({ frames := 2, cells := 0, slots := 0, locals := 80 } : Room).cells ({ frames := 2, cells := 0, slots := 0, locals := 80 } : Room).slots (xA G)) (mP G o ad (fOwe t A) L w) 0 0 57 [(0, .ref o), (1, .int (0)), (2, .int (nI t))] [.int v, .int (fOwe t A 11 t), .int (nI t), .ref (ad 11)] := by
        intro v hv
        subst hv
        refine x_iadd Γ dX3_endsDay_57 ?_
        refine m_ast Γ rfl rfl (by decide) (by show _ < 24; omega) dX3_endsDay_58 ?_
        rw [show mU (fOwe t A) 11 t (fOwe t A 11 t + owes (fOwe t A) t) = fOwe (t + 1) A from rfl]
        refine x_iinc (v := _ + 1) Γ dX3_endsDay_59 rfl rfl rfl (by decide) ?_
        rw [nI_1]
        refine x_goto (tgt := 4) Γ dX3_endsDay_62 (by decide) ?_
        refine x_lv [0, 1, 2] rfl ?_
        exact ih (t + 1) (by omega)
      refine x_iload_n Γ dX3_endsDay_4 rfl rfl ?_
      refine x_aload_n Γ dX3_endsDay_5 rfl rfl ?_
      refine m_getiv Γ 5 ((congrFun (fOwe_j (by decide)) 0).trans hI.1) (by decide) (by decide) (fun _ => rfl) k_583 rfl dX3_endsDay_6 ?_
      refine x_icmp_ge (tgt := 65) Γ dX3_endsDay_9 (by decide) (fun c9 => absurd c9 (nI_ge (by omega) (by omega))) (fun c9 => ?_)
      refine x_aload_n Γ dX3_endsDay_12 rfl rfl ?_
      refine m_geta Γ 11 (by decide) (fun _ => rfl) k_589 rfl dX3_endsDay_13 ?_
      refine x_iload_n Γ dX3_endsDay_16 rfl rfl ?_
      refine x_dup2 Γ dX3_endsDay_17 rfl rfl ?_
      refine m_ald Γ rfl rfl (by decide) (by show _ < 24; omega) dX3_endsDay_18 ?_
      refine x_aload_n Γ dX3_endsDay_19 rfl rfl ?_
      refine x_iload_n Γ dX3_endsDay_20 rfl rfl ?_
      refine x_invV (emb := embI) (ci := 4) (rm := ({ frames := 0, cells := 0, slots := 0, locals := 0 } : Room)) Γ [.int (nI t)] (fun w1 r w2 => bq ((fOwe t A) 9 t < 5) r ∧ mP G o ad (fOwe t A) (L) w1 w2) rfl (fun w1 h1 => t_isAt h1.1 (by omega)) m_obj rfl k_680 k_6 k_677 k_679 s_27 hd_X3_isAt ⟨Nat.le_of_ble_eq_true rfl, Nat.le_of_ble_eq_true rfl⟩ ⟨Nat.le_of_ble_eq_true rfl, Nat.le_of_ble_eq_true rfl⟩ (Nat.le_of_ble_eq_true rfl) dX3_endsDay_21 (fun r => ?_)
      refine m_then (A' := fOwe t A) (L' := L) (fun qA => ?_)
      refine x_if_ne (tgt := 31) Γ dX3_endsDay_24 (by decide) (fun c24 => ?_) (fun c24 => ?_)
      · refine x_aload_n Γ dX3_endsDay_31 rfl rfl ?_
        refine m_geta Γ 12 (by decide) (fun _ => rfl) k_590 rfl dX3_endsDay_32 ?_
        refine x_iload_n Γ dX3_endsDay_35 rfl rfl ?_
        refine m_ald Γ rfl rfl (by decide) (by show _ < 24; omega) dX3_endsDay_36 ?_
        refine x_if_le (tgt := 49) Γ dX3_endsDay_37 (by decide) (fun c37 => ?_) (fun c37 => ?_)
        · refine x_iconst (v := 2) Γ dX3_endsDay_49 (by decide) ?_
          refine x_aload_n Γ dX3_endsDay_50 rfl rfl ?_
          refine m_geta Γ 7 (by decide) (fun _ => rfl) k_585 rfl dX3_endsDay_51 ?_
          refine x_iload_n Γ dX3_endsDay_54 rfl rfl ?_
          refine m_ald Γ rfl rfl (by decide) (by show _ < 24; omega) dX3_endsDay_55 ?_
          refine x_imul Γ dX3_endsDay_56 ?_
          refine x_lv [0, 1, 2] rfl ?_
          exact hnx _ (by unfold owes; rw [if_neg (not_not_intro (qA.ne c24)), if_neg (Int32.not_lt.mpr c37)])
        · refine x_aload_n Γ dX3_endsDay_40 rfl rfl ?_
          refine m_geta Γ 7 (by decide) (fun _ => rfl) k_585 rfl dX3_endsDay_41 ?_
          refine x_iload_n Γ dX3_endsDay_44 rfl rfl ?_
          refine m_ald Γ rfl rfl (by decide) (by show _ < 24; omega) dX3_endsDay_45 ?_
          refine x_goto (tgt := 57) Γ dX3_endsDay_46 (by decide) ?_
          refine x_lv [0, 1, 2] rfl ?_
          exact hnx _ (by unfold owes; rw [if_neg (not_not_intro (qA.ne c24)), if_pos (Int32.not_le.mp c37)])
      · refine x_iconst (v := 0) Γ dX3_endsDay_27 (by decide) ?_
        refine x_goto (tgt := 57) Γ dX3_endsDay_28 (by decide) ?_
        refine x_lv [0, 1, 2] rfl ?_
        exact hnx _ (by unfold owes; rw [if_pos (qA.eq c24)])
  refine x_iconst (v := 0) Γ dX3_endsDay_0 (by decide) ?_
  refine x_istore_n Γ dX3_endsDay_1 rfl rfl (by decide) ?_
  refine x_iconst (v := 0) Γ dX3_endsDay_2 (by decide) ?_
  refine x_istore_n Γ dX3_endsDay_3 rfl rfl (by decide) ?_
  refine x_lv [0, 1, 2] rfl ?_
  exact L1 n 0 (by omega)
set_option maxRecDepth 100000 in
theorem tm_pass {o : Nat} {ad : Nat → Nat} {A : xS} {L : List Nat} {w : xW} (h : MRep G w o ad A L) {n : Nat} {v : Int32} (hI : aI A n) (hLI : lI A n L) : xMet l G yX3_pass cX3_pass 4 (some .int) ({ frames := 3, cells := 0, slots := 0, locals := 140 } : Room) [.ref o, .int v] w embI (fun r w' => r = (gPass A L v).1 ∧ mP G o ad (gPass A L v).2.1 (gPass A L v).2.2 w w') := by
  refine xMet_of (by decide) (Nat.le_of_ble_eq_true rfl) ?_
  intro p e s m below meth c Γ hnm
  have hn := hI.1
  have hn2 := hI.2.1
  refine m_in h ?_
  have hE : ∀ k : Int32, ¬ k = 0 → kPass A v = k → xJ p l e ({ frames := 3, cells := 0, slots := 0, locals := 140 } : Room) s m ([.ref o, .int v] : List Value).toArray below meth c G 4 (MQ below (xQ G embI (fun r w' => r = (gPass A L v).1 ∧ mP G o ad (gPass A L v).2.1 (gPass A L v).2.2 w w')) ([.ref o, .int v] : List Value).toArray s ({ frames := 3, cells := 0, slots := 0, locals := 140 } : Room).cells ({ frames := 3, cells := 0, slots := 0, locals := 140 } : Room).slots (xA G)) (mP G o ad A L w) 0 0 32 [(0, .ref o), (1, .int v)] [.int k, .ref o] := by
    intro k h0 hk
    refine x_invV (emb := embI) (ci := 4) (rm := ({ frames := 0, cells := 0, slots := 0, locals := 0 } : Room)) Γ [.int k] (fun w1 r w2 => bq (k = 0) r ∧ mP G o ad (mU (A) 19 0 k) (L) w1 w2) rfl (fun w1 h1 => t_isFine h1.1) m_obj rfl k_656 k_6 k_653 k_655 s_24 hd_X3_isFine ⟨Nat.le_of_ble_eq_true rfl, Nat.le_of_ble_eq_true rfl⟩ ⟨Nat.le_of_ble_eq_true rfl, Nat.le_of_ble_eq_true rfl⟩ (Nat.le_of_ble_eq_true rfl) dX3_pass_32 (fun r => ?_)
    refine m_then (A' := mU (A) 19 0 k) (L' := L) (fun q => ?_)
    refine x_if_ne (tgt := 40) Γ dX3_pass_35 (by decide) (fun c35 => absurd (q.zero h0) c35) (fun c35 => ?_)
    refine x_iconst (v := 0) Γ dX3_pass_38 (by decide) ?_
    refine x_iret Γ rfl rfl (fun w2 e2 => ?_) ⟨Nat.le_of_ble_eq_true rfl, Nat.le_of_ble_eq_true rfl⟩ dX3_pass_39
    unfold gPass
    rw [fin_no hk h0]
    exact ⟨rfl, e2⟩
  refine x_aload_n Γ dX3_pass_0 rfl rfl ?_
  refine x_iload_n Γ dX3_pass_1 rfl rfl ?_
  refine x_iconst (v := 1) Γ dX3_pass_2 (by decide) ?_
  refine x_bipush (v := 40) Γ dX3_pass_3 (by decide) ?_
  refine x_invS (emb := embI) (rm := ({ frames := 0, cells := 0, slots := 0, locals := 0 } : Room)) Γ [.int (v), .int (1), .int (40)] (fun w1 r w2 => bq (rIn (1) (40) (v)) r ∧ w2 = w1) rfl (fun w1 h1 => t_in) k_652 k_6 k_650 k_651 hd_X3_in ⟨Nat.le_of_ble_eq_true rfl, Nat.le_of_ble_eq_true rfl⟩ ⟨Nat.le_of_ble_eq_true rfl, Nat.le_of_ble_eq_true rfl⟩ (Nat.le_of_ble_eq_true rfl) dX3_pass_5 (fun r => ?_)
  refine m_same (fun q5 => ?_)
  refine x_if_ne (tgt := 15) Γ dX3_pass_8 (by decide) (fun c8 => ?_) (fun c8 => ?_)
  · refine x_aload_n Γ dX3_pass_15 rfl rfl ?_
    refine m_geti Γ 4 (by decide) (by decide) (fun _ => rfl) k_582 rfl dX3_pass_16 ?_
    refine x_iload_n Γ dX3_pass_19 rfl rfl ?_
    refine x_iadd Γ dX3_pass_20 ?_
    refine x_sipush (v := 1000) Γ dX3_pass_21 (by decide) ?_
    refine x_icmp_le (tgt := 31) Γ dX3_pass_24 (by decide) (fun c24 => ?_) (fun c24 => ?_)
    · have hk : kPass A v = 0 := by
        unfold kPass
        rw [if_neg (not_not_intro (q5.ne c8)), if_neg (Int32.not_lt.mpr c24)]
      obtain ⟨d0, hd0, hd4⟩ := hI.2.2.1
      obtain ⟨dd, hdd, rfl⟩ : ∃ dd, dd ≤ 40 ∧ v = nI dd := rIn_nat (M := 40) (n := 40) (by decide) ⟨Int32.le_trans (by decide) (q5.ne c8).1, (q5.ne c8).2⟩
      have hsum : d0 + dd ≤ 1000 := by
        have := c24
        rw [hd4, nI_add] at this
        exact (nI_leI (b := 1000) (by omega) (by omega)).mp this
      refine x_iconst (v := 0) Γ dX3_pass_31 (by decide) ?_
      have hV0 : lI (mU A 19 0 0) n L := hLI
      have lp : ∀ d2 k, k + d2 = dd → xJ p l e ({ frames := 3, cells := 0, slots := 0, locals := 140 } : Room) s m ([.ref o, .int (nI dd)] : List Value).toArray below meth c G 4 (MQ below (xQ G embI (fun r w' => r = (gPass A L (nI dd)).1 ∧ mP G o ad (gPass A L (nI dd)).2.1 (gPass A L (nI dd)).2.2 w w')) ([.ref o, .int (nI dd)] : List Value).toArray s ({ frames := 3, cells := 0, slots := 0, locals := 140 } : Room).cells ({ frames := 3, cells := 0, slots := 0, locals := 140 } : Room).slots (xA G)) (mP G o ad (fDays n k (0, mU A 19 0 0, L)).2.1 (fDays n k (0, mU A 19 0 0, L)).2.2 w) 0 0 44 [(0, .ref o), (1, .int (nI dd)), (2, .int (fDays n k (0, mU A 19 0 0, L)).1), (3, .int (nI k))] [] := by
        intro d2
        induction d2 with
        | zero =>
          intro k hk2
          refine x_iload_n Γ dX3_pass_44 rfl rfl ?_
          refine x_iload_n Γ dX3_pass_45 rfl rfl ?_
          refine x_icmp_ge (tgt := 62) Γ dX3_pass_46 (by decide) (fun c46 => ?_) (fun c46 => absurd (nI_le (by omega) (by omega)) c46)
          refine x_iload_n Γ dX3_pass_62 rfl rfl ?_
          refine x_iret Γ rfl rfl (fun w2 e2 => ?_) ⟨Nat.le_of_ble_eq_true rfl, Nat.le_of_ble_eq_true rfl⟩ dX3_pass_63
          unfold gPass
          rw [fin_ok hk, hn, ixn2 (t := n) (by omega), ixn2 (t := dd) (by omega), show dd = k by omega]
          exact ⟨rfl, e2⟩
        | succ d2 ih =>
          intro k hk2
          obtain ⟨i1, i2, i3⟩ := fDays_I (n := n) (0, mU A 19 0 0, L) (aI_thr hI 0) hd4 hV0 k (by omega)
          refine x_iload_n Γ dX3_pass_44 rfl rfl ?_
          refine x_iload_n Γ dX3_pass_45 rfl rfl ?_
          refine x_icmp_ge (tgt := 62) Γ dX3_pass_46 (by decide) (fun c46 => absurd c46 (nI_ge (by omega) (by omega))) (fun c46 => ?_)
          refine x_iload_n Γ dX3_pass_49 rfl rfl ?_
          refine x_aload_n Γ dX3_pass_50 rfl rfl ?_
          refine x_invV (emb := embI) (ci := 4) (rm := ({ frames := 2, cells := 0, slots := 0, locals := 80 } : Room)) Γ [] (fun w1 r w2 => r = (fDay n (0, (fDays n k (0, mU A 19 0 0, L)).2)).1 ∧ mP G o ad ((fDay n (0, (fDays n k (0, mU A 19 0 0, L)).2)).2.1) ((fDay n (0, (fDays n k (0, mU A 19 0 0, L)).2)).2.2) w1 w2) rfl (fun w1 h1 => t_endsDay h1.1 i1 i3 i2 (by omega)) m_obj rfl k_712 k_6 k_709 k_711 s_29 hd_X3_endsDay ⟨Nat.le_of_ble_eq_true rfl, Nat.le_of_ble_eq_true rfl⟩ ⟨Nat.le_of_ble_eq_true rfl, Nat.le_of_ble_eq_true rfl⟩ (Nat.le_of_ble_eq_true rfl) dX3_pass_51 (fun r => ?_)
          refine m_then (A' := (fDay n (0, (fDays n k (0, mU A 19 0 0, L)).2)).2.1) (L' := (fDay n (0, (fDays n k (0, mU A 19 0 0, L)).2)).2.2) (fun e51 => ?_)
          rw [e51]
          refine x_iadd Γ dX3_pass_54 ?_
          refine x_istore_n Γ dX3_pass_55 rfl rfl (by decide) ?_
          refine x_iinc (v := _ + 1) Γ dX3_pass_56 rfl rfl rfl (by decide) ?_
          rw [nI_1]
          refine x_goto (tgt := 44) Γ dX3_pass_59 (by decide) ?_
          refine x_lv [0, 1, 2, 3] rfl ?_
          exact ih (k + 1) (by omega)
      refine x_invV (emb := embI) (ci := 4) (rm := ({ frames := 0, cells := 0, slots := 0, locals := 0 } : Room)) Γ [.int 0] (fun w1 r w2 => bq (0 = 0) r ∧ mP G o ad (mU (A) 19 0 0) (L) w1 w2) rfl (fun w1 h1 => t_isFine h1.1) m_obj rfl k_656 k_6 k_653 k_655 s_24 hd_X3_isFine ⟨Nat.le_of_ble_eq_true rfl, Nat.le_of_ble_eq_true rfl⟩ ⟨Nat.le_of_ble_eq_true rfl, Nat.le_of_ble_eq_true rfl⟩ (Nat.le_of_ble_eq_true rfl) dX3_pass_32 (fun r => ?_)
      refine m_then (A' := mU (A) 19 0 0) (L' := L) (fun q => ?_)
      refine x_if_ne (tgt := 40) Γ dX3_pass_35 (by decide) (fun c35 => ?_) (fun c35 => absurd c35 (q.one rfl))
      refine x_iconst (v := 0) Γ dX3_pass_40 (by decide) ?_
      refine x_istore_n Γ dX3_pass_41 rfl rfl (by decide) ?_
      refine x_iconst (v := 0) Γ dX3_pass_42 (by decide) ?_
      refine x_istore_n Γ dX3_pass_43 rfl rfl (by decide) ?_
      refine x_lv [0, 1, 2, 3] rfl ?_
      exact lp dd 0 (by omega)
    · have hk : kPass A v = 2 := by
        unfold kPass
        rw [if_neg (not_not_intro (q5.ne c8)), if_pos (Int32.not_le.mp c24)]
      refine x_iconst (v := 2) Γ dX3_pass_27 (by decide) ?_
      refine x_goto (tgt := 32) Γ dX3_pass_28 (by decide) ?_
      exact hE 2 (by decide) hk
  · have hk : kPass A v = 1 := by
      unfold kPass
      exact if_pos (q5.eq c8)
    refine x_iconst (v := 1) Γ dX3_pass_11 (by decide) ?_
    refine x_goto (tgt := 32) Γ dX3_pass_12 (by decide) ?_
    exact hE 1 (by decide) hk
end XM7

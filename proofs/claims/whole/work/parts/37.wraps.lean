section XWL
variable {l : Launch} {G : xG}
set_option maxRecDepth 100000 in
theorem tw_setRoom {ca th : Nat → Nat} {A : xS} {n : Nat} {L : List Nat} {T : Nat → xTg} {w : xW} (h : CRaw G w ca th (cB A) n L T) (hfl : l.stackTraces = false) {c0 r0 : Int32} {D : Nat} (hI : pI A n L) (hT : tgI A n D T) (hD : A 4 0 = nI D) (hD1 : D ≤ 1000) {out : Nat} {f : Nat → Int64} (ho : w out = some (1, .inl (G.2 2, 1, .inr (.inl f)))) : xMetW l G yL_setRoom cL_setRoom 5 (some .int) [(0, 10, 13, 13)] ({ frames := 9, cells := 60, slots := 400, locals := 365 } : Room) [.ref (ca 0), .int c0, .int r0, .ref out] w embI (fun r w' => r = kSetRoom c0 r0 ∧ wQ G ca th out (gSetRoom A L c0 r0).2.1 n (gSetRoom A L c0 r0).2.2 D (kSetRoom c0 r0) (gSetRoom A L c0 r0).1 w w') := by
  refine xMetW_of (by decide) (Nat.le_of_ble_eq_true rfl) ?_
  intro p e s m below meth c Γ htab
  refine x_aload_n Γ dL_setRoom_0 rfl rfl ?_
  refine x_iconst (v := 0) Γ dL_setRoom_1 (by decide) ?_
  refine x_aload_n Γ dL_setRoom_2 rfl rfl ?_
  refine x_iload_n Γ dL_setRoom_3 rfl rfl ?_
  refine x_iload_n Γ dL_setRoom_4 rfl rfl ?_
  refine x_invVH (emb := embI) (ci := 3) (rm := ({ frames := 8, cells := 60, slots := 400, locals := 320 } : Room)) Γ [.int c0, .int r0] (fun w1 r w2 => (kSetRoom c0 r0 = 0 ∧ r = (gSetRoom A L c0 r0).1) ∧ cQ G ca th (gSetRoom A L c0 r0).2.1 n (gSetRoom A L c0 r0).2.2 D w1 w2) (fun w1 E w2 => ((E = "java/lang/IllegalArgumentException" ∧ kSetRoom c0 r0 = 1)) ∧ cP G ca th (cB A) n L T w1 w2) rfl (fun w1 h1 => by subst h1; exact tc_setRoom h hfl hI hT hD hD1) (fun w1 h1 => by rw [h1]; exact ⟨_, _, h.1⟩) rfl k_103 k_1 k_100 k_101 k_102 hd_X2_setRoom ⟨Nat.le_of_ble_eq_true rfl, Nat.le_of_ble_eq_true rfl⟩ ⟨Nat.le_of_ble_eq_true rfl, Nat.le_of_ble_eq_true rfl⟩ (Nat.le_of_ble_eq_true rfl) dL_setRoom_5 (fun r => ?_) (fun E => ?_)
  · refine x_then (P2 := fun w2 => cQ G ca th (gSetRoom A L c0 r0).2.1 n (gSetRoom A L c0 r0).2.2 D w w2) (φ := kSetRoom c0 r0 = 0 ∧ r = (gSetRoom A L c0 r0).1) (fun w2 h2 => by obtain ⟨w1, h1, h3, h4⟩ := h2; subst h1; exact ⟨h3, h4⟩) (fun hk => ?_)
    obtain ⟨hk0, hr⟩ := hk
    subst hr
    refine x_pin (fun w1 hw1 => ?_)
    refine x_i2l Γ dL_setRoom_8 rfl ?_
    refine x_last (P' := fun w2 => w2 = xu w1 out (1, .inl (G.2 2, 1, .inr (.inl (vp_updL f 0 (gSetRoom A L c0 r0).1.toInt64))))) (N := 1) (f := f) Γ (fun w9 e9 => by rw [e9]; exact ⟨_, hw1.2 _ _ _ ho (by omega), rfl⟩) (by unfold vp_in; decide) dL_setRoom_9 ?_
    refine x_goto (tgt := 17) Γ dL_setRoom_10 (by decide) ?_
    refine x_iconst (v := 0) Γ dL_setRoom_17 (by decide) ?_
    exact x_iret Γ rfl rfl (fun w2 e2 => ⟨hk0.symm, wQ_ok hw1 ho e2⟩) ⟨Nat.le_of_ble_eq_true rfl, Nat.le_of_ble_eq_true rfl⟩ dL_setRoom_18
  · intro w2 H locs ls st q ce hp
    obtain ⟨w1, h1, hd, h4⟩ := hp
    subst h1
    obtain ⟨rfl, hk⟩ := hd
    refine x_catchE (P := fun w2 => cP G ca th (cB A) n L T w1 w2) Γ [] (⟨0, 10, 13, 13⟩ : ExceptionTableEntry) [] (htab.trans rfl) ?_ rfl (by decide) k_99 k_112 (fun q => ?_) w2 H locs ls st q ce h4
    · intro z hz
      cases hz
    · refine x_astore Γ dL_setRoom_13 rfl (by decide) ?_
      refine x_iconst (v := 1) Γ dL_setRoom_15 (by decide) ?_
      refine x_iret Γ rfl rfl (fun w2 e2 => ⟨hk.symm, ?_⟩) ⟨Nat.le_of_ble_eq_true rfl, Nat.le_of_ble_eq_true rfl⟩ dL_setRoom_16
      unfold gSetRoom
      rw [fin_no hk (by decide)]
      exact wQ_no hT e2 ho (by rw [hk]; decide)
set_option maxRecDepth 100000 in
theorem tw_setVan {ca th : Nat → Nat} {A : xS} {n : Nat} {L : List Nat} {T : Nat → xTg} {w : xW} (h : CRaw G w ca th (cB A) n L T) (hfl : l.stackTraces = false) {r0 : Int32} {D : Nat} (hI : pI A n L) (hT : tgI A n D T) (hD : A 4 0 = nI D) (hD1 : D ≤ 1000) {out : Nat} {f : Nat → Int64} (ho : w out = some (1, .inl (G.2 2, 1, .inr (.inl f)))) : xMetW l G yL_setVan cL_setVan 4 (some .int) [(0, 9, 12, 13)] ({ frames := 9, cells := 60, slots := 400, locals := 365 } : Room) [.ref (ca 0), .int r0, .ref out] w embI (fun r w' => r = kSetVan r0 ∧ wQ G ca th out (gSetVan A L r0).2.1 n (gSetVan A L r0).2.2 D (kSetVan r0) (gSetVan A L r0).1 w w') := by
  refine xMetW_of (by decide) (Nat.le_of_ble_eq_true rfl) ?_
  intro p e s m below meth c Γ htab
  refine x_aload_n Γ dL_setVan_0 rfl rfl ?_
  refine x_iconst (v := 0) Γ dL_setVan_1 (by decide) ?_
  refine x_aload_n Γ dL_setVan_2 rfl rfl ?_
  refine x_iload_n Γ dL_setVan_3 rfl rfl ?_
  refine x_invVH (emb := embI) (ci := 3) (rm := ({ frames := 8, cells := 60, slots := 400, locals := 320 } : Room)) Γ [.int r0] (fun w1 r w2 => (kSetVan r0 = 0 ∧ r = (gSetVan A L r0).1) ∧ cQ G ca th (gSetVan A L r0).2.1 n (gSetVan A L r0).2.2 D w1 w2) (fun w1 E w2 => ((E = "java/lang/IllegalArgumentException" ∧ kSetVan r0 = 1)) ∧ cP G ca th (cB A) n L T w1 w2) rfl (fun w1 h1 => by subst h1; exact tc_setVan h hfl hI hT hD hD1) (fun w1 h1 => by rw [h1]; exact ⟨_, _, h.1⟩) rfl k_184 k_1 k_181 k_182 k_183 hd_X2_setVan ⟨Nat.le_of_ble_eq_true rfl, Nat.le_of_ble_eq_true rfl⟩ ⟨Nat.le_of_ble_eq_true rfl, Nat.le_of_ble_eq_true rfl⟩ (Nat.le_of_ble_eq_true rfl) dL_setVan_4 (fun r => ?_) (fun E => ?_)
  · refine x_then (P2 := fun w2 => cQ G ca th (gSetVan A L r0).2.1 n (gSetVan A L r0).2.2 D w w2) (φ := kSetVan r0 = 0 ∧ r = (gSetVan A L r0).1) (fun w2 h2 => by obtain ⟨w1, h1, h3, h4⟩ := h2; subst h1; exact ⟨h3, h4⟩) (fun hk => ?_)
    obtain ⟨hk0, hr⟩ := hk
    subst hr
    refine x_pin (fun w1 hw1 => ?_)
    refine x_i2l Γ dL_setVan_7 rfl ?_
    refine x_last (P' := fun w2 => w2 = xu w1 out (1, .inl (G.2 2, 1, .inr (.inl (vp_updL f 0 (gSetVan A L r0).1.toInt64))))) (N := 1) (f := f) Γ (fun w9 e9 => by rw [e9]; exact ⟨_, hw1.2 _ _ _ ho (by omega), rfl⟩) (by unfold vp_in; decide) dL_setVan_8 ?_
    refine x_goto (tgt := 15) Γ dL_setVan_9 (by decide) ?_
    refine x_iconst (v := 0) Γ dL_setVan_15 (by decide) ?_
    exact x_iret Γ rfl rfl (fun w2 e2 => ⟨hk0.symm, wQ_ok hw1 ho e2⟩) ⟨Nat.le_of_ble_eq_true rfl, Nat.le_of_ble_eq_true rfl⟩ dL_setVan_16
  · intro w2 H locs ls st q ce hp
    obtain ⟨w1, h1, hd, h4⟩ := hp
    subst h1
    obtain ⟨rfl, hk⟩ := hd
    refine x_catchE (P := fun w2 => cP G ca th (cB A) n L T w1 w2) Γ [] (⟨0, 9, 12, 13⟩ : ExceptionTableEntry) [] (htab.trans rfl) ?_ rfl (by decide) k_99 k_112 (fun q => ?_) w2 H locs ls st q ce h4
    · intro z hz
      cases hz
    · refine x_astore_n Γ dL_setVan_12 rfl rfl (by decide) ?_
      refine x_iconst (v := 1) Γ dL_setVan_13 (by decide) ?_
      refine x_iret Γ rfl rfl (fun w2 e2 => ⟨hk.symm, ?_⟩) ⟨Nat.le_of_ble_eq_true rfl, Nat.le_of_ble_eq_true rfl⟩ dL_setVan_14
      unfold gSetVan
      rw [fin_no hk (by decide)]
      exact wQ_no hT e2 ho (by rw [hk]; decide)
set_option maxRecDepth 100000 in
theorem tw_leave {ca th : Nat → Nat} {A : xS} {n : Nat} {L : List Nat} {T : Nat → xTg} {w : xW} (h : CRaw G w ca th (cB A) n L T) (hfl : l.stackTraces = false) {ow z c0 : Int32} {D : Nat} (hI : pI A n L) (hT : tgI A n D T) (hD : A 4 0 = nI D) (hD1 : D ≤ 1000) {out : Nat} {f : Nat → Int64} (ho : w out = some (1, .inl (G.2 2, 1, .inr (.inl f)))) : xMetW l G yL_leave cL_leave 6 (some .int) [(0, 12, 15, 13), (0, 12, 19, 23)] ({ frames := 9, cells := 60, slots := 400, locals := 365 } : Room) [.ref (ca 0), .int ow, .int z, .int c0, .ref out] w embI (fun r w' => r = kLeave A ow z c0 ∧ ∃ th' n', (kLeave A ow z c0 = 0 → n' = n + 1) ∧ (¬ kLeave A ow z c0 = 0 → n' = n) ∧ wQ G ca th' out (gLeave A L ow z c0).2.1 n' (gLeave A L ow z c0).2.2 D (kLeave A ow z c0) (gLeave A L ow z c0).1 w w') := by
  refine xMetW_of (by decide) (Nat.le_of_ble_eq_true rfl) ?_
  intro p e s m below meth c Γ htab
  refine x_aload Γ dL_leave_0 rfl ?_
  refine x_iconst (v := 0) Γ dL_leave_2 (by decide) ?_
  refine x_aload_n Γ dL_leave_3 rfl rfl ?_
  refine x_iload_n Γ dL_leave_4 rfl rfl ?_
  refine x_iload_n Γ dL_leave_5 rfl rfl ?_
  refine x_iload_n Γ dL_leave_6 rfl rfl ?_
  refine x_invVH (emb := embI) (ci := 3) (rm := ({ frames := 8, cells := 60, slots := 400, locals := 320 } : Room)) Γ [.int ow, .int z, .int c0] (fun w1 r w2 => (kLeave A ow z c0 = 0 ∧ r = (gLeave A L ow z c0).1) ∧ ∃ th', cQ G ca th' (gLeave A L ow z c0).2.1 (n + 1) (gLeave A L ow z c0).2.2 D w1 w2) (fun w1 E w2 => ((E = "java/lang/IllegalArgumentException" ∧ kLeave A ow z c0 = 1) ∨ (E = "java/lang/IllegalStateException" ∧ kLeave A ow z c0 = 2)) ∧ cP G ca th (cB A) n L T w1 w2) rfl (fun w1 h1 => by subst h1; exact tc_leave h hfl hI hT hD hD1) (fun w1 h1 => by rw [h1]; exact ⟨_, _, h.1⟩) rfl k_193 k_1 k_190 k_191 k_192 hd_X2_leave ⟨Nat.le_of_ble_eq_true rfl, Nat.le_of_ble_eq_true rfl⟩ ⟨Nat.le_of_ble_eq_true rfl, Nat.le_of_ble_eq_true rfl⟩ (Nat.le_of_ble_eq_true rfl) dL_leave_7 (fun r => ?_) (fun E => ?_)
  · refine x_then (P2 := fun w2 => ∃ th', cQ G ca th' (gLeave A L ow z c0).2.1 (n + 1) (gLeave A L ow z c0).2.2 D w w2) (φ := kLeave A ow z c0 = 0 ∧ r = (gLeave A L ow z c0).1) (fun w2 h2 => by obtain ⟨w1, h1, h3, h4⟩ := h2; subst h1; exact ⟨h3, h4⟩) (fun hk => ?_)
    obtain ⟨hk0, hr⟩ := hk
    subst hr
    refine x_pin (fun w1 hw1 => ?_)
    obtain ⟨th', hw1⟩ := hw1
    refine x_i2l Γ dL_leave_10 rfl ?_
    refine x_last (P' := fun w2 => w2 = xu w1 out (1, .inl (G.2 2, 1, .inr (.inl (vp_updL f 0 (gLeave A L ow z c0).1.toInt64))))) (N := 1) (f := f) Γ (fun w9 e9 => by rw [e9]; exact ⟨_, hw1.2 _ _ _ ho (by omega), rfl⟩) (by unfold vp_in; decide) dL_leave_11 ?_
    refine x_goto (tgt := 23) Γ dL_leave_12 (by decide) ?_
    refine x_iconst (v := 0) Γ dL_leave_23 (by decide) ?_
    exact x_iret Γ rfl rfl (fun w2 e2 => ⟨hk0.symm, th', n + 1, fun _ => rfl, fun z => absurd hk0 z, wQ_ok hw1 ho e2⟩) ⟨Nat.le_of_ble_eq_true rfl, Nat.le_of_ble_eq_true rfl⟩ dL_leave_24
  · intro w2 H locs ls st q ce hp
    obtain ⟨w1, h1, hd, h4⟩ := hp
    subst h1
    rcases hd with ⟨rfl, hk⟩ | ⟨rfl, hk⟩
    · refine x_catchE (P := fun w2 => cP G ca th (cB A) n L T w1 w2) Γ [] (⟨0, 12, 15, 13⟩ : ExceptionTableEntry) [(⟨0, 12, 19, 23⟩ : ExceptionTableEntry)] (htab.trans rfl) ?_ rfl (by decide) k_99 k_112 (fun q => ?_) w2 H locs ls st q ce h4
      · intro z hz
        cases hz
      · refine x_astore Γ dL_leave_15 rfl (by decide) ?_
        refine x_iconst (v := 1) Γ dL_leave_17 (by decide) ?_
        refine x_iret Γ rfl rfl (fun w2 e2 => ⟨hk.symm, ?_⟩) ⟨Nat.le_of_ble_eq_true rfl, Nat.le_of_ble_eq_true rfl⟩ dL_leave_18
        refine ⟨th, n, fun z => absurd (hk.symm.trans z) (by decide), fun _ => rfl, ?_⟩
        unfold gLeave
        rw [fin_no hk (by decide)]
        exact wQ_no hT e2 ho (by rw [hk]; decide)
    · refine x_catchE (P := fun w2 => cP G ca th (cB A) n L T w1 w2) Γ [(⟨0, 12, 15, 13⟩ : ExceptionTableEntry)] (⟨0, 12, 19, 23⟩ : ExceptionTableEntry) [] (htab.trans rfl) ?_ rfl (by decide) k_189 k_223 (fun q => ?_) w2 H locs ls st q ce h4
      · intro z hz
        rcases List.mem_cons.mp hz with rfl | hz
        · exact ⟨by decide, _, k_99, by simp [xNcs]⟩
        cases hz
      · refine x_astore Γ dL_leave_19 rfl (by decide) ?_
        refine x_iconst (v := 2) Γ dL_leave_21 (by decide) ?_
        refine x_iret Γ rfl rfl (fun w2 e2 => ⟨hk.symm, ?_⟩) ⟨Nat.le_of_ble_eq_true rfl, Nat.le_of_ble_eq_true rfl⟩ dL_leave_22
        refine ⟨th, n, fun z => absurd (hk.symm.trans z) (by decide), fun _ => rfl, ?_⟩
        unfold gLeave
        rw [fin_no hk (by decide)]
        exact wQ_no hT e2 ho (by rw [hk]; decide)
set_option maxRecDepth 100000 in
theorem tw_fetch {ca th : Nat → Nat} {A : xS} {n : Nat} {L : List Nat} {T : Nat → xTg} {w : xW} (h : CRaw G w ca th (cB A) n L T) (hfl : l.stackTraces = false) {x : Int32} {D : Nat} (hI : pI A n L) (hT : tgI A n D T) (hD : A 4 0 = nI D) (hD1 : D ≤ 1000) {out : Nat} {f : Nat → Int64} (ho : w out = some (1, .inl (G.2 2, 1, .inr (.inl f)))) : xMetW l G yL_fetch cL_fetch 4 (some .int) [(0, 9, 12, 28), (0, 9, 15, 23)] ({ frames := 9, cells := 60, slots := 400, locals := 365 } : Room) [.ref (ca 0), .int x, .ref out] w embI (fun r w' => r = kFetch A x ∧ wQ G ca th out (gFetch A L x).2.1 n (gFetch A L x).2.2 D (kFetch A x) (gFetch A L x).1 w w') := by
  refine xMetW_of (by decide) (Nat.le_of_ble_eq_true rfl) ?_
  intro p e s m below meth c Γ htab
  refine x_aload_n Γ dL_fetch_0 rfl rfl ?_
  refine x_iconst (v := 0) Γ dL_fetch_1 (by decide) ?_
  refine x_aload_n Γ dL_fetch_2 rfl rfl ?_
  refine x_iload_n Γ dL_fetch_3 rfl rfl ?_
  refine x_invVH (emb := embI) (ci := 3) (rm := ({ frames := 8, cells := 60, slots := 400, locals := 320 } : Room)) Γ [.int x] (fun w1 r w2 => (kFetch A x = 0 ∧ r = (gFetch A L x).1) ∧ cQ G ca th (gFetch A L x).2.1 n (gFetch A L x).2.2 D w1 w2) (fun w1 E w2 => ((E = "java/lang/IndexOutOfBoundsException" ∧ kFetch A x = 1) ∨ (E = "java/lang/IllegalStateException" ∧ kFetch A x = 2)) ∧ cP G ca th (cB A) n L T w1 w2) rfl (fun w1 h1 => by subst h1; exact tc_fetch h hfl hI hT hD hD1) (fun w1 h1 => by rw [h1]; exact ⟨_, _, h.1⟩) rfl k_371 k_1 k_368 k_369 k_370 hd_X2_fetch ⟨Nat.le_of_ble_eq_true rfl, Nat.le_of_ble_eq_true rfl⟩ ⟨Nat.le_of_ble_eq_true rfl, Nat.le_of_ble_eq_true rfl⟩ (Nat.le_of_ble_eq_true rfl) dL_fetch_4 (fun r => ?_) (fun E => ?_)
  · refine x_then (P2 := fun w2 => cQ G ca th (gFetch A L x).2.1 n (gFetch A L x).2.2 D w w2) (φ := kFetch A x = 0 ∧ r = (gFetch A L x).1) (fun w2 h2 => by obtain ⟨w1, h1, h3, h4⟩ := h2; subst h1; exact ⟨h3, h4⟩) (fun hk => ?_)
    obtain ⟨hk0, hr⟩ := hk
    subst hr
    refine x_pin (fun w1 hw1 => ?_)
    refine x_i2l Γ dL_fetch_7 rfl ?_
    refine x_last (P' := fun w2 => w2 = xu w1 out (1, .inl (G.2 2, 1, .inr (.inl (vp_updL f 0 (gFetch A L x).1.toInt64))))) (N := 1) (f := f) Γ (fun w9 e9 => by rw [e9]; exact ⟨_, hw1.2 _ _ _ ho (by omega), rfl⟩) (by unfold vp_in; decide) dL_fetch_8 ?_
    refine x_goto (tgt := 18) Γ dL_fetch_9 (by decide) ?_
    refine x_iconst (v := 0) Γ dL_fetch_18 (by decide) ?_
    exact x_iret Γ rfl rfl (fun w2 e2 => ⟨hk0.symm, wQ_ok hw1 ho e2⟩) ⟨Nat.le_of_ble_eq_true rfl, Nat.le_of_ble_eq_true rfl⟩ dL_fetch_19
  · intro w2 H locs ls st q ce hp
    obtain ⟨w1, h1, hd, h4⟩ := hp
    subst h1
    rcases hd with ⟨rfl, hk⟩ | ⟨rfl, hk⟩
    · refine x_catchE (P := fun w2 => cP G ca th (cB A) n L T w1 w2) Γ [] (⟨0, 9, 12, 28⟩ : ExceptionTableEntry) [(⟨0, 9, 15, 23⟩ : ExceptionTableEntry)] (htab.trans rfl) ?_ rfl (by decide) k_367 k_378 (fun q => ?_) w2 H locs ls st q ce h4
      · intro z hz
        cases hz
      · refine x_astore_n Γ dL_fetch_12 rfl rfl (by decide) ?_
        refine x_iconst (v := 1) Γ dL_fetch_13 (by decide) ?_
        refine x_iret Γ rfl rfl (fun w2 e2 => ⟨hk.symm, ?_⟩) ⟨Nat.le_of_ble_eq_true rfl, Nat.le_of_ble_eq_true rfl⟩ dL_fetch_14
        unfold gFetch
        rw [fin_no hk (by decide)]
        exact wQ_no hT e2 ho (by rw [hk]; decide)
    · refine x_catchE (P := fun w2 => cP G ca th (cB A) n L T w1 w2) Γ [(⟨0, 9, 12, 28⟩ : ExceptionTableEntry)] (⟨0, 9, 15, 23⟩ : ExceptionTableEntry) [] (htab.trans rfl) ?_ rfl (by decide) k_189 k_223 (fun q => ?_) w2 H locs ls st q ce h4
      · intro z hz
        rcases List.mem_cons.mp hz with rfl | hz
        · exact ⟨by decide, _, k_367, by simp [xNcs]⟩
        cases hz
      · refine x_astore_n Γ dL_fetch_15 rfl rfl (by decide) ?_
        refine x_iconst (v := 2) Γ dL_fetch_16 (by decide) ?_
        refine x_iret Γ rfl rfl (fun w2 e2 => ⟨hk.symm, ?_⟩) ⟨Nat.le_of_ble_eq_true rfl, Nat.le_of_ble_eq_true rfl⟩ dL_fetch_17
        unfold gFetch
        rw [fin_no hk (by decide)]
        exact wQ_no hT e2 ho (by rw [hk]; decide)
set_option maxRecDepth 100000 in
theorem tw_want {ca th : Nat → Nat} {A : xS} {n : Nat} {L : List Nat} {T : Nat → xTg} {w : xW} (h : CRaw G w ca th (cB A) n L T) (hfl : l.stackTraces = false) {x c0 : Int32} {D : Nat} (hI : pI A n L) (hT : tgI A n D T) (hD : A 4 0 = nI D) (hD1 : D ≤ 1000) {out : Nat} {f : Nat → Int64} (ho : w out = some (1, .inl (G.2 2, 1, .inr (.inl f)))) : xMetW l G yL_want cL_want 5 (some .int) [(0, 10, 13, 28), (0, 10, 17, 13), (0, 10, 21, 23)] ({ frames := 9, cells := 60, slots := 400, locals := 365 } : Room) [.ref (ca 0), .int x, .int c0, .ref out] w embI (fun r w' => r = kWant A x c0 ∧ wQ G ca th out (gWant A L x c0).2.1 n (gWant A L x c0).2.2 D (kWant A x c0) (gWant A L x c0).1 w w') := by
  refine xMetW_of (by decide) (Nat.le_of_ble_eq_true rfl) ?_
  intro p e s m below meth c Γ htab
  refine x_aload_n Γ dL_want_0 rfl rfl ?_
  refine x_iconst (v := 0) Γ dL_want_1 (by decide) ?_
  refine x_aload_n Γ dL_want_2 rfl rfl ?_
  refine x_iload_n Γ dL_want_3 rfl rfl ?_
  refine x_iload_n Γ dL_want_4 rfl rfl ?_
  refine x_invVH (emb := embI) (ci := 3) (rm := ({ frames := 8, cells := 60, slots := 400, locals := 320 } : Room)) Γ [.int x, .int c0] (fun w1 r w2 => (kWant A x c0 = 0 ∧ r = (gWant A L x c0).1) ∧ cQ G ca th (gWant A L x c0).2.1 n (gWant A L x c0).2.2 D w1 w2) (fun w1 E w2 => ((E = "java/lang/IndexOutOfBoundsException" ∧ kWant A x c0 = 1) ∨ (E = "java/lang/IllegalArgumentException" ∧ kWant A x c0 = 2) ∨ (E = "java/lang/IllegalStateException" ∧ kWant A x c0 = 3)) ∧ cP G ca th (cB A) n L T w1 w2) rfl (fun w1 h1 => by subst h1; exact tc_want h hfl hI hT hD hD1) (fun w1 h1 => by rw [h1]; exact ⟨_, _, h.1⟩) rfl k_429 k_1 k_426 k_427 k_428 hd_X2_want ⟨Nat.le_of_ble_eq_true rfl, Nat.le_of_ble_eq_true rfl⟩ ⟨Nat.le_of_ble_eq_true rfl, Nat.le_of_ble_eq_true rfl⟩ (Nat.le_of_ble_eq_true rfl) dL_want_5 (fun r => ?_) (fun E => ?_)
  · refine x_then (P2 := fun w2 => cQ G ca th (gWant A L x c0).2.1 n (gWant A L x c0).2.2 D w w2) (φ := kWant A x c0 = 0 ∧ r = (gWant A L x c0).1) (fun w2 h2 => by obtain ⟨w1, h1, h3, h4⟩ := h2; subst h1; exact ⟨h3, h4⟩) (fun hk => ?_)
    obtain ⟨hk0, hr⟩ := hk
    subst hr
    refine x_pin (fun w1 hw1 => ?_)
    refine x_i2l Γ dL_want_8 rfl ?_
    refine x_last (P' := fun w2 => w2 = xu w1 out (1, .inl (G.2 2, 1, .inr (.inl (vp_updL f 0 (gWant A L x c0).1.toInt64))))) (N := 1) (f := f) Γ (fun w9 e9 => by rw [e9]; exact ⟨_, hw1.2 _ _ _ ho (by omega), rfl⟩) (by unfold vp_in; decide) dL_want_9 ?_
    refine x_goto (tgt := 25) Γ dL_want_10 (by decide) ?_
    refine x_iconst (v := 0) Γ dL_want_25 (by decide) ?_
    exact x_iret Γ rfl rfl (fun w2 e2 => ⟨hk0.symm, wQ_ok hw1 ho e2⟩) ⟨Nat.le_of_ble_eq_true rfl, Nat.le_of_ble_eq_true rfl⟩ dL_want_26
  · intro w2 H locs ls st q ce hp
    obtain ⟨w1, h1, hd, h4⟩ := hp
    subst h1
    rcases hd with ⟨rfl, hk⟩ | ⟨rfl, hk⟩ | ⟨rfl, hk⟩
    · refine x_catchE (P := fun w2 => cP G ca th (cB A) n L T w1 w2) Γ [] (⟨0, 10, 13, 28⟩ : ExceptionTableEntry) [(⟨0, 10, 17, 13⟩ : ExceptionTableEntry), (⟨0, 10, 21, 23⟩ : ExceptionTableEntry)] (htab.trans rfl) ?_ rfl (by decide) k_367 k_378 (fun q => ?_) w2 H locs ls st q ce h4
      · intro z hz
        cases hz
      · refine x_astore Γ dL_want_13 rfl (by decide) ?_
        refine x_iconst (v := 1) Γ dL_want_15 (by decide) ?_
        refine x_iret Γ rfl rfl (fun w2 e2 => ⟨hk.symm, ?_⟩) ⟨Nat.le_of_ble_eq_true rfl, Nat.le_of_ble_eq_true rfl⟩ dL_want_16
        unfold gWant
        rw [fin_no hk (by decide)]
        exact wQ_no hT e2 ho (by rw [hk]; decide)
    · refine x_catchE (P := fun w2 => cP G ca th (cB A) n L T w1 w2) Γ [(⟨0, 10, 13, 28⟩ : ExceptionTableEntry)] (⟨0, 10, 17, 13⟩ : ExceptionTableEntry) [(⟨0, 10, 21, 23⟩ : ExceptionTableEntry)] (htab.trans rfl) ?_ rfl (by decide) k_99 k_112 (fun q => ?_) w2 H locs ls st q ce h4
      · intro z hz
        rcases List.mem_cons.mp hz with rfl | hz
        · exact ⟨by decide, _, k_367, by simp [xNcs]⟩
        cases hz
      · refine x_astore Γ dL_want_17 rfl (by decide) ?_
        refine x_iconst (v := 2) Γ dL_want_19 (by decide) ?_
        refine x_iret Γ rfl rfl (fun w2 e2 => ⟨hk.symm, ?_⟩) ⟨Nat.le_of_ble_eq_true rfl, Nat.le_of_ble_eq_true rfl⟩ dL_want_20
        unfold gWant
        rw [fin_no hk (by decide)]
        exact wQ_no hT e2 ho (by rw [hk]; decide)
    · refine x_catchE (P := fun w2 => cP G ca th (cB A) n L T w1 w2) Γ [(⟨0, 10, 13, 28⟩ : ExceptionTableEntry), (⟨0, 10, 17, 13⟩ : ExceptionTableEntry)] (⟨0, 10, 21, 23⟩ : ExceptionTableEntry) [] (htab.trans rfl) ?_ rfl (by decide) k_189 k_223 (fun q => ?_) w2 H locs ls st q ce h4
      · intro z hz
        rcases List.mem_cons.mp hz with rfl | hz
        · exact ⟨by decide, _, k_367, by simp [xNcs]⟩
        rcases List.mem_cons.mp hz with rfl | hz
        · exact ⟨by decide, _, k_99, by simp [xNcs]⟩
        cases hz
      · refine x_astore Γ dL_want_21 rfl (by decide) ?_
        refine x_iconst (v := 3) Γ dL_want_23 (by decide) ?_
        refine x_iret Γ rfl rfl (fun w2 e2 => ⟨hk.symm, ?_⟩) ⟨Nat.le_of_ble_eq_true rfl, Nat.le_of_ble_eq_true rfl⟩ dL_want_24
        unfold gWant
        rw [fin_no hk (by decide)]
        exact wQ_no hT e2 ho (by rw [hk]; decide)
set_option maxRecDepth 100000 in
theorem tw_value {ca th : Nat → Nat} {A : xS} {n : Nat} {L : List Nat} {T : Nat → xTg} {w : xW} (h : CRaw G w ca th (cB A) n L T) (hfl : l.stackTraces = false) {x v : Int32} {D : Nat} (hI : pI A n L) (hT : tgI A n D T) (hD : A 4 0 = nI D) (hD1 : D ≤ 1000) {out : Nat} {f : Nat → Int64} (ho : w out = some (1, .inl (G.2 2, 1, .inr (.inl f)))) : xMetW l G yL_value cL_value 5 (some .int) [(0, 10, 13, 28), (0, 10, 17, 13), (0, 10, 21, 23)] ({ frames := 9, cells := 60, slots := 400, locals := 365 } : Room) [.ref (ca 0), .int x, .int v, .ref out] w embI (fun r w' => r = kValue A x v ∧ wQ G ca th out (gValue A L x v).2.1 n (gValue A L x v).2.2 D (kValue A x v) (gValue A L x v).1 w w') := by
  refine xMetW_of (by decide) (Nat.le_of_ble_eq_true rfl) ?_
  intro p e s m below meth c Γ htab
  refine x_aload_n Γ dL_value_0 rfl rfl ?_
  refine x_iconst (v := 0) Γ dL_value_1 (by decide) ?_
  refine x_aload_n Γ dL_value_2 rfl rfl ?_
  refine x_iload_n Γ dL_value_3 rfl rfl ?_
  refine x_iload_n Γ dL_value_4 rfl rfl ?_
  refine x_invVH (emb := embI) (ci := 3) (rm := ({ frames := 8, cells := 60, slots := 400, locals := 320 } : Room)) Γ [.int x, .int v] (fun w1 r w2 => (kValue A x v = 0 ∧ r = (gValue A L x v).1) ∧ cQ G ca th (gValue A L x v).2.1 n (gValue A L x v).2.2 D w1 w2) (fun w1 E w2 => ((E = "java/lang/IndexOutOfBoundsException" ∧ kValue A x v = 1) ∨ (E = "java/lang/IllegalArgumentException" ∧ kValue A x v = 2) ∨ (E = "java/lang/IllegalStateException" ∧ kValue A x v = 3)) ∧ cP G ca th (cB A) n L T w1 w2) rfl (fun w1 h1 => by subst h1; exact tc_value h hfl hI hT hD hD1) (fun w1 h1 => by rw [h1]; exact ⟨_, _, h.1⟩) rfl k_438 k_1 k_435 k_436 k_437 hd_X2_value ⟨Nat.le_of_ble_eq_true rfl, Nat.le_of_ble_eq_true rfl⟩ ⟨Nat.le_of_ble_eq_true rfl, Nat.le_of_ble_eq_true rfl⟩ (Nat.le_of_ble_eq_true rfl) dL_value_5 (fun r => ?_) (fun E => ?_)
  · refine x_then (P2 := fun w2 => cQ G ca th (gValue A L x v).2.1 n (gValue A L x v).2.2 D w w2) (φ := kValue A x v = 0 ∧ r = (gValue A L x v).1) (fun w2 h2 => by obtain ⟨w1, h1, h3, h4⟩ := h2; subst h1; exact ⟨h3, h4⟩) (fun hk => ?_)
    obtain ⟨hk0, hr⟩ := hk
    subst hr
    refine x_pin (fun w1 hw1 => ?_)
    refine x_i2l Γ dL_value_8 rfl ?_
    refine x_last (P' := fun w2 => w2 = xu w1 out (1, .inl (G.2 2, 1, .inr (.inl (vp_updL f 0 (gValue A L x v).1.toInt64))))) (N := 1) (f := f) Γ (fun w9 e9 => by rw [e9]; exact ⟨_, hw1.2 _ _ _ ho (by omega), rfl⟩) (by unfold vp_in; decide) dL_value_9 ?_
    refine x_goto (tgt := 25) Γ dL_value_10 (by decide) ?_
    refine x_iconst (v := 0) Γ dL_value_25 (by decide) ?_
    exact x_iret Γ rfl rfl (fun w2 e2 => ⟨hk0.symm, wQ_ok hw1 ho e2⟩) ⟨Nat.le_of_ble_eq_true rfl, Nat.le_of_ble_eq_true rfl⟩ dL_value_26
  · intro w2 H locs ls st q ce hp
    obtain ⟨w1, h1, hd, h4⟩ := hp
    subst h1
    rcases hd with ⟨rfl, hk⟩ | ⟨rfl, hk⟩ | ⟨rfl, hk⟩
    · refine x_catchE (P := fun w2 => cP G ca th (cB A) n L T w1 w2) Γ [] (⟨0, 10, 13, 28⟩ : ExceptionTableEntry) [(⟨0, 10, 17, 13⟩ : ExceptionTableEntry), (⟨0, 10, 21, 23⟩ : ExceptionTableEntry)] (htab.trans rfl) ?_ rfl (by decide) k_367 k_378 (fun q => ?_) w2 H locs ls st q ce h4
      · intro z hz
        cases hz
      · refine x_astore Γ dL_value_13 rfl (by decide) ?_
        refine x_iconst (v := 1) Γ dL_value_15 (by decide) ?_
        refine x_iret Γ rfl rfl (fun w2 e2 => ⟨hk.symm, ?_⟩) ⟨Nat.le_of_ble_eq_true rfl, Nat.le_of_ble_eq_true rfl⟩ dL_value_16
        unfold gValue
        rw [fin_no hk (by decide)]
        exact wQ_no hT e2 ho (by rw [hk]; decide)
    · refine x_catchE (P := fun w2 => cP G ca th (cB A) n L T w1 w2) Γ [(⟨0, 10, 13, 28⟩ : ExceptionTableEntry)] (⟨0, 10, 17, 13⟩ : ExceptionTableEntry) [(⟨0, 10, 21, 23⟩ : ExceptionTableEntry)] (htab.trans rfl) ?_ rfl (by decide) k_99 k_112 (fun q => ?_) w2 H locs ls st q ce h4
      · intro z hz
        rcases List.mem_cons.mp hz with rfl | hz
        · exact ⟨by decide, _, k_367, by simp [xNcs]⟩
        cases hz
      · refine x_astore Γ dL_value_17 rfl (by decide) ?_
        refine x_iconst (v := 2) Γ dL_value_19 (by decide) ?_
        refine x_iret Γ rfl rfl (fun w2 e2 => ⟨hk.symm, ?_⟩) ⟨Nat.le_of_ble_eq_true rfl, Nat.le_of_ble_eq_true rfl⟩ dL_value_20
        unfold gValue
        rw [fin_no hk (by decide)]
        exact wQ_no hT e2 ho (by rw [hk]; decide)
    · refine x_catchE (P := fun w2 => cP G ca th (cB A) n L T w1 w2) Γ [(⟨0, 10, 13, 28⟩ : ExceptionTableEntry), (⟨0, 10, 17, 13⟩ : ExceptionTableEntry)] (⟨0, 10, 21, 23⟩ : ExceptionTableEntry) [] (htab.trans rfl) ?_ rfl (by decide) k_189 k_223 (fun q => ?_) w2 H locs ls st q ce h4
      · intro z hz
        rcases List.mem_cons.mp hz with rfl | hz
        · exact ⟨by decide, _, k_367, by simp [xNcs]⟩
        rcases List.mem_cons.mp hz with rfl | hz
        · exact ⟨by decide, _, k_99, by simp [xNcs]⟩
        cases hz
      · refine x_astore Γ dL_value_21 rfl (by decide) ?_
        refine x_iconst (v := 3) Γ dL_value_23 (by decide) ?_
        refine x_iret Γ rfl rfl (fun w2 e2 => ⟨hk.symm, ?_⟩) ⟨Nat.le_of_ble_eq_true rfl, Nat.le_of_ble_eq_true rfl⟩ dL_value_24
        unfold gValue
        rw [fin_no hk (by decide)]
        exact wQ_no hT e2 ho (by rw [hk]; decide)
set_option maxRecDepth 100000 in
theorem tw_lend {ca th : Nat → Nat} {A : xS} {n : Nat} {L : List Nat} {T : Nat → xTg} {w : xW} (h : CRaw G w ca th (cB A) n L T) (hfl : l.stackTraces = false) {x lr z : Int32} {D : Nat} (hI : pI A n L) (hT : tgI A n D T) (hD : A 4 0 = nI D) (hD1 : D ≤ 1000) {out : Nat} {f : Nat → Int64} (ho : w out = some (1, .inl (G.2 2, 1, .inr (.inl f)))) : xMetW l G yL_lend cL_lend 5 (some .int) [(0, 7, 10, 28), (0, 7, 14, 13), (0, 7, 18, 23)] ({ frames := 9, cells := 60, slots := 400, locals := 365 } : Room) [.ref (ca 0), .int x, .int lr, .int z] w embI (fun r w' => r = kLend A x lr z ∧ wQ G ca th out (gLend A L x lr z).2.1 n (gLend A L x lr z).2.2 D 1 0 w w') := by
  refine xMetW_of (by decide) (Nat.le_of_ble_eq_true rfl) ?_
  intro p e s m below meth c Γ htab
  refine x_aload_n Γ dL_lend_0 rfl rfl ?_
  refine x_iload_n Γ dL_lend_1 rfl rfl ?_
  refine x_iload_n Γ dL_lend_2 rfl rfl ?_
  refine x_iload_n Γ dL_lend_3 rfl rfl ?_
  refine x_invVH (emb := embV) (ci := 3) (rm := ({ frames := 8, cells := 60, slots := 400, locals := 320 } : Room)) Γ [.int x, .int lr, .int z] (fun w1 _ w2 => kLend A x lr z = 0 ∧ cQ G ca th (gLend A L x lr z).2.1 n (gLend A L x lr z).2.2 D w1 w2) (fun w1 E w2 => ((E = "java/lang/IndexOutOfBoundsException" ∧ kLend A x lr z = 1) ∨ (E = "java/lang/IllegalArgumentException" ∧ kLend A x lr z = 2) ∨ (E = "java/lang/IllegalStateException" ∧ kLend A x lr z = 3)) ∧ cP G ca th (cB A) n L T w1 w2) rfl (fun w1 h1 => by subst h1; exact tc_lend h hfl hI hT hD hD1) (fun w1 h1 => by rw [h1]; exact ⟨_, _, h.1⟩) rfl k_447 k_1 k_444 k_445 k_446 hd_X2_lend ⟨Nat.le_of_ble_eq_true rfl, Nat.le_of_ble_eq_true rfl⟩ ⟨Nat.le_of_ble_eq_true rfl, Nat.le_of_ble_eq_true rfl⟩ (Nat.le_of_ble_eq_true rfl) dL_lend_4 (fun _ => ?_) (fun E => ?_)
  · refine x_then (P2 := fun w2 => cQ G ca th (gLend A L x lr z).2.1 n (gLend A L x lr z).2.2 D w w2) (φ := kLend A x lr z = 0) (fun w2 h2 => by obtain ⟨w1, h1, h3, h4⟩ := h2; subst h1; exact ⟨h3, h4⟩) (fun hk0 => ?_)
    refine x_goto (tgt := 22) Γ dL_lend_7 (by decide) ?_
    refine x_iconst (v := 0) Γ dL_lend_22 (by decide) ?_
    exact x_iret Γ rfl rfl (fun w2 e2 => ⟨hk0.symm, wQ_v e2 ho⟩) ⟨Nat.le_of_ble_eq_true rfl, Nat.le_of_ble_eq_true rfl⟩ dL_lend_23
  · intro w2 H locs ls st q ce hp
    obtain ⟨w1, h1, hd, h4⟩ := hp
    subst h1
    rcases hd with ⟨rfl, hk⟩ | ⟨rfl, hk⟩ | ⟨rfl, hk⟩
    · refine x_catchE (P := fun w2 => cP G ca th (cB A) n L T w1 w2) Γ [] (⟨0, 7, 10, 28⟩ : ExceptionTableEntry) [(⟨0, 7, 14, 13⟩ : ExceptionTableEntry), (⟨0, 7, 18, 23⟩ : ExceptionTableEntry)] (htab.trans rfl) ?_ rfl (by decide) k_367 k_378 (fun q => ?_) w2 H locs ls st q ce h4
      · intro z hz
        cases hz
      · refine x_astore Γ dL_lend_10 rfl (by decide) ?_
        refine x_iconst (v := 1) Γ dL_lend_12 (by decide) ?_
        refine x_iret Γ rfl rfl (fun w2 e2 => ⟨hk.symm, ?_⟩) ⟨Nat.le_of_ble_eq_true rfl, Nat.le_of_ble_eq_true rfl⟩ dL_lend_13
        unfold gLend
        rw [fin_no hk (by decide)]
        exact wQ_no hT e2 ho (by decide)
    · refine x_catchE (P := fun w2 => cP G ca th (cB A) n L T w1 w2) Γ [(⟨0, 7, 10, 28⟩ : ExceptionTableEntry)] (⟨0, 7, 14, 13⟩ : ExceptionTableEntry) [(⟨0, 7, 18, 23⟩ : ExceptionTableEntry)] (htab.trans rfl) ?_ rfl (by decide) k_99 k_112 (fun q => ?_) w2 H locs ls st q ce h4
      · intro z hz
        rcases List.mem_cons.mp hz with rfl | hz
        · exact ⟨by decide, _, k_367, by simp [xNcs]⟩
        cases hz
      · refine x_astore Γ dL_lend_14 rfl (by decide) ?_
        refine x_iconst (v := 2) Γ dL_lend_16 (by decide) ?_
        refine x_iret Γ rfl rfl (fun w2 e2 => ⟨hk.symm, ?_⟩) ⟨Nat.le_of_ble_eq_true rfl, Nat.le_of_ble_eq_true rfl⟩ dL_lend_17
        unfold gLend
        rw [fin_no hk (by decide)]
        exact wQ_no hT e2 ho (by decide)
    · refine x_catchE (P := fun w2 => cP G ca th (cB A) n L T w1 w2) Γ [(⟨0, 7, 10, 28⟩ : ExceptionTableEntry), (⟨0, 7, 14, 13⟩ : ExceptionTableEntry)] (⟨0, 7, 18, 23⟩ : ExceptionTableEntry) [] (htab.trans rfl) ?_ rfl (by decide) k_189 k_223 (fun q => ?_) w2 H locs ls st q ce h4
      · intro z hz
        rcases List.mem_cons.mp hz with rfl | hz
        · exact ⟨by decide, _, k_367, by simp [xNcs]⟩
        rcases List.mem_cons.mp hz with rfl | hz
        · exact ⟨by decide, _, k_99, by simp [xNcs]⟩
        cases hz
      · refine x_astore Γ dL_lend_18 rfl (by decide) ?_
        refine x_iconst (v := 3) Γ dL_lend_20 (by decide) ?_
        refine x_iret Γ rfl rfl (fun w2 e2 => ⟨hk.symm, ?_⟩) ⟨Nat.le_of_ble_eq_true rfl, Nat.le_of_ble_eq_true rfl⟩ dL_lend_21
        unfold gLend
        rw [fin_no hk (by decide)]
        exact wQ_no hT e2 ho (by decide)
set_option maxRecDepth 100000 in
theorem tw_repay {ca th : Nat → Nat} {A : xS} {n : Nat} {L : List Nat} {T : Nat → xTg} {w : xW} (h : CRaw G w ca th (cB A) n L T) (hfl : l.stackTraces = false) {x : Int32} {D : Nat} (hI : pI A n L) (hT : tgI A n D T) (hD : A 4 0 = nI D) (hD1 : D ≤ 1000) {out : Nat} {f : Nat → Int64} (ho : w out = some (1, .inl (G.2 2, 1, .inr (.inl f)))) : xMetW l G yL_repay cL_repay 4 (some .int) [(0, 9, 12, 28), (0, 9, 15, 23)] ({ frames := 9, cells := 60, slots := 400, locals := 365 } : Room) [.ref (ca 0), .int x, .ref out] w embI (fun r w' => r = kRepay A x ∧ wQ G ca th out (gRepay A L x).2.1 n (gRepay A L x).2.2 D (kRepay A x) (gRepay A L x).1 w w') := by
  refine xMetW_of (by decide) (Nat.le_of_ble_eq_true rfl) ?_
  intro p e s m below meth c Γ htab
  refine x_aload_n Γ dL_repay_0 rfl rfl ?_
  refine x_iconst (v := 0) Γ dL_repay_1 (by decide) ?_
  refine x_aload_n Γ dL_repay_2 rfl rfl ?_
  refine x_iload_n Γ dL_repay_3 rfl rfl ?_
  refine x_invVH (emb := embI) (ci := 3) (rm := ({ frames := 8, cells := 60, slots := 400, locals := 320 } : Room)) Γ [.int x] (fun w1 r w2 => (kRepay A x = 0 ∧ r = (gRepay A L x).1) ∧ cQ G ca th (gRepay A L x).2.1 n (gRepay A L x).2.2 D w1 w2) (fun w1 E w2 => ((E = "java/lang/IndexOutOfBoundsException" ∧ kRepay A x = 1) ∨ (E = "java/lang/IllegalStateException" ∧ kRepay A x = 2)) ∧ cP G ca th (cB A) n L T w1 w2) rfl (fun w1 h1 => by subst h1; exact tc_repay h hfl hI hT hD hD1) (fun w1 h1 => by rw [h1]; exact ⟨_, _, h.1⟩) rfl k_464 k_1 k_461 k_462 k_463 hd_X2_repay ⟨Nat.le_of_ble_eq_true rfl, Nat.le_of_ble_eq_true rfl⟩ ⟨Nat.le_of_ble_eq_true rfl, Nat.le_of_ble_eq_true rfl⟩ (Nat.le_of_ble_eq_true rfl) dL_repay_4 (fun r => ?_) (fun E => ?_)
  · refine x_then (P2 := fun w2 => cQ G ca th (gRepay A L x).2.1 n (gRepay A L x).2.2 D w w2) (φ := kRepay A x = 0 ∧ r = (gRepay A L x).1) (fun w2 h2 => by obtain ⟨w1, h1, h3, h4⟩ := h2; subst h1; exact ⟨h3, h4⟩) (fun hk => ?_)
    obtain ⟨hk0, hr⟩ := hk
    subst hr
    refine x_pin (fun w1 hw1 => ?_)
    refine x_i2l Γ dL_repay_7 rfl ?_
    refine x_last (P' := fun w2 => w2 = xu w1 out (1, .inl (G.2 2, 1, .inr (.inl (vp_updL f 0 (gRepay A L x).1.toInt64))))) (N := 1) (f := f) Γ (fun w9 e9 => by rw [e9]; exact ⟨_, hw1.2 _ _ _ ho (by omega), rfl⟩) (by unfold vp_in; decide) dL_repay_8 ?_
    refine x_goto (tgt := 18) Γ dL_repay_9 (by decide) ?_
    refine x_iconst (v := 0) Γ dL_repay_18 (by decide) ?_
    exact x_iret Γ rfl rfl (fun w2 e2 => ⟨hk0.symm, wQ_ok hw1 ho e2⟩) ⟨Nat.le_of_ble_eq_true rfl, Nat.le_of_ble_eq_true rfl⟩ dL_repay_19
  · intro w2 H locs ls st q ce hp
    obtain ⟨w1, h1, hd, h4⟩ := hp
    subst h1
    rcases hd with ⟨rfl, hk⟩ | ⟨rfl, hk⟩
    · refine x_catchE (P := fun w2 => cP G ca th (cB A) n L T w1 w2) Γ [] (⟨0, 9, 12, 28⟩ : ExceptionTableEntry) [(⟨0, 9, 15, 23⟩ : ExceptionTableEntry)] (htab.trans rfl) ?_ rfl (by decide) k_367 k_378 (fun q => ?_) w2 H locs ls st q ce h4
      · intro z hz
        cases hz
      · refine x_astore_n Γ dL_repay_12 rfl rfl (by decide) ?_
        refine x_iconst (v := 1) Γ dL_repay_13 (by decide) ?_
        refine x_iret Γ rfl rfl (fun w2 e2 => ⟨hk.symm, ?_⟩) ⟨Nat.le_of_ble_eq_true rfl, Nat.le_of_ble_eq_true rfl⟩ dL_repay_14
        unfold gRepay
        rw [fin_no hk (by decide)]
        exact wQ_no hT e2 ho (by rw [hk]; decide)
    · refine x_catchE (P := fun w2 => cP G ca th (cB A) n L T w1 w2) Γ [(⟨0, 9, 12, 28⟩ : ExceptionTableEntry)] (⟨0, 9, 15, 23⟩ : ExceptionTableEntry) [] (htab.trans rfl) ?_ rfl (by decide) k_189 k_223 (fun q => ?_) w2 H locs ls st q ce h4
      · intro z hz
        rcases List.mem_cons.mp hz with rfl | hz
        · exact ⟨by decide, _, k_367, by simp [xNcs]⟩
        cases hz
      · refine x_astore_n Γ dL_repay_15 rfl rfl (by decide) ?_
        refine x_iconst (v := 2) Γ dL_repay_16 (by decide) ?_
        refine x_iret Γ rfl rfl (fun w2 e2 => ⟨hk.symm, ?_⟩) ⟨Nat.le_of_ble_eq_true rfl, Nat.le_of_ble_eq_true rfl⟩ dL_repay_17
        unfold gRepay
        rw [fin_no hk (by decide)]
        exact wQ_no hT e2 ho (by rw [hk]; decide)
set_option maxRecDepth 100000 in
theorem tw_doubt {ca th : Nat → Nat} {A : xS} {n : Nat} {L : List Nat} {T : Nat → xTg} {w : xW} (h : CRaw G w ca th (cB A) n L T) (hfl : l.stackTraces = false) {x : Int32} {D : Nat} (hI : pI A n L) (hT : tgI A n D T) (hD : A 4 0 = nI D) (hD1 : D ≤ 1000) {out : Nat} {f : Nat → Int64} (ho : w out = some (1, .inl (G.2 2, 1, .inr (.inl f)))) : xMetW l G yL_doubt cL_doubt 4 (some .int) [(0, 9, 12, 28), (0, 9, 15, 23)] ({ frames := 9, cells := 60, slots := 400, locals := 365 } : Room) [.ref (ca 0), .int x, .ref out] w embI (fun r w' => r = kDoubt A x ∧ wQ G ca th out (gDoubt A L x).2.1 n (gDoubt A L x).2.2 D (kDoubt A x) (gDoubt A L x).1 w w') := by
  refine xMetW_of (by decide) (Nat.le_of_ble_eq_true rfl) ?_
  intro p e s m below meth c Γ htab
  refine x_aload_n Γ dL_doubt_0 rfl rfl ?_
  refine x_iconst (v := 0) Γ dL_doubt_1 (by decide) ?_
  refine x_aload_n Γ dL_doubt_2 rfl rfl ?_
  refine x_iload_n Γ dL_doubt_3 rfl rfl ?_
  refine x_invVH (emb := embI) (ci := 3) (rm := ({ frames := 8, cells := 60, slots := 400, locals := 320 } : Room)) Γ [.int x] (fun w1 r w2 => (kDoubt A x = 0 ∧ r = (gDoubt A L x).1) ∧ cQ G ca th (gDoubt A L x).2.1 n (gDoubt A L x).2.2 D w1 w2) (fun w1 E w2 => ((E = "java/lang/IndexOutOfBoundsException" ∧ kDoubt A x = 1) ∨ (E = "java/lang/IllegalStateException" ∧ kDoubt A x = 2)) ∧ cP G ca th (cB A) n L T w1 w2) rfl (fun w1 h1 => by subst h1; exact tc_doubt h hfl hI hT hD hD1) (fun w1 h1 => by rw [h1]; exact ⟨_, _, h.1⟩) rfl k_476 k_1 k_473 k_474 k_475 hd_X2_doubt ⟨Nat.le_of_ble_eq_true rfl, Nat.le_of_ble_eq_true rfl⟩ ⟨Nat.le_of_ble_eq_true rfl, Nat.le_of_ble_eq_true rfl⟩ (Nat.le_of_ble_eq_true rfl) dL_doubt_4 (fun r => ?_) (fun E => ?_)
  · refine x_then (P2 := fun w2 => cQ G ca th (gDoubt A L x).2.1 n (gDoubt A L x).2.2 D w w2) (φ := kDoubt A x = 0 ∧ r = (gDoubt A L x).1) (fun w2 h2 => by obtain ⟨w1, h1, h3, h4⟩ := h2; subst h1; exact ⟨h3, h4⟩) (fun hk => ?_)
    obtain ⟨hk0, hr⟩ := hk
    subst hr
    refine x_pin (fun w1 hw1 => ?_)
    refine x_i2l Γ dL_doubt_7 rfl ?_
    refine x_last (P' := fun w2 => w2 = xu w1 out (1, .inl (G.2 2, 1, .inr (.inl (vp_updL f 0 (gDoubt A L x).1.toInt64))))) (N := 1) (f := f) Γ (fun w9 e9 => by rw [e9]; exact ⟨_, hw1.2 _ _ _ ho (by omega), rfl⟩) (by unfold vp_in; decide) dL_doubt_8 ?_
    refine x_goto (tgt := 18) Γ dL_doubt_9 (by decide) ?_
    refine x_iconst (v := 0) Γ dL_doubt_18 (by decide) ?_
    exact x_iret Γ rfl rfl (fun w2 e2 => ⟨hk0.symm, wQ_ok hw1 ho e2⟩) ⟨Nat.le_of_ble_eq_true rfl, Nat.le_of_ble_eq_true rfl⟩ dL_doubt_19
  · intro w2 H locs ls st q ce hp
    obtain ⟨w1, h1, hd, h4⟩ := hp
    subst h1
    rcases hd with ⟨rfl, hk⟩ | ⟨rfl, hk⟩
    · refine x_catchE (P := fun w2 => cP G ca th (cB A) n L T w1 w2) Γ [] (⟨0, 9, 12, 28⟩ : ExceptionTableEntry) [(⟨0, 9, 15, 23⟩ : ExceptionTableEntry)] (htab.trans rfl) ?_ rfl (by decide) k_367 k_378 (fun q => ?_) w2 H locs ls st q ce h4
      · intro z hz
        cases hz
      · refine x_astore_n Γ dL_doubt_12 rfl rfl (by decide) ?_
        refine x_iconst (v := 1) Γ dL_doubt_13 (by decide) ?_
        refine x_iret Γ rfl rfl (fun w2 e2 => ⟨hk.symm, ?_⟩) ⟨Nat.le_of_ble_eq_true rfl, Nat.le_of_ble_eq_true rfl⟩ dL_doubt_14
        unfold gDoubt
        rw [fin_no hk (by decide)]
        exact wQ_no hT e2 ho (by rw [hk]; decide)
    · refine x_catchE (P := fun w2 => cP G ca th (cB A) n L T w1 w2) Γ [(⟨0, 9, 12, 28⟩ : ExceptionTableEntry)] (⟨0, 9, 15, 23⟩ : ExceptionTableEntry) [] (htab.trans rfl) ?_ rfl (by decide) k_189 k_223 (fun q => ?_) w2 H locs ls st q ce h4
      · intro z hz
        rcases List.mem_cons.mp hz with rfl | hz
        · exact ⟨by decide, _, k_367, by simp [xNcs]⟩
        cases hz
      · refine x_astore_n Γ dL_doubt_15 rfl rfl (by decide) ?_
        refine x_iconst (v := 2) Γ dL_doubt_16 (by decide) ?_
        refine x_iret Γ rfl rfl (fun w2 e2 => ⟨hk.symm, ?_⟩) ⟨Nat.le_of_ble_eq_true rfl, Nat.le_of_ble_eq_true rfl⟩ dL_doubt_17
        unfold gDoubt
        rw [fin_no hk (by decide)]
        exact wQ_no hT e2 ho (by rw [hk]; decide)
set_option maxRecDepth 100000 in
theorem tw_pass {ca th : Nat → Nat} {A : xS} {n : Nat} {L : List Nat} {T : Nat → xTg} {w : xW} (h : CRaw G w ca th (cB A) n L T) (hfl : l.stackTraces = false) {v : Int32} {D : Nat} (hI : pI A n L) (hT : tgI A n D T) (hD : A 4 0 = nI D) (hD1 : D ≤ 1000) (hC : calI A n) {out : Nat} {f : Nat → Int64} (ho : w out = some (1, .inl (G.2 2, 1, .inr (.inl f)))) : xMetW l G yL_pass cL_pass 4 (some .int) [(0, 9, 12, 13), (0, 9, 15, 23)] ({ frames := 9, cells := 60, slots := 400, locals := 365 } : Room) [.ref (ca 0), .int v, .ref out] w embI (fun r w' => r = kPass A v ∧ ∃ D', (kPass A v = 0 → D' = D + ix v) ∧ (¬ kPass A v = 0 → D' = D) ∧ wQ G ca th out (gPass A L v).2.1 n (gPass A L v).2.2 D' (kPass A v) (gPass A L v).1 w w') := by
  refine xMetW_of (by decide) (Nat.le_of_ble_eq_true rfl) ?_
  intro p e s m below meth c Γ htab
  refine x_aload_n Γ dL_pass_0 rfl rfl ?_
  refine x_iconst (v := 0) Γ dL_pass_1 (by decide) ?_
  refine x_aload_n Γ dL_pass_2 rfl rfl ?_
  refine x_iload_n Γ dL_pass_3 rfl rfl ?_
  refine x_invVH (emb := embI) (ci := 3) (rm := ({ frames := 8, cells := 60, slots := 400, locals := 320 } : Room)) Γ [.int v] (fun w1 r w2 => (kPass A v = 0 ∧ r = (gPass A L v).1) ∧ cQ G ca th (gPass A L v).2.1 n (gPass A L v).2.2 (D + ix v) w1 w2) (fun w1 E w2 => ((E = "java/lang/IllegalArgumentException" ∧ kPass A v = 1) ∨ (E = "java/lang/IllegalStateException" ∧ kPass A v = 2)) ∧ cP G ca th (cB A) n L T w1 w2) rfl (fun w1 h1 => by subst h1; exact tc_pass h hfl hI hT hD hD1 hC) (fun w1 h1 => by rw [h1]; exact ⟨_, _, h.1⟩) rfl k_488 k_1 k_485 k_486 k_487 hd_X2_pass ⟨Nat.le_of_ble_eq_true rfl, Nat.le_of_ble_eq_true rfl⟩ ⟨Nat.le_of_ble_eq_true rfl, Nat.le_of_ble_eq_true rfl⟩ (Nat.le_of_ble_eq_true rfl) dL_pass_4 (fun r => ?_) (fun E => ?_)
  · refine x_then (P2 := fun w2 => cQ G ca th (gPass A L v).2.1 n (gPass A L v).2.2 (D + ix v) w w2) (φ := kPass A v = 0 ∧ r = (gPass A L v).1) (fun w2 h2 => by obtain ⟨w1, h1, h3, h4⟩ := h2; subst h1; exact ⟨h3, h4⟩) (fun hk => ?_)
    obtain ⟨hk0, hr⟩ := hk
    subst hr
    refine x_pin (fun w1 hw1 => ?_)
    refine x_i2l Γ dL_pass_7 rfl ?_
    refine x_last (P' := fun w2 => w2 = xu w1 out (1, .inl (G.2 2, 1, .inr (.inl (vp_updL f 0 (gPass A L v).1.toInt64))))) (N := 1) (f := f) Γ (fun w9 e9 => by rw [e9]; exact ⟨_, hw1.2 _ _ _ ho (by omega), rfl⟩) (by unfold vp_in; decide) dL_pass_8 ?_
    refine x_goto (tgt := 18) Γ dL_pass_9 (by decide) ?_
    refine x_iconst (v := 0) Γ dL_pass_18 (by decide) ?_
    exact x_iret Γ rfl rfl (fun w2 e2 => ⟨hk0.symm, _, fun _ => rfl, fun z => absurd hk0 z, wQ_ok hw1 ho e2⟩) ⟨Nat.le_of_ble_eq_true rfl, Nat.le_of_ble_eq_true rfl⟩ dL_pass_19
  · intro w2 H locs ls st q ce hp
    obtain ⟨w1, h1, hd, h4⟩ := hp
    subst h1
    rcases hd with ⟨rfl, hk⟩ | ⟨rfl, hk⟩
    · refine x_catchE (P := fun w2 => cP G ca th (cB A) n L T w1 w2) Γ [] (⟨0, 9, 12, 13⟩ : ExceptionTableEntry) [(⟨0, 9, 15, 23⟩ : ExceptionTableEntry)] (htab.trans rfl) ?_ rfl (by decide) k_99 k_112 (fun q => ?_) w2 H locs ls st q ce h4
      · intro z hz
        cases hz
      · refine x_astore_n Γ dL_pass_12 rfl rfl (by decide) ?_
        refine x_iconst (v := 1) Γ dL_pass_13 (by decide) ?_
        refine x_iret Γ rfl rfl (fun w2 e2 => ⟨hk.symm, ?_⟩) ⟨Nat.le_of_ble_eq_true rfl, Nat.le_of_ble_eq_true rfl⟩ dL_pass_14
        refine ⟨D, fun z => absurd (hk.symm.trans z) (by decide), fun _ => rfl, ?_⟩
        unfold gPass
        rw [fin_no hk (by decide)]
        exact wQ_no hT e2 ho (by rw [hk]; decide)
    · refine x_catchE (P := fun w2 => cP G ca th (cB A) n L T w1 w2) Γ [(⟨0, 9, 12, 13⟩ : ExceptionTableEntry)] (⟨0, 9, 15, 23⟩ : ExceptionTableEntry) [] (htab.trans rfl) ?_ rfl (by decide) k_189 k_223 (fun q => ?_) w2 H locs ls st q ce h4
      · intro z hz
        rcases List.mem_cons.mp hz with rfl | hz
        · exact ⟨by decide, _, k_99, by simp [xNcs]⟩
        cases hz
      · refine x_astore_n Γ dL_pass_15 rfl rfl (by decide) ?_
        refine x_iconst (v := 2) Γ dL_pass_16 (by decide) ?_
        refine x_iret Γ rfl rfl (fun w2 e2 => ⟨hk.symm, ?_⟩) ⟨Nat.le_of_ble_eq_true rfl, Nat.le_of_ble_eq_true rfl⟩ dL_pass_17
        refine ⟨D, fun z => absurd (hk.symm.trans z) (by decide), fun _ => rfl, ?_⟩
        unfold gPass
        rw [fin_no hk (by decide)]
        exact wQ_no hT e2 ho (by rw [hk]; decide)
set_option maxRecDepth 100000 in
theorem tw_where {ca th : Nat → Nat} {A : xS} {n : Nat} {L : List Nat} {T : Nat → xTg} {w : xW} (h : CRaw G w ca th (cB A) n L T) (hfl : l.stackTraces = false) {x : Int32} {D : Nat} (hI : pI A n L) (hT : tgI A n D T) (hD : A 4 0 = nI D) (hD1 : D ≤ 1000) {out : Nat} {f : Nat → Int64} (ho : w out = some (1, .inl (G.2 2, 1, .inr (.inl f)))) : xMetW l G yL_where cL_where 4 (some .int) [(0, 9, 12, 28)] ({ frames := 9, cells := 60, slots := 400, locals := 365 } : Room) [.ref (ca 0), .int x, .ref out] w embI (fun r w' => r = kT1 A x ∧ wQ G ca th out (gT1 9 A L x).2.1 n (gT1 9 A L x).2.2 D (kT1 A x) (gT1 9 A L x).1 w w') := by
  refine xMetW_of (by decide) (Nat.le_of_ble_eq_true rfl) ?_
  intro p e s m below meth c Γ htab
  refine x_aload_n Γ dL_where_0 rfl rfl ?_
  refine x_iconst (v := 0) Γ dL_where_1 (by decide) ?_
  refine x_aload_n Γ dL_where_2 rfl rfl ?_
  refine x_iload_n Γ dL_where_3 rfl rfl ?_
  refine x_invVH (emb := embI) (ci := 3) (rm := ({ frames := 8, cells := 60, slots := 400, locals := 320 } : Room)) Γ [.int x] (fun w1 r w2 => (kT1 A x = 0 ∧ r = (gT1 9 A L x).1) ∧ cQ G ca th (gT1 9 A L x).2.1 n (gT1 9 A L x).2.2 D w1 w2) (fun w1 E w2 => ((E = "java/lang/IndexOutOfBoundsException" ∧ kT1 A x = 1)) ∧ cP G ca th (cB A) n L T w1 w2) rfl (fun w1 h1 => by subst h1; exact tc_where h hfl hI hT hD hD1) (fun w1 h1 => by rw [h1]; exact ⟨_, _, h.1⟩) rfl k_522 k_1 k_519 k_520 k_521 hd_X2_where ⟨Nat.le_of_ble_eq_true rfl, Nat.le_of_ble_eq_true rfl⟩ ⟨Nat.le_of_ble_eq_true rfl, Nat.le_of_ble_eq_true rfl⟩ (Nat.le_of_ble_eq_true rfl) dL_where_4 (fun r => ?_) (fun E => ?_)
  · refine x_then (P2 := fun w2 => cQ G ca th (gT1 9 A L x).2.1 n (gT1 9 A L x).2.2 D w w2) (φ := kT1 A x = 0 ∧ r = (gT1 9 A L x).1) (fun w2 h2 => by obtain ⟨w1, h1, h3, h4⟩ := h2; subst h1; exact ⟨h3, h4⟩) (fun hk => ?_)
    obtain ⟨hk0, hr⟩ := hk
    subst hr
    refine x_pin (fun w1 hw1 => ?_)
    refine x_i2l Γ dL_where_7 rfl ?_
    refine x_last (P' := fun w2 => w2 = xu w1 out (1, .inl (G.2 2, 1, .inr (.inl (vp_updL f 0 (gT1 9 A L x).1.toInt64))))) (N := 1) (f := f) Γ (fun w9 e9 => by rw [e9]; exact ⟨_, hw1.2 _ _ _ ho (by omega), rfl⟩) (by unfold vp_in; decide) dL_where_8 ?_
    refine x_goto (tgt := 15) Γ dL_where_9 (by decide) ?_
    refine x_iconst (v := 0) Γ dL_where_15 (by decide) ?_
    exact x_iret Γ rfl rfl (fun w2 e2 => ⟨hk0.symm, wQ_ok hw1 ho e2⟩) ⟨Nat.le_of_ble_eq_true rfl, Nat.le_of_ble_eq_true rfl⟩ dL_where_16
  · intro w2 H locs ls st q ce hp
    obtain ⟨w1, h1, hd, h4⟩ := hp
    subst h1
    obtain ⟨rfl, hk⟩ := hd
    refine x_catchE (P := fun w2 => cP G ca th (cB A) n L T w1 w2) Γ [] (⟨0, 9, 12, 28⟩ : ExceptionTableEntry) [] (htab.trans rfl) ?_ rfl (by decide) k_367 k_378 (fun q => ?_) w2 H locs ls st q ce h4
    · intro z hz
      cases hz
    · refine x_astore_n Γ dL_where_12 rfl rfl (by decide) ?_
      refine x_iconst (v := 1) Γ dL_where_13 (by decide) ?_
      refine x_iret Γ rfl rfl (fun w2 e2 => ⟨hk.symm, ?_⟩) ⟨Nat.le_of_ble_eq_true rfl, Nat.le_of_ble_eq_true rfl⟩ dL_where_14
      unfold gT1
      rw [fin_no hk (by decide)]
      exact wQ_no hT e2 ho (by rw [hk]; decide)
set_option maxRecDepth 100000 in
theorem tw_whereOn {ca th : Nat → Nat} {A : xS} {n : Nat} {L : List Nat} {T : Nat → xTg} {w : xW} (h : CRaw G w ca th (cB A) n L T) (hfl : l.stackTraces = false) {x v : Int32} {D : Nat} (hI : pI A n L) (hT : tgI A n D T) (hD : A 4 0 = nI D) (hD1 : D ≤ 1000) {out : Nat} {f : Nat → Int64} (ho : w out = some (1, .inl (G.2 2, 1, .inr (.inl f)))) : xMetW l G yL_whereOn cL_whereOn 5 (some .int) [(0, 10, 13, 28), (0, 10, 17, 13)] ({ frames := 9, cells := 60, slots := 400, locals := 365 } : Room) [.ref (ca 0), .int x, .int v, .ref out] w embI (fun r w' => r = kWhereOn A x v ∧ wQ G ca th out (gWhereOn A L x v).2.1 n (gWhereOn A L x v).2.2 D (kWhereOn A x v) (gWhereOn A L x v).1 w w') := by
  refine xMetW_of (by decide) (Nat.le_of_ble_eq_true rfl) ?_
  intro p e s m below meth c Γ htab
  refine x_aload_n Γ dL_whereOn_0 rfl rfl ?_
  refine x_iconst (v := 0) Γ dL_whereOn_1 (by decide) ?_
  refine x_aload_n Γ dL_whereOn_2 rfl rfl ?_
  refine x_iload_n Γ dL_whereOn_3 rfl rfl ?_
  refine x_iload_n Γ dL_whereOn_4 rfl rfl ?_
  refine x_invVH (emb := embI) (ci := 3) (rm := ({ frames := 8, cells := 60, slots := 400, locals := 320 } : Room)) Γ [.int x, .int v] (fun w1 r w2 => (kWhereOn A x v = 0 ∧ r = (gWhereOn A L x v).1) ∧ cQ G ca th (gWhereOn A L x v).2.1 n (gWhereOn A L x v).2.2 D w1 w2) (fun w1 E w2 => ((E = "java/lang/IndexOutOfBoundsException" ∧ kWhereOn A x v = 1) ∨ (E = "java/lang/IllegalArgumentException" ∧ kWhereOn A x v = 2)) ∧ cP G ca th (cB A) n L T w1 w2) rfl (fun w1 h1 => by subst h1; exact tc_whereOn h hfl hI hT hD hD1) (fun w1 h1 => by rw [h1]; exact ⟨_, _, h.1⟩) rfl k_529 k_1 k_526 k_527 k_528 hd_X2_whereOn ⟨Nat.le_of_ble_eq_true rfl, Nat.le_of_ble_eq_true rfl⟩ ⟨Nat.le_of_ble_eq_true rfl, Nat.le_of_ble_eq_true rfl⟩ (Nat.le_of_ble_eq_true rfl) dL_whereOn_5 (fun r => ?_) (fun E => ?_)
  · refine x_then (P2 := fun w2 => cQ G ca th (gWhereOn A L x v).2.1 n (gWhereOn A L x v).2.2 D w w2) (φ := kWhereOn A x v = 0 ∧ r = (gWhereOn A L x v).1) (fun w2 h2 => by obtain ⟨w1, h1, h3, h4⟩ := h2; subst h1; exact ⟨h3, h4⟩) (fun hk => ?_)
    obtain ⟨hk0, hr⟩ := hk
    subst hr
    refine x_pin (fun w1 hw1 => ?_)
    refine x_i2l Γ dL_whereOn_8 rfl ?_
    refine x_last (P' := fun w2 => w2 = xu w1 out (1, .inl (G.2 2, 1, .inr (.inl (vp_updL f 0 (gWhereOn A L x v).1.toInt64))))) (N := 1) (f := f) Γ (fun w9 e9 => by rw [e9]; exact ⟨_, hw1.2 _ _ _ ho (by omega), rfl⟩) (by unfold vp_in; decide) dL_whereOn_9 ?_
    refine x_goto (tgt := 21) Γ dL_whereOn_10 (by decide) ?_
    refine x_iconst (v := 0) Γ dL_whereOn_21 (by decide) ?_
    exact x_iret Γ rfl rfl (fun w2 e2 => ⟨hk0.symm, wQ_ok hw1 ho e2⟩) ⟨Nat.le_of_ble_eq_true rfl, Nat.le_of_ble_eq_true rfl⟩ dL_whereOn_22
  · intro w2 H locs ls st q ce hp
    obtain ⟨w1, h1, hd, h4⟩ := hp
    subst h1
    rcases hd with ⟨rfl, hk⟩ | ⟨rfl, hk⟩
    · refine x_catchE (P := fun w2 => cP G ca th (cB A) n L T w1 w2) Γ [] (⟨0, 10, 13, 28⟩ : ExceptionTableEntry) [(⟨0, 10, 17, 13⟩ : ExceptionTableEntry)] (htab.trans rfl) ?_ rfl (by decide) k_367 k_378 (fun q => ?_) w2 H locs ls st q ce h4
      · intro z hz
        cases hz
      · refine x_astore Γ dL_whereOn_13 rfl (by decide) ?_
        refine x_iconst (v := 1) Γ dL_whereOn_15 (by decide) ?_
        refine x_iret Γ rfl rfl (fun w2 e2 => ⟨hk.symm, ?_⟩) ⟨Nat.le_of_ble_eq_true rfl, Nat.le_of_ble_eq_true rfl⟩ dL_whereOn_16
        unfold gWhereOn
        rw [fin_no hk (by decide)]
        exact wQ_no hT e2 ho (by rw [hk]; decide)
    · refine x_catchE (P := fun w2 => cP G ca th (cB A) n L T w1 w2) Γ [(⟨0, 10, 13, 28⟩ : ExceptionTableEntry)] (⟨0, 10, 17, 13⟩ : ExceptionTableEntry) [] (htab.trans rfl) ?_ rfl (by decide) k_99 k_112 (fun q => ?_) w2 H locs ls st q ce h4
      · intro z hz
        rcases List.mem_cons.mp hz with rfl | hz
        · exact ⟨by decide, _, k_367, by simp [xNcs]⟩
        cases hz
      · refine x_astore Γ dL_whereOn_17 rfl (by decide) ?_
        refine x_iconst (v := 2) Γ dL_whereOn_19 (by decide) ?_
        refine x_iret Γ rfl rfl (fun w2 e2 => ⟨hk.symm, ?_⟩) ⟨Nat.le_of_ble_eq_true rfl, Nat.le_of_ble_eq_true rfl⟩ dL_whereOn_20
        unfold gWhereOn
        rw [fin_no hk (by decide)]
        exact wQ_no hT e2 ho (by rw [hk]; decide)
set_option maxRecDepth 100000 in
theorem tw_load {ca th : Nat → Nat} {A : xS} {n : Nat} {L : List Nat} {T : Nat → xTg} {w : xW} (h : CRaw G w ca th (cB A) n L T) (hfl : l.stackTraces = false) {c0 : Int32} {D : Nat} (hI : pI A n L) (hT : tgI A n D T) (hD : A 4 0 = nI D) (hD1 : D ≤ 1000) {out : Nat} {f : Nat → Int64} (ho : w out = some (1, .inl (G.2 2, 1, .inr (.inl f)))) : xMetW l G yL_load cL_load 4 (some .int) [(0, 9, 12, 13)] ({ frames := 9, cells := 60, slots := 400, locals := 365 } : Room) [.ref (ca 0), .int c0, .ref out] w embI (fun r w' => r = kLoad c0 ∧ wQ G ca th out (gLoad A L c0).2.1 n (gLoad A L c0).2.2 D (kLoad c0) (gLoad A L c0).1 w w') := by
  refine xMetW_of (by decide) (Nat.le_of_ble_eq_true rfl) ?_
  intro p e s m below meth c Γ htab
  refine x_aload_n Γ dL_load_0 rfl rfl ?_
  refine x_iconst (v := 0) Γ dL_load_1 (by decide) ?_
  refine x_aload_n Γ dL_load_2 rfl rfl ?_
  refine x_iload_n Γ dL_load_3 rfl rfl ?_
  refine x_invVH (emb := embI) (ci := 3) (rm := ({ frames := 8, cells := 60, slots := 400, locals := 320 } : Room)) Γ [.int c0] (fun w1 r w2 => (kLoad c0 = 0 ∧ r = (gLoad A L c0).1) ∧ cQ G ca th (gLoad A L c0).2.1 n (gLoad A L c0).2.2 D w1 w2) (fun w1 E w2 => ((E = "java/lang/IllegalArgumentException" ∧ kLoad c0 = 1)) ∧ cP G ca th (cB A) n L T w1 w2) rfl (fun w1 h1 => by subst h1; exact tc_load h hfl hI hT hD hD1) (fun w1 h1 => by rw [h1]; exact ⟨_, _, h.1⟩) rfl k_541 k_1 k_538 k_539 k_540 hd_X2_load ⟨Nat.le_of_ble_eq_true rfl, Nat.le_of_ble_eq_true rfl⟩ ⟨Nat.le_of_ble_eq_true rfl, Nat.le_of_ble_eq_true rfl⟩ (Nat.le_of_ble_eq_true rfl) dL_load_4 (fun r => ?_) (fun E => ?_)
  · refine x_then (P2 := fun w2 => cQ G ca th (gLoad A L c0).2.1 n (gLoad A L c0).2.2 D w w2) (φ := kLoad c0 = 0 ∧ r = (gLoad A L c0).1) (fun w2 h2 => by obtain ⟨w1, h1, h3, h4⟩ := h2; subst h1; exact ⟨h3, h4⟩) (fun hk => ?_)
    obtain ⟨hk0, hr⟩ := hk
    subst hr
    refine x_pin (fun w1 hw1 => ?_)
    refine x_i2l Γ dL_load_7 rfl ?_
    refine x_last (P' := fun w2 => w2 = xu w1 out (1, .inl (G.2 2, 1, .inr (.inl (vp_updL f 0 (gLoad A L c0).1.toInt64))))) (N := 1) (f := f) Γ (fun w9 e9 => by rw [e9]; exact ⟨_, hw1.2 _ _ _ ho (by omega), rfl⟩) (by unfold vp_in; decide) dL_load_8 ?_
    refine x_goto (tgt := 15) Γ dL_load_9 (by decide) ?_
    refine x_iconst (v := 0) Γ dL_load_15 (by decide) ?_
    exact x_iret Γ rfl rfl (fun w2 e2 => ⟨hk0.symm, wQ_ok hw1 ho e2⟩) ⟨Nat.le_of_ble_eq_true rfl, Nat.le_of_ble_eq_true rfl⟩ dL_load_16
  · intro w2 H locs ls st q ce hp
    obtain ⟨w1, h1, hd, h4⟩ := hp
    subst h1
    obtain ⟨rfl, hk⟩ := hd
    refine x_catchE (P := fun w2 => cP G ca th (cB A) n L T w1 w2) Γ [] (⟨0, 9, 12, 13⟩ : ExceptionTableEntry) [] (htab.trans rfl) ?_ rfl (by decide) k_99 k_112 (fun q => ?_) w2 H locs ls st q ce h4
    · intro z hz
      cases hz
    · refine x_astore_n Γ dL_load_12 rfl rfl (by decide) ?_
      refine x_iconst (v := 1) Γ dL_load_13 (by decide) ?_
      refine x_iret Γ rfl rfl (fun w2 e2 => ⟨hk.symm, ?_⟩) ⟨Nat.le_of_ble_eq_true rfl, Nat.le_of_ble_eq_true rfl⟩ dL_load_14
      unfold gLoad
      rw [fin_no hk (by decide)]
      exact wQ_no hT e2 ho (by rw [hk]; decide)
set_option maxRecDepth 100000 in
theorem tw_fees {ca th : Nat → Nat} {A : xS} {n : Nat} {L : List Nat} {T : Nat → xTg} {w : xW} (h : CRaw G w ca th (cB A) n L T) (hfl : l.stackTraces = false) {x : Int32} {D : Nat} (hI : pI A n L) (hT : tgI A n D T) (hD : A 4 0 = nI D) (hD1 : D ≤ 1000) {out : Nat} {f : Nat → Int64} (ho : w out = some (1, .inl (G.2 2, 1, .inr (.inl f)))) : xMetW l G yL_fees cL_fees 4 (some .int) [(0, 9, 12, 28)] ({ frames := 9, cells := 60, slots := 400, locals := 365 } : Room) [.ref (ca 0), .int x, .ref out] w embI (fun r w' => r = kT1 A x ∧ wQ G ca th out (gT1 11 A L x).2.1 n (gT1 11 A L x).2.2 D (kT1 A x) (gT1 11 A L x).1 w w') := by
  refine xMetW_of (by decide) (Nat.le_of_ble_eq_true rfl) ?_
  intro p e s m below meth c Γ htab
  refine x_aload_n Γ dL_fees_0 rfl rfl ?_
  refine x_iconst (v := 0) Γ dL_fees_1 (by decide) ?_
  refine x_aload_n Γ dL_fees_2 rfl rfl ?_
  refine x_iload_n Γ dL_fees_3 rfl rfl ?_
  refine x_invVH (emb := embI) (ci := 3) (rm := ({ frames := 8, cells := 60, slots := 400, locals := 320 } : Room)) Γ [.int x] (fun w1 r w2 => (kT1 A x = 0 ∧ r = (gT1 11 A L x).1) ∧ cQ G ca th (gT1 11 A L x).2.1 n (gT1 11 A L x).2.2 D w1 w2) (fun w1 E w2 => ((E = "java/lang/IndexOutOfBoundsException" ∧ kT1 A x = 1)) ∧ cP G ca th (cB A) n L T w1 w2) rfl (fun w1 h1 => by subst h1; exact tc_fees h hfl hI hT hD hD1) (fun w1 h1 => by rw [h1]; exact ⟨_, _, h.1⟩) rfl k_548 k_1 k_545 k_546 k_547 hd_X2_fees ⟨Nat.le_of_ble_eq_true rfl, Nat.le_of_ble_eq_true rfl⟩ ⟨Nat.le_of_ble_eq_true rfl, Nat.le_of_ble_eq_true rfl⟩ (Nat.le_of_ble_eq_true rfl) dL_fees_4 (fun r => ?_) (fun E => ?_)
  · refine x_then (P2 := fun w2 => cQ G ca th (gT1 11 A L x).2.1 n (gT1 11 A L x).2.2 D w w2) (φ := kT1 A x = 0 ∧ r = (gT1 11 A L x).1) (fun w2 h2 => by obtain ⟨w1, h1, h3, h4⟩ := h2; subst h1; exact ⟨h3, h4⟩) (fun hk => ?_)
    obtain ⟨hk0, hr⟩ := hk
    subst hr
    refine x_pin (fun w1 hw1 => ?_)
    refine x_i2l Γ dL_fees_7 rfl ?_
    refine x_last (P' := fun w2 => w2 = xu w1 out (1, .inl (G.2 2, 1, .inr (.inl (vp_updL f 0 (gT1 11 A L x).1.toInt64))))) (N := 1) (f := f) Γ (fun w9 e9 => by rw [e9]; exact ⟨_, hw1.2 _ _ _ ho (by omega), rfl⟩) (by unfold vp_in; decide) dL_fees_8 ?_
    refine x_goto (tgt := 15) Γ dL_fees_9 (by decide) ?_
    refine x_iconst (v := 0) Γ dL_fees_15 (by decide) ?_
    exact x_iret Γ rfl rfl (fun w2 e2 => ⟨hk0.symm, wQ_ok hw1 ho e2⟩) ⟨Nat.le_of_ble_eq_true rfl, Nat.le_of_ble_eq_true rfl⟩ dL_fees_16
  · intro w2 H locs ls st q ce hp
    obtain ⟨w1, h1, hd, h4⟩ := hp
    subst h1
    obtain ⟨rfl, hk⟩ := hd
    refine x_catchE (P := fun w2 => cP G ca th (cB A) n L T w1 w2) Γ [] (⟨0, 9, 12, 28⟩ : ExceptionTableEntry) [] (htab.trans rfl) ?_ rfl (by decide) k_367 k_378 (fun q => ?_) w2 H locs ls st q ce h4
    · intro z hz
      cases hz
    · refine x_astore_n Γ dL_fees_12 rfl rfl (by decide) ?_
      refine x_iconst (v := 1) Γ dL_fees_13 (by decide) ?_
      refine x_iret Γ rfl rfl (fun w2 e2 => ⟨hk.symm, ?_⟩) ⟨Nat.le_of_ble_eq_true rfl, Nat.le_of_ble_eq_true rfl⟩ dL_fees_14
      unfold gT1
      rw [fin_no hk (by decide)]
      exact wQ_no hT e2 ho (by rw [hk]; decide)
set_option maxRecDepth 100000 in
theorem tw_loan {ca th : Nat → Nat} {A : xS} {n : Nat} {L : List Nat} {T : Nat → xTg} {w : xW} (h : CRaw G w ca th (cB A) n L T) (hfl : l.stackTraces = false) {x : Int32} {D : Nat} (hI : pI A n L) (hT : tgI A n D T) (hD : A 4 0 = nI D) (hD1 : D ≤ 1000) {out : Nat} {f : Nat → Int64} (ho : w out = some (1, .inl (G.2 2, 1, .inr (.inl f)))) : xMetW l G yL_loan cL_loan 4 (some .int) [(0, 9, 12, 28)] ({ frames := 9, cells := 60, slots := 400, locals := 365 } : Room) [.ref (ca 0), .int x, .ref out] w embI (fun r w' => r = kT1 A x ∧ wQ G ca th out (gT1 12 A L x).2.1 n (gT1 12 A L x).2.2 D (kT1 A x) (gT1 12 A L x).1 w w') := by
  refine xMetW_of (by decide) (Nat.le_of_ble_eq_true rfl) ?_
  intro p e s m below meth c Γ htab
  refine x_aload_n Γ dL_loan_0 rfl rfl ?_
  refine x_iconst (v := 0) Γ dL_loan_1 (by decide) ?_
  refine x_aload_n Γ dL_loan_2 rfl rfl ?_
  refine x_iload_n Γ dL_loan_3 rfl rfl ?_
  refine x_invVH (emb := embI) (ci := 3) (rm := ({ frames := 8, cells := 60, slots := 400, locals := 320 } : Room)) Γ [.int x] (fun w1 r w2 => (kT1 A x = 0 ∧ r = (gT1 12 A L x).1) ∧ cQ G ca th (gT1 12 A L x).2.1 n (gT1 12 A L x).2.2 D w1 w2) (fun w1 E w2 => ((E = "java/lang/IndexOutOfBoundsException" ∧ kT1 A x = 1)) ∧ cP G ca th (cB A) n L T w1 w2) rfl (fun w1 h1 => by subst h1; exact tc_loan h hfl hI hT hD hD1) (fun w1 h1 => by rw [h1]; exact ⟨_, _, h.1⟩) rfl k_555 k_1 k_552 k_553 k_554 hd_X2_loan ⟨Nat.le_of_ble_eq_true rfl, Nat.le_of_ble_eq_true rfl⟩ ⟨Nat.le_of_ble_eq_true rfl, Nat.le_of_ble_eq_true rfl⟩ (Nat.le_of_ble_eq_true rfl) dL_loan_4 (fun r => ?_) (fun E => ?_)
  · refine x_then (P2 := fun w2 => cQ G ca th (gT1 12 A L x).2.1 n (gT1 12 A L x).2.2 D w w2) (φ := kT1 A x = 0 ∧ r = (gT1 12 A L x).1) (fun w2 h2 => by obtain ⟨w1, h1, h3, h4⟩ := h2; subst h1; exact ⟨h3, h4⟩) (fun hk => ?_)
    obtain ⟨hk0, hr⟩ := hk
    subst hr
    refine x_pin (fun w1 hw1 => ?_)
    refine x_i2l Γ dL_loan_7 rfl ?_
    refine x_last (P' := fun w2 => w2 = xu w1 out (1, .inl (G.2 2, 1, .inr (.inl (vp_updL f 0 (gT1 12 A L x).1.toInt64))))) (N := 1) (f := f) Γ (fun w9 e9 => by rw [e9]; exact ⟨_, hw1.2 _ _ _ ho (by omega), rfl⟩) (by unfold vp_in; decide) dL_loan_8 ?_
    refine x_goto (tgt := 15) Γ dL_loan_9 (by decide) ?_
    refine x_iconst (v := 0) Γ dL_loan_15 (by decide) ?_
    exact x_iret Γ rfl rfl (fun w2 e2 => ⟨hk0.symm, wQ_ok hw1 ho e2⟩) ⟨Nat.le_of_ble_eq_true rfl, Nat.le_of_ble_eq_true rfl⟩ dL_loan_16
  · intro w2 H locs ls st q ce hp
    obtain ⟨w1, h1, hd, h4⟩ := hp
    subst h1
    obtain ⟨rfl, hk⟩ := hd
    refine x_catchE (P := fun w2 => cP G ca th (cB A) n L T w1 w2) Γ [] (⟨0, 9, 12, 28⟩ : ExceptionTableEntry) [] (htab.trans rfl) ?_ rfl (by decide) k_367 k_378 (fun q => ?_) w2 H locs ls st q ce h4
    · intro z hz
      cases hz
    · refine x_astore_n Γ dL_loan_12 rfl rfl (by decide) ?_
      refine x_iconst (v := 1) Γ dL_loan_13 (by decide) ?_
      refine x_iret Γ rfl rfl (fun w2 e2 => ⟨hk.symm, ?_⟩) ⟨Nat.le_of_ble_eq_true rfl, Nat.le_of_ble_eq_true rfl⟩ dL_loan_14
      unfold gT1
      rw [fin_no hk (by decide)]
      exact wQ_no hT e2 ho (by rw [hk]; decide)
set_option maxRecDepth 100000 in
theorem tw_purse {ca th : Nat → Nat} {A : xS} {n : Nat} {L : List Nat} {T : Nat → xTg} {w : xW} (h : CRaw G w ca th (cB A) n L T) (hfl : l.stackTraces = false) {x : Int32} {D : Nat} (hI : pI A n L) (hT : tgI A n D T) (hD : A 4 0 = nI D) (hD1 : D ≤ 1000) {out : Nat} {f : Nat → Int64} (ho : w out = some (1, .inl (G.2 2, 1, .inr (.inl f)))) : xMetW l G yL_purse cL_purse 4 (some .int) [(0, 9, 12, 13)] ({ frames := 9, cells := 60, slots := 400, locals := 365 } : Room) [.ref (ca 0), .int x, .ref out] w embI (fun r w' => r = kPurse x ∧ wQ G ca th out (gPurse A L x).2.1 n (gPurse A L x).2.2 D (kPurse x) (gPurse A L x).1 w w') := by
  refine xMetW_of (by decide) (Nat.le_of_ble_eq_true rfl) ?_
  intro p e s m below meth c Γ htab
  refine x_aload_n Γ dL_purse_0 rfl rfl ?_
  refine x_iconst (v := 0) Γ dL_purse_1 (by decide) ?_
  refine x_aload_n Γ dL_purse_2 rfl rfl ?_
  refine x_iload_n Γ dL_purse_3 rfl rfl ?_
  refine x_invVH (emb := embI) (ci := 3) (rm := ({ frames := 8, cells := 60, slots := 400, locals := 320 } : Room)) Γ [.int x] (fun w1 r w2 => (kPurse x = 0 ∧ r = (gPurse A L x).1) ∧ cQ G ca th (gPurse A L x).2.1 n (gPurse A L x).2.2 D w1 w2) (fun w1 E w2 => ((E = "java/lang/IllegalArgumentException" ∧ kPurse x = 1)) ∧ cP G ca th (cB A) n L T w1 w2) rfl (fun w1 h1 => by subst h1; exact tc_purse h hfl hI hT hD hD1) (fun w1 h1 => by rw [h1]; exact ⟨_, _, h.1⟩) rfl k_562 k_1 k_559 k_560 k_561 hd_X2_purse ⟨Nat.le_of_ble_eq_true rfl, Nat.le_of_ble_eq_true rfl⟩ ⟨Nat.le_of_ble_eq_true rfl, Nat.le_of_ble_eq_true rfl⟩ (Nat.le_of_ble_eq_true rfl) dL_purse_4 (fun r => ?_) (fun E => ?_)
  · refine x_then (P2 := fun w2 => cQ G ca th (gPurse A L x).2.1 n (gPurse A L x).2.2 D w w2) (φ := kPurse x = 0 ∧ r = (gPurse A L x).1) (fun w2 h2 => by obtain ⟨w1, h1, h3, h4⟩ := h2; subst h1; exact ⟨h3, h4⟩) (fun hk => ?_)
    obtain ⟨hk0, hr⟩ := hk
    subst hr
    refine x_pin (fun w1 hw1 => ?_)
    refine x_i2l Γ dL_purse_7 rfl ?_
    refine x_last (P' := fun w2 => w2 = xu w1 out (1, .inl (G.2 2, 1, .inr (.inl (vp_updL f 0 (gPurse A L x).1.toInt64))))) (N := 1) (f := f) Γ (fun w9 e9 => by rw [e9]; exact ⟨_, hw1.2 _ _ _ ho (by omega), rfl⟩) (by unfold vp_in; decide) dL_purse_8 ?_
    refine x_goto (tgt := 15) Γ dL_purse_9 (by decide) ?_
    refine x_iconst (v := 0) Γ dL_purse_15 (by decide) ?_
    exact x_iret Γ rfl rfl (fun w2 e2 => ⟨hk0.symm, wQ_ok hw1 ho e2⟩) ⟨Nat.le_of_ble_eq_true rfl, Nat.le_of_ble_eq_true rfl⟩ dL_purse_16
  · intro w2 H locs ls st q ce hp
    obtain ⟨w1, h1, hd, h4⟩ := hp
    subst h1
    obtain ⟨rfl, hk⟩ := hd
    refine x_catchE (P := fun w2 => cP G ca th (cB A) n L T w1 w2) Γ [] (⟨0, 9, 12, 13⟩ : ExceptionTableEntry) [] (htab.trans rfl) ?_ rfl (by decide) k_99 k_112 (fun q => ?_) w2 H locs ls st q ce h4
    · intro z hz
      cases hz
    · refine x_astore_n Γ dL_purse_12 rfl rfl (by decide) ?_
      refine x_iconst (v := 1) Γ dL_purse_13 (by decide) ?_
      refine x_iret Γ rfl rfl (fun w2 e2 => ⟨hk.symm, ?_⟩) ⟨Nat.le_of_ble_eq_true rfl, Nat.le_of_ble_eq_true rfl⟩ dL_purse_14
      unfold gPurse
      rw [fin_no hk (by decide)]
      exact wQ_no hT e2 ho (by rw [hk]; decide)
set_option maxRecDepth 100000 in
theorem tw_wish {ca th : Nat → Nat} {A : xS} {n : Nat} {L : List Nat} {T : Nat → xTg} {w : xW} (h : CRaw G w ca th (cB A) n L T) (hfl : l.stackTraces = false) {x : Int32} {D : Nat} (hI : pI A n L) (hT : tgI A n D T) (hD : A 4 0 = nI D) (hD1 : D ≤ 1000) {out : Nat} {f : Nat → Int64} (ho : w out = some (1, .inl (G.2 2, 1, .inr (.inl f)))) : xMetW l G yL_wish cL_wish 4 (some .int) [(0, 9, 12, 28)] ({ frames := 9, cells := 60, slots := 400, locals := 365 } : Room) [.ref (ca 0), .int x, .ref out] w embI (fun r w' => r = kWish L x ∧ wQ G ca th out (gWish A L x).2.1 n (gWish A L x).2.2 D (kWish L x) (gWish A L x).1 w w') := by
  refine xMetW_of (by decide) (Nat.le_of_ble_eq_true rfl) ?_
  intro p e s m below meth c Γ htab
  refine x_aload_n Γ dL_wish_0 rfl rfl ?_
  refine x_iconst (v := 0) Γ dL_wish_1 (by decide) ?_
  refine x_aload_n Γ dL_wish_2 rfl rfl ?_
  refine x_iload_n Γ dL_wish_3 rfl rfl ?_
  refine x_invVH (emb := embI) (ci := 3) (rm := ({ frames := 8, cells := 60, slots := 400, locals := 320 } : Room)) Γ [.int x] (fun w1 r w2 => (kWish L x = 0 ∧ r = (gWish A L x).1) ∧ cQ G ca th (gWish A L x).2.1 n (gWish A L x).2.2 D w1 w2) (fun w1 E w2 => ((E = "java/lang/IndexOutOfBoundsException" ∧ kWish L x = 1)) ∧ cP G ca th (cB A) n L T w1 w2) rfl (fun w1 h1 => by subst h1; exact tc_wish h hfl hI hT hD hD1) (fun w1 h1 => by rw [h1]; exact ⟨_, _, h.1⟩) rfl k_570 k_1 k_567 k_568 k_569 hd_X2_wish ⟨Nat.le_of_ble_eq_true rfl, Nat.le_of_ble_eq_true rfl⟩ ⟨Nat.le_of_ble_eq_true rfl, Nat.le_of_ble_eq_true rfl⟩ (Nat.le_of_ble_eq_true rfl) dL_wish_4 (fun r => ?_) (fun E => ?_)
  · refine x_then (P2 := fun w2 => cQ G ca th (gWish A L x).2.1 n (gWish A L x).2.2 D w w2) (φ := kWish L x = 0 ∧ r = (gWish A L x).1) (fun w2 h2 => by obtain ⟨w1, h1, h3, h4⟩ := h2; subst h1; exact ⟨h3, h4⟩) (fun hk => ?_)
    obtain ⟨hk0, hr⟩ := hk
    subst hr
    refine x_pin (fun w1 hw1 => ?_)
    refine x_i2l Γ dL_wish_7 rfl ?_
    refine x_last (P' := fun w2 => w2 = xu w1 out (1, .inl (G.2 2, 1, .inr (.inl (vp_updL f 0 (gWish A L x).1.toInt64))))) (N := 1) (f := f) Γ (fun w9 e9 => by rw [e9]; exact ⟨_, hw1.2 _ _ _ ho (by omega), rfl⟩) (by unfold vp_in; decide) dL_wish_8 ?_
    refine x_goto (tgt := 15) Γ dL_wish_9 (by decide) ?_
    refine x_iconst (v := 0) Γ dL_wish_15 (by decide) ?_
    exact x_iret Γ rfl rfl (fun w2 e2 => ⟨hk0.symm, wQ_ok hw1 ho e2⟩) ⟨Nat.le_of_ble_eq_true rfl, Nat.le_of_ble_eq_true rfl⟩ dL_wish_16
  · intro w2 H locs ls st q ce hp
    obtain ⟨w1, h1, hd, h4⟩ := hp
    subst h1
    obtain ⟨rfl, hk⟩ := hd
    refine x_catchE (P := fun w2 => cP G ca th (cB A) n L T w1 w2) Γ [] (⟨0, 9, 12, 28⟩ : ExceptionTableEntry) [] (htab.trans rfl) ?_ rfl (by decide) k_367 k_378 (fun q => ?_) w2 H locs ls st q ce h4
    · intro z hz
      cases hz
    · refine x_astore_n Γ dL_wish_12 rfl rfl (by decide) ?_
      refine x_iconst (v := 1) Γ dL_wish_13 (by decide) ?_
      refine x_iret Γ rfl rfl (fun w2 e2 => ⟨hk.symm, ?_⟩) ⟨Nat.le_of_ble_eq_true rfl, Nat.le_of_ble_eq_true rfl⟩ dL_wish_14
      unfold gWish
      rw [fin_no hk (by decide)]
      exact wQ_no hT e2 ho (by rw [hk]; decide)
end XWL

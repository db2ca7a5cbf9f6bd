section XC6
theorem ldF_cB (A : xS) (x : Int32) : ∀ n, ldF (cB A) x n = ldF A x n
  | 0 => rfl
  | n + 1 => by
    rw [ldF, ldF, ldF_cB A x n]
    rfl
theorem fDE_move {B B' : xS} {t : Nat} {L : List Nat} (h1 : B' 15 t = -1) (h2 : ∀ q, q ≠ t → B' 15 q = B 15 q) : fDE B' L = fFor t (fDE B L) := by
  unfold fDE fFor
  rw [List.filter_filter]
  refine List.filter_congr (fun q hq => ?_)
  by_cases e : q = t
  · subst e
    simp [h1]
  · rw [h2 q e, show (q == t) = false from beq_eq_false_iff_ne.mpr e]
    simp
theorem fDE_all {A : xS} {n : Nat} {L : List Nat} (h : lI A n L) : fDE (cB A) L = L := by
  unfold fDE
  refine List.filter_eq_self.mpr (fun q hq => ?_)
  obtain ⟨-, c, hc, hg⟩ := h.2.2 q hq
  rw [cB_j (by decide), hg, show (nI c == -1) = false from beq_eq_false_iff_ne.mpr (nI_nm1 (by omega))]
  rfl
theorem fDay_eq (n : Nat) (A : xS) (L : List Nat) : fDay n (0, A, L) = ((fCal n (0, fOwe n A, L)).1 + (fUnf n (0, (fCal n (0, fOwe n A, L)).2)).1,
    fBeg n (mU (fDrv n (fUnf n (0, (fCal n (0, fOwe n A, L)).2)).2.2 ((fUnf n (0, (fCal n (0, fOwe n A, L)).2)).2.1 1 0, (fUnf n (0, (fCal n (0, fOwe n A, L)).2)).2)).2.1 4 0 ((fDrv n (fUnf n (0, (fCal n (0, fOwe n A, L)).2)).2.2 ((fUnf n (0, (fCal n (0, fOwe n A, L)).2)).2.1 1 0, (fUnf n (0, (fCal n (0, fOwe n A, L)).2)).2)).2.1 4 0 + 1)),
    (fDrv n (fUnf n (0, (fCal n (0, fOwe n A, L)).2)).2.2 ((fUnf n (0, (fCal n (0, fOwe n A, L)).2)).2.1 1 0, (fUnf n (0, (fCal n (0, fOwe n A, L)).2)).2)).2.2) := by
  have h := fUnf_shift (fCal n (0, fOwe n A, L)).1 (fCal n (0, fOwe n A, L)).2 n
  have h2 : fUnf n (fCal n (0, fOwe n A, L)) = ((fCal n (0, fOwe n A, L)).1 + (fUnf n (0, (fCal n (0, fOwe n A, L)).2)).1, (fUnf n (0, (fCal n (0, fOwe n A, L)).2)).2) := h
  unfold fDay
  rw [h2]
/-- the four steps of a day's end -/
theorem fDay_P {A : xS} {n D : Nat} {L : List Nat} (hI : pI A n L) (hC : calI A n) (hD : A 4 0 = nI D) (hD1 : D + 1 ≤ 1000) :
    (pI (fOwe n A) n L ∧ calI (fOwe n A) n ∧ fOwe n A 4 0 = nI D) ∧
    (∀ V, V = fCal n (0, fOwe n A, L) → pI V.2.1 n V.2.2 ∧ calS V.2.1 n ∧ V.2.1 4 0 = nI D ∧ phv n V ≤ phi A n L) ∧
    (∀ V, V = fUnf n (0, (fCal n (0, fOwe n A, L)).2) → pI V.2.1 n V.2.2 ∧ calS V.2.1 n ∧ V.2.1 4 0 = nI D ∧ phv n V ≤ phv n (fCal n (0, fOwe n A, L))) ∧
    (∀ V, V = fDrv n (fUnf n (0, (fCal n (0, fOwe n A, L)).2)).2.2 ((fUnf n (0, (fCal n (0, fOwe n A, L)).2)).2.1 1 0, (fUnf n (0, (fCal n (0, fOwe n A, L)).2)).2) → pI V.2.1 n V.2.2 ∧ calS V.2.1 n ∧ V.2.1 4 0 = nI D ∧ phv n V ≤ phv n (fUnf n (0, (fCal n (0, fOwe n A, L)).2))) ∧
    (∀ V, V = fDay n (0, A, L) → pI V.2.1 n V.2.2 ∧ calI V.2.1 n ∧ V.2.1 4 0 = nI (D + 1) ∧ phv n V ≤ phi A n L) := by
  have a1 : pI (fOwe n A) n L ∧ calI (fOwe n A) n ∧ fOwe n A 4 0 = nI D := ⟨pI.owes hI n (Nat.le_refl n), by unfold calI; rw [fOwe_j (by decide), fOwe_j (by decide)]; exact hC, by rw [fOwe_j (by decide)]; exact hD⟩
  have a2 : ∀ V, V = fCal n (0, fOwe n A, L) → pI V.2.1 n V.2.2 ∧ calS V.2.1 n ∧ V.2.1 4 0 = nI D ∧ phv n V ≤ phi A n L := by
    intro V hV
    subst hV
    obtain ⟨b1, b2, b3⟩ := fCal_P (0 : Int32) a1.1 a1.2.1 n (Nat.le_refl n)
    refine ⟨b1, b3, ?_, ?_⟩
    · rw [(fCal_I (n := n) (0, fOwe n A, L) n a1.1.2.1).1 4 rfl]; exact a1.2.2
    · have := fCal_phi (n := n) (0, fOwe n A, L) 0 n (by omega)
      rw [Nat.zero_add] at this
      exact Nat.le_trans this (Nat.le_of_eq phi_owe)
  obtain ⟨c1, c2, c3, c4⟩ := a2 _ rfl
  have a3 : ∀ V, V = fUnf n (0, (fCal n (0, fOwe n A, L)).2) → pI V.2.1 n V.2.2 ∧ calS V.2.1 n ∧ V.2.1 4 0 = nI D ∧ phv n V ≤ phv n (fCal n (0, fOwe n A, L)) := by
    intro V hV
    subst hV
    obtain ⟨b1, b2⟩ := fUnf_P (0 : Int32) c1 c2 n (Nat.le_refl n)
    refine ⟨b1, b2, ?_, ?_⟩
    · rw [(fUnf_I (n := n) (0, (fCal n (0, fOwe n A, L)).2) n c1.2.1).1 4 rfl]; exact c3
    · have := fUnf_phi (n := n) (0, (fCal n (0, fOwe n A, L)).2) 0 n (by omega)
      rw [Nat.zero_add] at this
      exact this
  obtain ⟨e1, e2, e3, e4⟩ := a3 _ rfl
  have a4 : ∀ V, V = fDrv n (fUnf n (0, (fCal n (0, fOwe n A, L)).2)).2.2 ((fUnf n (0, (fCal n (0, fOwe n A, L)).2)).2.1 1 0, (fUnf n (0, (fCal n (0, fOwe n A, L)).2)).2) → pI V.2.1 n V.2.2 ∧ calS V.2.1 n ∧ V.2.1 4 0 = nI D ∧ phv n V ≤ phv n (fUnf n (0, (fCal n (0, fOwe n A, L)).2)) := by
    intro V hV
    subst hV
    obtain ⟨b1, b2, b3⟩ := fDrv_P (n := n) (fUnf n (0, (fCal n (0, fOwe n A, L)).2)).2.2 ((fUnf n (0, (fCal n (0, fOwe n A, L)).2)).2.1 1 0, (fUnf n (0, (fCal n (0, fOwe n A, L)).2)).2) e1 e2 e1.2.1.2.1 (fun q hq => hq)
    refine ⟨b1, b2, ?_, b3⟩
    rw [(fDrv_I (n := n) (fUnf n (0, (fCal n (0, fOwe n A, L)).2)).2.2 ((fUnf n (0, (fCal n (0, fOwe n A, L)).2)).2.1 1 0, (fUnf n (0, (fCal n (0, fOwe n A, L)).2)).2) e1.2.1).1 4 rfl]; exact e3
  obtain ⟨f1, f2, f3, f4⟩ := a4 _ rfl
  refine ⟨a1, a2, a3, a4, fun V hV => ?_⟩
  rw [fDay_eq] at hV
  subst hV
  refine ⟨?_, ?_, ?_, ?_⟩
  · show pI (fBeg n (mU _ 4 0 (_ + 1))) n _
    rw [f3, nI_1]; exact f1.tick f3 hD1
  · show calI (fBeg n (mU _ 4 0 (_ + 1))) n
    rw [f3, nI_1]; exact f2.tick f3 hD1
  · show fBeg n (mU _ 4 0 (_ + 1)) 4 0 = _
    rw [fBeg_j (by decide), mU_eq, f3, nI_1]
  · refine Nat.le_trans ?_ (Nat.le_trans f4 (Nat.le_trans e4 c4))
    show phi (fBeg n _) n _ ≤ phi _ n _
    unfold phi
    rw [atC_same (fun i => by rw [fBeg_j (by decide), mU_j (by decide)])]
    exact Nat.le_refl _
variable {l : Launch} {G : xG}
set_option maxRecDepth 100000 in
theorem t_driveVan {ca th : Nat → Nat} {A : xS} {n : Nat} {L : List Nat} {T : Nat → xTg} {w : xW} (h : CRaw G w ca th (cB A) n L T) {kb : Nat} {D : Nat} (hI : pI A n L) (hT : tgI A n D T) (hD : A 4 0 = nI D) (hD1 : D ≤ 1000) (hC : calS A n) (hkb : phi A n L ≤ phv n (fDrv n L (A 1 0, A, L)) + kb) : xMet l G yX2_driveVan cX2_driveVan 5 none ({ frames := 5, cells := kb, slots := 3 * kb, locals := 170 } : Room) [.ref (ca 0)] w embV (fun _ w' => cQ G ca th (fDrv n L (A 1 0, A, L)).2.1 n (fDrv n L (A 1 0, A, L)).2.2 D w w') := by
  refine xMet_of (by decide) (Nat.le_of_ble_eq_true rfl) ?_
  intro p e s m below meth c Γ hnm
  have hn := hI.1.2.1
  have hlL : L.length ≤ 24 := Nat.le_trans hI.2.1.1 hn
  have hL : ∀ q ∈ L, q < n := fun q hq => (hI.2.1.2.2 q hq).1
  refine c_in h ?_
  have loop : ∀ R P left A' L' T' lx, P ++ R = L → pI A' n L' → calS A' n → sameR A A' → tgI A' n D T' → fDE (cB A') L = L' → (∀ q ∈ R, q ∈ L') → fDrv n R (left, A', L') = (fDrv n L (A 1 0, A, L)) → phi A' n L' ≤ phi A n L → xpick lx [0, 1, 2] = [(0, .ref (ca 0)), (1, .int left), (2, .int (nI P.length))] → xJ p l e ({ frames := 5, cells := kb, slots := 3 * kb, locals := 170 } : Room) s m ([.ref (ca 0)] : List Value).toArray below meth c G 5 (MQ below (xQ G embV (fun _ w' => cQ G ca th (fDrv n L (A 1 0, A, L)).2.1 n (fDrv n L (A 1 0, A, L)).2.2 D w w')) ([.ref (ca 0)] : List Value).toArray s ({ frames := 5, cells := kb, slots := 3 * kb, locals := 170 } : Room).cells ({ frames := 5, cells := kb, slots := 3 * kb, locals := 170 } : Room).slots (xA G)) (cP G ca th (cB A') n L T' w) (phi A n L - phi A' n L') (3 * (phi A n L - phi A' n L')) 7 lx [] := by
    intro R
    induction R with
    | nil =>
      intro P left A' L' T' lx hPR gI gC gS gT gE gR gF gp hlx
      rw [fDrv] at gF
      rw [← gF] at hkb
      have hkb : phi A n L ≤ phi A' n L' + kb := hkb
      rw [List.append_nil] at hPR
      refine x_lv [0, 1, 2] hlx ?_
      rw [hPR]
      refine x_iload_n Γ dX2_driveVan_7 rfl rfl ?_
      refine x_aload_n Γ dX2_driveVan_8 rfl rfl ?_
      refine c_this Γ 3 rfl (by decide) k_61 rfl dX2_driveVan_9 ?_
      refine x_invV (emb := embI) (ci := 0) (rm := ({ frames := 0, cells := 0, slots := 0, locals := 0 } : Room)) Γ [] (fun w1 r w2 => r = nI (L).length ∧ w2 = w1) rfl (fun w1 h1 => t_size h1.1.2.2.2.2.1) c_lst4 rfl k_91 k_4 k_88 k_89 k_90 hd_Jx4a65c_size_8abf5 ⟨Nat.le_of_ble_eq_true rfl, Nat.le_of_ble_eq_true rfl⟩ ⟨by show phi A n L - phi A' n L' ≤ kb; omega, by show 3 * (phi A n L - phi A' n L') ≤ 3 * kb; omega⟩ (Nat.le_of_ble_eq_true rfl) dX2_driveVan_12 (fun r => ?_)
      refine m_same (fun e9 => ?_)
      subst e9
      refine x_icmp_ge (tgt := 102) Γ dX2_driveVan_15 (by decide) (fun c15 => ?_) (fun c15 => absurd (Int32.le_refl _) c15)
      refine x_aload_n Γ dX2_driveVan_102 rfl rfl ?_
      refine x_invV (emb := embV) (ci := 3) (rm := ({ frames := 3, cells := 0, slots := 0, locals := 110 } : Room)) Γ [] (fun w1 _ w2 => cP G ca th (cB A') n (fDE (cB A') L) (T') w1 w2) rfl (fun w1 h1 => t_dropEnded h1.1 hn hL hlL) c_self rfl k_409 k_1 k_406 k_408 s_10 hd_X2_dropEndedWishes ⟨Nat.le_of_ble_eq_true rfl, Nat.le_of_ble_eq_true rfl⟩ ⟨by show phi A n L - phi A' n L' ≤ kb; omega, by show 3 * (phi A n L - phi A' n L') ≤ 3 * kb; omega⟩ (Nat.le_of_ble_eq_true rfl) dX2_driveVan_103 (fun _ => ?_)
      refine c_then0 (B' := cB A') (L' := fDE (cB A') L) (T' := T') ?_
      refine x_vret Γ rfl (fun w2 e2 => ?_) ⟨by show phi A n L - phi A' n L' ≤ kb; omega, by show 3 * (phi A n L - phi A' n L') ≤ 3 * kb; omega⟩ dX2_driveVan_106
      rw [gE] at e2
      rw [← gF]
      exact ⟨⟨T', gT, e2.1⟩, e2.2⟩
    | cons t rr ih =>
      intro P left A' L' T' lx hPR gI gC gS gT gE gR gF gp hlx
      have hnd := hI.2.1.2.1
      rw [← hPR] at hnd
      have hnd2 := List.nodup_cons.mp (List.nodup_append.mp hnd).2.1
      have htL : t ∈ L' := gR t List.mem_cons_self
      have hat : L[P.length]? = some t := by rw [← hPR, List.getElem?_append_right (Nat.le_refl _), Nat.sub_self]; rfl
      have hPl := (List.getElem?_eq_some_iff.mp hat).1
      obtain ⟨htn, ci, hci, hg⟩ := gI.2.1.2.2 t htL
      have hh4 : A' 4 0 = nI D := (congrFun (gS 4 rfl) 0).trans hD
      have hF0 := fDrv_P (n := n) (t :: rr) (left, A', L') gI gC (List.nodup_append.mp hnd).2.1 gR
      rw [gF] at hF0
      have hph : phv n (fDrv n L (A 1 0, A, L)) ≤ phi A' n L' := hF0.2.2
      have hno : ∀ lx, ¬ fDrvT n A' left t → xpick lx [0, 1, 2] = [(0, .ref (ca 0)), (1, .int left), (2, .int (nI P.length))] → xJ p l e ({ frames := 5, cells := kb, slots := 3 * kb, locals := 170 } : Room) s m ([.ref (ca 0)] : List Value).toArray below meth c G 5 (MQ below (xQ G embV (fun _ w' => cQ G ca th (fDrv n L (A 1 0, A, L)).2.1 n (fDrv n L (A 1 0, A, L)).2.2 D w w')) ([.ref (ca 0)] : List Value).toArray s ({ frames := 5, cells := kb, slots := 3 * kb, locals := 170 } : Room).cells ({ frames := 5, cells := kb, slots := 3 * kb, locals := 170 } : Room).slots (xA G)) (cP G ca th (cB A') n L T' w) (phi A n L - phi A' n L') (3 * (phi A n L - phi A' n L')) 96 lx [] := by
        intro lx hN hlx
        rw [fDrv, if_neg hN] at gF
        refine x_lv [0, 1, 2] hlx ?_
        refine x_iinc (v := _ + 1) Γ dX2_driveVan_96 rfl rfl rfl (by decide) ?_
        rw [nI_1]
        refine x_goto (tgt := 7) Γ dX2_driveVan_99 (by decide) ?_
        exact ih (P ++ [t]) left A' L' T' _ (by rw [List.append_assoc]; exact hPR) gI gC gS gT gE (fun q hq => gR q (List.mem_cons_of_mem _ hq)) gF gp (by rw [List.length_append]; rfl)
      refine x_lv [0, 1, 2] hlx ?_
      refine x_iload_n Γ dX2_driveVan_7 rfl rfl ?_
      refine x_aload_n Γ dX2_driveVan_8 rfl rfl ?_
      refine c_this Γ 3 rfl (by decide) k_61 rfl dX2_driveVan_9 ?_
      refine x_invV (emb := embI) (ci := 0) (rm := ({ frames := 0, cells := 0, slots := 0, locals := 0 } : Room)) Γ [] (fun w1 r w2 => r = nI (L).length ∧ w2 = w1) rfl (fun w1 h1 => t_size h1.1.2.2.2.2.1) c_lst4 rfl k_91 k_4 k_88 k_89 k_90 hd_Jx4a65c_size_8abf5 ⟨Nat.le_of_ble_eq_true rfl, Nat.le_of_ble_eq_true rfl⟩ ⟨by show phi A n L - phi A' n L' ≤ kb; omega, by show 3 * (phi A n L - phi A' n L') ≤ 3 * kb; omega⟩ (Nat.le_of_ble_eq_true rfl) dX2_driveVan_12 (fun r => ?_)
      refine m_same (fun e9 => ?_)
      subst e9
      refine x_icmp_ge (tgt := 102) Γ dX2_driveVan_15 (by decide) (fun c15 => absurd c15 (nI_ge (by omega) (by omega))) (fun c15 => ?_)
      refine x_aload_n Γ dX2_driveVan_18 rfl rfl ?_
      refine c_this Γ 3 rfl (by decide) k_61 rfl dX2_driveVan_19 ?_
      refine x_iload_n Γ dX2_driveVan_22 rfl rfl ?_
      refine x_invV (emb := embA) (ci := 0) (rm := ({ frames := 2, cells := 0, slots := 0, locals := 43 } : Room)) Γ [.int (nI P.length)] (fun w1 r w2 => r = th t ∧ w2 = w1) rfl (fun w1 h1 => by have h9 := t_get (l := l) (j := P.length) h1.1.2.2.2.2.1 (List.getElem?_eq_some_iff.mp hat).1; rw [List.getD_eq_getElem?_getD, hat] at h9; exact h9) c_lst4 rfl k_209 k_4 k_206 k_207 k_208 hd_Jx4a65c_get_915e3 ⟨Nat.le_of_ble_eq_true rfl, Nat.le_of_ble_eq_true rfl⟩ ⟨by show phi A n L - phi A' n L' ≤ kb; omega, by show 3 * (phi A n L - phi A' n L') ≤ 3 * kb; omega⟩ (Nat.le_of_ble_eq_true rfl) dX2_driveVan_23 (fun r => ?_)
      refine m_same (fun e9 => ?_)
      subst e9
      refine x_cast (C := RX1) (T := TX1) (N := 12) (ci := 2) Γ rfl (c_thing htn) k_220 dX2_driveVan_26 ?_
      refine x_astore_n Γ dX2_driveVan_29 rfl rfl (by decide) ?_
      refine x_aload_n Γ dX2_driveVan_30 rfl rfl ?_
      refine c_getT Γ 2 htn (fun _ => rfl) (by decide) k_266 dX2_driveVan_31 ?_
      refine x_iload_n Γ dX2_driveVan_34 rfl rfl ?_
      refine x_icmp_gt (tgt := 57) Γ dX2_driveVan_35 (by decide) (fun c35 => ?_) (fun c35 => ?_)
      · refine x_iconst (v := 0) Γ dX2_driveVan_57 (by decide) ?_
        refine x_istore Γ dX2_driveVan_58 rfl (by decide) ?_
        refine x_iload Γ dX2_driveVan_60 rfl ?_
        refine x_if_eq (tgt := 96) Γ dX2_driveVan_62 (by decide) (fun _ => ?_) (fun z => absurd rfl z)
        exact hno _ (fun z => absurd c35 (Int32.not_lt.mpr z.2.1)) rfl
      · refine x_aload_n Γ dX2_driveVan_38 rfl rfl ?_
        refine x_aload_n Γ dX2_driveVan_39 rfl rfl ?_
        refine c_getT Γ 7 htn (fun _ => rfl) (by decide) k_275 dX2_driveVan_40 ?_
        refine x_aload_n Γ dX2_driveVan_43 rfl rfl ?_
        refine c_getT Γ 2 htn (fun _ => rfl) (by decide) k_266 dX2_driveVan_44 ?_
        refine x_invV (emb := embI) (ci := 3) (rm := ({ frames := 4, cells := 0, slots := 0, locals := 120 } : Room)) Γ [.int (cB A' 15 t), .int (cB A' 7 t)] (fun w1 r w2 => bq (rIn 0 4 (cB A' 15 t) ∧ ldF (cB A') (cB A' 15 t) n + cB A' 7 t ≤ cB A' 0 (ix (cB A' 15 t))) r ∧ cP G ca th (cB A') n (L) (T') w1 w2) rfl (fun w1 h1 => t_hasRoom h1.1 hn) c_self rfl k_201 k_1 k_198 k_200 s_1 hd_X2_hasRoomFor ⟨Nat.le_of_ble_eq_true rfl, Nat.le_of_ble_eq_true rfl⟩ ⟨by show phi A n L - phi A' n L' ≤ kb; omega, by show 3 * (phi A n L - phi A' n L') ≤ 3 * kb; omega⟩ (Nat.le_of_ble_eq_true rfl) dX2_driveVan_47 (fun r => ?_)
        refine c_then (B' := cB A') (L' := L) (T' := T') (fun qH => ?_)
        refine x_if_eq (tgt := 57) Γ dX2_driveVan_50 (by decide) (fun c50 => ?_) (fun c50 => ?_)
        · refine x_iconst (v := 0) Γ dX2_driveVan_57 (by decide) ?_
          refine x_istore Γ dX2_driveVan_58 rfl (by decide) ?_
          refine x_iload Γ dX2_driveVan_60 rfl ?_
          refine x_if_eq (tgt := 96) Γ dX2_driveVan_62 (by decide) (fun _ => ?_) (fun z => absurd rfl z)
          exact hno _ (fun z => qH.eq c50 ⟨⟨by show 0 ≤ A' 15 t; rw [hg]; exact nI_pos' (by omega), by show A' 15 t ≤ 4; rw [hg]; exact nI_le (b := 4) (by omega) (by omega)⟩, by rw [ldF_cB]; exact z.2.2⟩) rfl
        · have hRm := (qH.ne c50).2
          rw [ldF_cB] at hRm
          refine x_iconst (v := 1) Γ dX2_driveVan_53 (by decide) ?_
          refine x_goto (tgt := 58) Γ dX2_driveVan_54 (by decide) ?_
          refine x_istore Γ dX2_driveVan_58 rfl (by decide) ?_
          refine x_iload Γ dX2_driveVan_60 rfl ?_
          refine x_if_eq (tgt := 96) Γ dX2_driveVan_62 (by decide) (fun c62 => absurd c62 (by decide)) (fun c62 => ?_)
          refine x_aload_n Γ dX2_driveVan_65 rfl rfl ?_
          refine x_invVN (emb := embI) (ci := 2) (rm := ({ frames := 0, cells := 0, slots := 0, locals := 0 } : Room)) Γ [] (fun w1 r w2 => bq (0 < (cB A') 12 t) r ∧ w2 = w1) rfl (fun w1 h1 => by obtain ⟨b9, g1, g2⟩ := h1.1.2.2.2.2.2 t htn; exact t_hasLoan g1 rfl) (c_thing htn) rfl k_400 k_14 k_397 k_399 s_8 hd_X1_hasLoan ⟨Nat.le_of_ble_eq_true rfl, Nat.le_of_ble_eq_true rfl⟩ ⟨by show phi A n L - phi A' n L' ≤ kb; omega, by show 3 * (phi A n L - phi A' n L') ≤ 3 * kb; omega⟩ (Nat.le_of_ble_eq_true rfl) dX2_driveVan_66 (fun r => ?_)
          refine m_same (fun qL => ?_)
          refine x_if_ne (tgt := 96) Γ dX2_driveVan_69 (by decide) (fun c69 => ?_) (fun c69 => ?_)
          · exact hno _ (fun z => c69 (qL.zero (show ¬ 0 < A' 12 t by rw [z.1]; decide))) rfl
          · have hD2 : fDrvT n A' left t := ⟨(gI.2.2.2.2.2.1 t htn).elim id (fun z => absurd z.1 (qL.eq (by first | exact c69 | exact Decidable.not_not.mp c69))), Int32.not_lt.mp c35, hRm⟩
            rw [fDrv, if_pos hD2] at gF
            have hF1 := fDrv_P (n := n) rr (left - A' 7 t, fMove A' t, fFor t L') (gI.move htL) gC.move hnd2.2 (fun q hq => fFor_in (gR q (List.mem_cons_of_mem _ hq)) (fun z => hnd2.1 (z ▸ hq)))
            have hph1 : phv n (fDrv n rr (left - A' 7 t, fMove A' t, fFor t L')) ≤ phi (fMove A' t) n (fFor t L') := hF1.2.2
            have gF : fDrv n rr (left - A' 7 t, fMove A' t, fFor t L') = (fDrv n L (A 1 0, A, L)) := gF
            rw [gF] at hph1
            have hpm := phi_move gI htL
            refine x_iload_n Γ dX2_driveVan_72 rfl rfl ?_
            refine x_aload_n Γ dX2_driveVan_73 rfl rfl ?_
            refine c_getT Γ 2 htn (fun _ => rfl) (by decide) k_266 dX2_driveVan_74 ?_
            refine x_isub Γ dX2_driveVan_77 ?_
            refine x_istore_n Γ dX2_driveVan_78 rfl rfl (by decide) ?_
            refine x_aload_n Γ dX2_driveVan_79 rfl rfl ?_
            refine x_aload_n Γ dX2_driveVan_80 rfl rfl ?_
            refine c_getT Γ 7 htn (fun _ => rfl) (by decide) k_275 dX2_driveVan_81 ?_
            refine x_aload_n Γ dX2_driveVan_84 rfl rfl ?_
            refine c_this Γ 5 rfl (by decide) k_63 rfl dX2_driveVan_85 ?_
            refine x_invVN (emb := embV) (ci := 2) (rm := ({ frames := 2, cells := 1, slots := 3, locals := 60 } : Room)) Γ [.int (cB A' 15 t), .int (cB A' 4 0)] (fun w1 _ w2 => cP G ca th (mU (cB A') 9 t (cB A' 15 t)) n (L) (tUp T' t (cB A' 15 t, cB A' 4 0 + 1)) w1 w2) rfl (fun w1 h1 => t_cmove h1.1 htn) (c_thing htn) rfl k_422 k_14 k_419 k_421 s_12 hd_X1_moveTo ⟨Nat.le_of_ble_eq_true rfl, Nat.le_of_ble_eq_true rfl⟩ ⟨by show phi A n L - phi A' n L' + 1 ≤ kb; omega, by show 3 * (phi A n L - phi A' n L') + 3 ≤ 3 * kb; omega⟩ (Nat.le_of_ble_eq_true rfl) dX2_driveVan_88 (fun _ => ?_)
            refine c_then0 (B' := mU (cB A') 9 t (cB A' 15 t)) (L' := L) (T' := tUp T' t (cB A' 15 t, cB A' 4 0 + 1)) ?_
            refine x_aload_n Γ dX2_driveVan_91 rfl rfl ?_
            refine x_iconst (v := (-1)) Γ dX2_driveVan_92 (by decide) ?_
            refine c_putT Γ 7 15 htn (fun _ => by simp [tFs, mU]) (by decide) (by decide) k_275 rfl rfl dX2_driveVan_93 ?_
            refine c_at (A := fMove A' t) (by unfold fMove; rw [cB_mU (by decide) (by decide), cB_mU (by decide) (by decide)]; rfl) ?_
            refine x_wide (k' := phi A n L - phi (fMove A' t) n (fFor t L')) (n' := 3 * (phi A n L - phi (fMove A' t) n (fFor t L'))) (by show phi A n L - phi A' n L' + 1 ≤ phi A n L - phi (fMove A' t) n (fFor t L'); omega) (by show 3 * (phi A n L - phi A' n L') + 3 ≤ 3 * (phi A n L - phi (fMove A' t) n (fFor t L')); omega) ?_
            refine x_iinc (v := _ + 1) Γ dX2_driveVan_96 rfl rfl rfl (by decide) ?_
            rw [nI_1]
            refine x_goto (tgt := 7) Γ dX2_driveVan_99 (by decide) ?_
            refine ih (P ++ [t]) (left - A' 7 t) (fMove A' t) (fFor t L') (tUp T' t (cB A' 15 t, cB A' 4 0 + 1)) _ (by rw [List.append_assoc]; exact hPR) (gI.move htL) gC.move (gS.tr (sameR_move A' t)) ?_ ?_ (fun q hq => fFor_in (gR q (List.mem_cons_of_mem _ hq)) (fun z => hnd2.1 (z ▸ hq))) gF (by omega) (by rw [List.length_append]; rfl)
            · rw [show cB A' 4 0 = nI D from hh4, nI_1]
              exact gT.move hD1 (fun i hi => by unfold fMove; rw [mU_j (by decide), mU_i hi]) (by unfold fMove; rw [mU_j (by decide), mU_eq]; rfl) (by unfold fMove; rw [mU_j (by decide), mU_j (by decide)])
            · rw [← gE]
              exact fDE_move (by rw [cB_j (by decide)]; unfold fMove; rw [mU_eq]) (fun q hq => by rw [cB_j (by decide), cB_j (by decide)]; exact move_15 hq)
  refine x_aload_n Γ dX2_driveVan_0 rfl rfl ?_
  refine c_this Γ 4 rfl (by decide) k_62 rfl dX2_driveVan_1 ?_
  refine x_istore_n Γ dX2_driveVan_4 rfl rfl (by decide) ?_
  refine x_iconst (v := 0) Γ dX2_driveVan_5 (by decide) ?_
  refine x_istore_n Γ dX2_driveVan_6 rfl rfl (by decide) ?_
  refine x_wide (k' := phi A n L - phi A n L) (n' := 3 * (phi A n L - phi A n L)) (Nat.zero_le _) (Nat.zero_le _) ?_
  exact loop L [] (A 1 0) A L T _ rfl hI hC sameR.rf hT (fDE_all hI.2.1) (fun q hq => hq) rfl (Nat.le_refl _) rfl
set_option maxRecDepth 100000 in
theorem t_cendDay {ca th : Nat → Nat} {A : xS} {n : Nat} {L : List Nat} {T : Nat → xTg} {w : xW} (h : CRaw G w ca th (cB A) n L T) {kb : Nat} {D : Nat} (hI : pI A n L) (hT : tgI A n D T) (hD : A 4 0 = nI D) (hD1 : D + 1 ≤ 1000) (hC : calI A n) (hkb : phi A n L ≤ phv n (fDay n (0, A, L)) + kb) : xMet l G yX2_endDay cX2_endDay 2 (some .int) ({ frames := 7, cells := kb, slots := 3 * kb, locals := 270 } : Room) [.ref (ca 0)] w embI (fun r w' => r = (fDay n (0, A, L)).1 ∧ cQ G ca th (fDay n (0, A, L)).2.1 n (fDay n (0, A, L)).2.2 (D + 1) w w') := by
  refine xMet_of (by decide) (Nat.le_of_ble_eq_true rfl) ?_
  intro p e s m below meth c Γ hnm
  obtain ⟨⟨p1, p2, p3⟩, q1, q2, q3, q4⟩ := fDay_P hI hC hD hD1
  obtain ⟨c1, c2, c3, c4⟩ := q1 _ rfl
  obtain ⟨e1, e2, e3, e4⟩ := q2 _ rfl
  obtain ⟨f1, f2, f3, f4⟩ := q3 _ rfl
  have hfe : phv n (fDay n (0, A, L)) = phv n (fDrv n (fUnf n (0, (fCal n (0, fOwe n A, L)).2)).2.2 ((fUnf n (0, (fCal n (0, fOwe n A, L)).2)).2.1 1 0, (fUnf n (0, (fCal n (0, fOwe n A, L)).2)).2)) := by
    rw [fDay_eq]
    show phi (fBeg n _) n _ = phi _ n _
    unfold phi
    rw [atC_same (fun i => by rw [fBeg_j (by decide), mU_j (by decide)])]
  have hpo : phi (fOwe n A) n L = phi A n L := phi_owe
  have hT1 : tgI (fOwe n A) n D T := hT.same (fOwe_j (by decide)) (fOwe_j (by decide))
  obtain ⟨k1, hk1⟩ : ∃ k1, k1 = phi A n L - phv n (fCal n (0, fOwe n A, L)) := ⟨_, rfl⟩
  obtain ⟨k2, hk2⟩ : ∃ k2, k2 = phv n (fCal n (0, fOwe n A, L)) - phv n (fUnf n (0, (fCal n (0, fOwe n A, L)).2)) := ⟨_, rfl⟩
  obtain ⟨k3, hk3⟩ : ∃ k3, k3 = phv n (fUnf n (0, (fCal n (0, fOwe n A, L)).2)) - phv n (fDrv n (fUnf n (0, (fCal n (0, fOwe n A, L)).2)).2.2 ((fUnf n (0, (fCal n (0, fOwe n A, L)).2)).2.1 1 0, (fUnf n (0, (fCal n (0, fOwe n A, L)).2)).2)) := ⟨_, rfl⟩
  rw [hfe] at hkb
  refine c_in h ?_
  refine x_aload_n Γ dX2_endDay_0 rfl rfl ?_
  refine x_invV (emb := embV) (ci := 3) (rm := ({ frames := 3, cells := 0, slots := 0, locals := 80 } : Room)) Γ [] (fun w1 _ w2 => cP G ca th (cB (fOwe n A)) n (L) (T) w1 w2) rfl (fun w1 h1 => t_oweFees h1.1 hI) c_self rfl k_498 k_1 k_495 k_497 s_18 hd_X2_oweFees ⟨Nat.le_of_ble_eq_true rfl, Nat.le_of_ble_eq_true rfl⟩ ⟨Nat.zero_le _, Nat.zero_le _⟩ (Nat.le_of_ble_eq_true rfl) dX2_endDay_1 (fun _ => ?_)
  refine c_then0 (B' := cB (fOwe n A)) (L' := L) (T' := T) ?_
  refine x_aload_n Γ dX2_endDay_4 rfl rfl ?_
  refine x_invV (emb := embI) (ci := 3) (rm := ({ frames := 6, cells := k1, slots := 3 * k1, locals := 230 } : Room)) Γ [] (fun w1 r w2 => r = (fCal n (0, fOwe n A, L)).1 ∧ cQ G ca th ((fCal n (0, fOwe n A, L)).2.1) n ((fCal n (0, fOwe n A, L)).2.2) D w1 w2) rfl (fun w1 h1 => t_sellCalled h1.1 p1 hT1 p3 (by omega) p2 (by rw [hpo]; omega)) c_self rfl k_502 k_1 k_499 k_501 s_19 hd_X2_sellCalled ⟨Nat.le_of_ble_eq_true rfl, Nat.le_of_ble_eq_true rfl⟩ ⟨by show 0 + k1 ≤ kb; omega, by show 0 + 3 * k1 ≤ 3 * kb; omega⟩ (Nat.le_of_ble_eq_true rfl) dX2_endDay_5 (fun r => ?_)
  refine c_thenQ1 (A' := (fCal n (0, fOwe n A, L)).2.1) (L' := (fCal n (0, fOwe n A, L)).2.2) (D := D) (fun e5 T5 hT5 => ?_)
  refine x_aload_n Γ dX2_endDay_8 rfl rfl ?_
  refine x_invV (emb := embI) (ci := 3) (rm := ({ frames := 6, cells := k2, slots := 3 * k2, locals := 230 } : Room)) Γ [] (fun w1 r w2 => r = (fUnf n (0, (fCal n (0, fOwe n A, L)).2)).1 ∧ cQ G ca th ((fUnf n (0, (fCal n (0, fOwe n A, L)).2)).2.1) n ((fUnf n (0, (fCal n (0, fOwe n A, L)).2)).2.2) D w1 w2) rfl (fun w1 h1 => t_sellUnfetched h1.1 c1 hT5 c3 (by omega) c2 (by show phv n (fCal n (0, fOwe n A, L)) ≤ phv n (fUnf n (0, (fCal n (0, fOwe n A, L)).2)) + k2; omega)) c_self rfl k_511 k_1 k_508 k_510 s_21 hd_X2_sellUnfetched ⟨Nat.le_of_ble_eq_true rfl, Nat.le_of_ble_eq_true rfl⟩ ⟨by show 0 + k1 + k2 ≤ kb; omega, by show 0 + 3 * k1 + 3 * k2 ≤ 3 * kb; omega⟩ (Nat.le_of_ble_eq_true rfl) dX2_endDay_9 (fun r => ?_)
  refine c_thenQ1 (A' := (fUnf n (0, (fCal n (0, fOwe n A, L)).2)).2.1) (L' := (fUnf n (0, (fCal n (0, fOwe n A, L)).2)).2.2) (D := D) (fun e9 T9 hT9 => ?_)
  refine x_iadd Γ dX2_endDay_12 ?_
  rw [e5, e9]
  refine x_istore_n Γ dX2_endDay_13 rfl rfl (by decide) ?_
  refine x_aload_n Γ dX2_endDay_14 rfl rfl ?_
  refine x_invV (emb := embV) (ci := 3) (rm := ({ frames := 5, cells := k3, slots := 3 * k3, locals := 170 } : Room)) Γ [] (fun w1 _ w2 => cQ G ca th ((fDrv n (fUnf n (0, (fCal n (0, fOwe n A, L)).2)).2.2 ((fUnf n (0, (fCal n (0, fOwe n A, L)).2)).2.1 1 0, (fUnf n (0, (fCal n (0, fOwe n A, L)).2)).2)).2.1) n ((fDrv n (fUnf n (0, (fCal n (0, fOwe n A, L)).2)).2.2 ((fUnf n (0, (fCal n (0, fOwe n A, L)).2)).2.1 1 0, (fUnf n (0, (fCal n (0, fOwe n A, L)).2)).2)).2.2) D w1 w2) rfl (fun w1 h1 => t_driveVan h1.1 e1 hT9 e3 (by omega) e2 (by show phv n (fUnf n (0, (fCal n (0, fOwe n A, L)).2)) ≤ phv n (fDrv n (fUnf n (0, (fCal n (0, fOwe n A, L)).2)).2.2 ((fUnf n (0, (fCal n (0, fOwe n A, L)).2)).2.1 1 0, (fUnf n (0, (fCal n (0, fOwe n A, L)).2)).2)) + k3; omega)) c_self rfl k_515 k_1 k_512 k_514 s_22 hd_X2_driveVan ⟨Nat.le_of_ble_eq_true rfl, Nat.le_of_ble_eq_true rfl⟩ ⟨by show 0 + k1 + k2 + k3 ≤ kb; omega, by show 0 + 3 * k1 + 3 * k2 + 3 * k3 ≤ 3 * kb; omega⟩ (Nat.le_of_ble_eq_true rfl) dX2_endDay_15 (fun _ => ?_)
  refine c_thenQ (A' := (fDrv n (fUnf n (0, (fCal n (0, fOwe n A, L)).2)).2.2 ((fUnf n (0, (fCal n (0, fOwe n A, L)).2)).2.1 1 0, (fUnf n (0, (fCal n (0, fOwe n A, L)).2)).2)).2.1) (L' := (fDrv n (fUnf n (0, (fCal n (0, fOwe n A, L)).2)).2.2 ((fUnf n (0, (fCal n (0, fOwe n A, L)).2)).2.1 1 0, (fUnf n (0, (fCal n (0, fOwe n A, L)).2)).2)).2.2) (D := D) (fun T15 hT15 => ?_)
  refine x_aload_n Γ dX2_endDay_18 rfl rfl ?_
  refine x_dup Γ dX2_endDay_19 rfl ?_
  refine c_this Γ 5 rfl (by decide) k_63 rfl dX2_endDay_20 ?_
  refine x_iconst (v := 1) Γ dX2_endDay_23 (by decide) ?_
  refine x_iadd Γ dX2_endDay_24 ?_
  refine c_putthis Γ 5 4 rfl (by decide) (by decide) k_63 rfl rfl rfl dX2_endDay_25 ?_
  refine x_iload_n Γ dX2_endDay_28 rfl rfl ?_
  refine x_iret Γ rfl rfl (fun w2 e2 => ?_) ⟨by show 0 + k1 + k2 + k3 ≤ kb; omega, by show 0 + 3 * k1 + 3 * k2 + 3 * k3 ≤ 3 * kb; omega⟩ dX2_endDay_29
  rw [fDay_eq]
  refine ⟨rfl, ⟨T15, ?_, ?_⟩, e2.2⟩
  · show tgI (fBeg n (mU _ 4 0 (_ + 1))) n (D + 1) T15
    rw [f3, nI_1]
    exact hT15.tick hI.1.2.1 hD1
  · refine e2.1.congr ?_
    have ej : ∀ j, j ≠ 4 → j ≠ 13 → j ≠ 18 → cB (fBeg n (mU (fDrv n (fUnf n (0, (fCal n (0, fOwe n A, L)).2)).2.2 ((fUnf n (0, (fCal n (0, fOwe n A, L)).2)).2.1 1 0, (fUnf n (0, (fCal n (0, fOwe n A, L)).2)).2)).2.1 4 0 ((fDrv n (fUnf n (0, (fCal n (0, fOwe n A, L)).2)).2.2 ((fUnf n (0, (fCal n (0, fOwe n A, L)).2)).2.1 1 0, (fUnf n (0, (fCal n (0, fOwe n A, L)).2)).2)).2.1 4 0 + 1))) j = mU (cB (fDrv n (fUnf n (0, (fCal n (0, fOwe n A, L)).2)).2.2 ((fUnf n (0, (fCal n (0, fOwe n A, L)).2)).2.1 1 0, (fUnf n (0, (fCal n (0, fOwe n A, L)).2)).2)).2.1) 4 0 (cB (fDrv n (fUnf n (0, (fCal n (0, fOwe n A, L)).2)).2.2 ((fUnf n (0, (fCal n (0, fOwe n A, L)).2)).2.1 1 0, (fUnf n (0, (fCal n (0, fOwe n A, L)).2)).2)).2.1 4 0 + 1) j := fun j g1 g2 g3 => by rw [cB_j g2, fBeg_j g3, mU_j g1, mU_j g1, cB_j g2]
    refine ⟨ej 0 (by decide) (by decide) (by decide), ej 2 (by decide) (by decide) (by decide), ⟨congrFun (ej 1 (by decide) (by decide) (by decide)) 0, congrFun (ej 3 (by decide) (by decide) (by decide)) 0, ?_⟩, fun i hi => ⟨congrFun (ej 6 (by decide) (by decide) (by decide)) i, congrFun (ej 7 (by decide) (by decide) (by decide)) i, congrFun (ej 10 (by decide) (by decide) (by decide)) i, congrFun (ej 8 (by decide) (by decide) (by decide)) i, congrFun (ej 9 (by decide) (by decide) (by decide)) i, congrFun (ej 15 (by decide) (by decide) (by decide)) i, congrFun (ej 11 (by decide) (by decide) (by decide)) i, congrFun (ej 12 (by decide) (by decide) (by decide)) i, ?_, congrFun (ej 14 (by decide) (by decide) (by decide)) i⟩⟩
    · rw [cB_j (by decide)]
      show fBeg n (mU _ 4 0 (_ + 1)) 4 0 = _
      rw [fBeg_j (by decide), mU_eq, mU_eq]
      rfl
    · rw [mU_j (by decide)]
      show (if 0 < fBeg n (mU _ 4 0 _) 12 i then fBeg n (mU _ 4 0 _) 13 i else -1) = (if 0 < _ then _ else -1)
      rw [fBeg_j (by decide), fBeg_j (by decide), mU_j (by decide), mU_j (by decide)]
end XC6

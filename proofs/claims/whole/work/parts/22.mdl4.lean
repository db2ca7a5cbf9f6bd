section XM6
section XM6a
variable {p : Program} {l : Launch} {e : Env} {R : Room} {s : State} {m : MethodId} {args : Array Value} {below : List Frame} {meth : Method} {c : Code} {G : xG} {cc : ByteArray} {nL : Nat} {own : String} {rt : Option FieldType} {Q : State → Prop} {P P' : xW → Prop} {k n pc : Nat} {lv : List (Nat × Value)} {st : List Value}
variable {o : Nat} {ad : Nat → Nat} {A A' : xS} {L L' : List Nat} {w0 : xW}
theorem m_getiv (Γ : xC p s m meth c G cc nL own rt) (j : Nat) {idx : Nat} {v : Int32} (hv : A j 0 = v) (hj : j < 20) (h16 : j ≠ 16 ∧ j ≠ 17) (hf : ∀ f : Nat → Int32, (mFs ad f)[j]? = some (.int (f j))) (hlink : Cond.fieldLink own idx RX3 (TX3 j).2.1 (TX3 j).2.2.1 ∈ xAll) (ho : RX3 = (TX3 j).1) (hd : decode cc pc = .ok (.getfield idx, 3))
    (kk : xJ p l e R s m args below meth c G nL Q (mP G o ad A L w0) k n (pc + 3) lv (.int v :: st)) : xJ p l e R s m args below meth c G nL Q (mP G o ad A L w0) k n pc lv (.ref o :: st) :=
  m_geti Γ j hj h16 hf hlink ho hd (by rw [hv]; exact kk)
theorem m_aldv (Γ : xC p s m meth c G cc nL own rt) {j t : Nat} {i v : Int32} (hv : A j t = v) (hi : i = nI t) (hj : mArr j = true) (h16 : j ≠ 16) (ht : t < mlen j) (hd : decode cc pc = .ok (.iaload, 1))
    (kk : xJ p l e R s m args below meth c G nL Q (mP G o ad A L w0) k n (pc + 1) lv (.int v :: st)) : xJ p l e R s m args below meth c G nL Q (mP G o ad A L w0) k n pc lv (.int i :: .ref (ad j) :: st) :=
  m_ald Γ hi hj h16 ht hd (by rw [hv]; exact kk)
/-- between a wish's place and the count of wishes -/
def mW (G : xG) (o : Nat) (ad : Nat → Nat) (A : xS) (L : List Nat) (t : Nat) (w0 : xW) : xW → Prop := fun w => (∃ M : xS, MdlAt G w o ad M ∧ (∀ j, j ≠ 16 → j ≠ 17 → M j = A j) ∧ M 17 0 = nI L.length ∧ ∀ (i q : Nat), (L ++ [t])[i]? = some q → M 16 i = nI q) ∧ KpM w0 w
theorem m_astw (Γ : xC p s m meth c G cc nL own rt) {t : Nat} (hl : L.length < 24) (hd : decode cc pc = .ok (.iastore, 1))
    (kk : xJ p l e R s m args below meth c G nL Q (mW G o ad A L t w0) k n (pc + 1) lv st) : xJ p l e R s m args below meth c G nL Q (mP G o ad A L w0) k n pc lv (.int (nI t) :: .int (nI L.length) :: .ref (ad 16) :: st) := by
  refine x_pin (fun w1 hw1 => ?_)
  obtain ⟨⟨M, h1, h2, h3, h4⟩, hk⟩ := hw1
  have hM := MdlAt.ast h1 (j := 16) (i := L.length) (x := nI t) rfl
  have hnew : ∀ (i q : Nat), (L ++ [t])[i]? = some q → mU M 16 L.length (nI t) 16 i = nI q := by
    intro i q hi
    by_cases hil : i < L.length
    · rw [List.getElem?_append_left hil] at hi
      rw [mU_i (by omega)]
      exact h4 i q hi
    · rw [List.getElem?_append_right (by omega)] at hi
      have hie : i - L.length = 0 := by
        have := (List.getElem?_eq_some_iff.mp hi).1
        simp only [List.length_cons, List.length_nil] at this
        omega
      rw [hie] at hi
      have hqq : t = q := by simpa using hi
      rw [show i = L.length by omega, mU_eq, hqq]
  exact x_iast (N := mlen 16) (f := M 16) Γ (fun w9 e9 => by rw [e9]; refine ⟨_, h1.2 16 rfl, ?_⟩; rw [nI_clamp (by omega)]; exact ⟨⟨_, hM, fun j g1 g2 => by rw [mU_j g1]; exact h2 j g1 g2, by rw [mU_j (by decide)]; exact h3, hnew⟩, hk.set (h1.2 16 rfl) (by omega)⟩) (vp_in_nI (by show _ < 24; omega) (by decide)) hd kk
theorem m_getw2 (Γ : xC p s m meth c G cc nL own rt) {t idx : Nat} (hlink : Cond.fieldLink own idx RX3 (TX3 17).2.1 (TX3 17).2.2.1 ∈ xAll) (hd : decode cc pc = .ok (.getfield idx, 3))
    (kk : xJ p l e R s m args below meth c G nL Q (mW G o ad A L t w0) k n (pc + 3) lv (.int (nI L.length) :: st)) : xJ p l e R s m args below meth c G nL Q (mW G o ad A L t w0) k n pc lv (.ref o :: st) :=
  x_getf Γ kl4 17 (fun w h => by
    obtain ⟨⟨M, h1, h2, h3, -⟩, -⟩ := h
    exact ⟨_, _, h1.1, by rw [← h3]; rfl⟩) (by decide) hlink (Or.inl rfl) hd kk
theorem m_putw (Γ : xC p s m meth c G cc nL own rt) {t idx : Nat} (hlink : Cond.fieldLink own idx RX3 (TX3 17).2.1 (TX3 17).2.2.1 ∈ xAll) (hd : decode cc pc = .ok (.putfield idx, 3))
    (kk : xJ p l e R s m args below meth c G nL Q (mP G o ad A (L ++ [t]) w0) k n (pc + 3) lv st) : xJ p l e R s m args below meth c G nL Q (mW G o ad A L t w0) k n pc lv (.int (nI (L.length + 1)) :: .ref o :: st) := by
  refine x_pin (fun w1 hw1 => ?_)
  obtain ⟨⟨M, h1, h2, h3, h4⟩, hk⟩ := hw1
  have hM := MdlAt.put h1 (j := 17) (x := nI (L.length + 1)) rfl rfl
  refine x_putf Γ kl4 17 (fun w9 e9 => by rw [e9]; exact ⟨_, _, h1.1, Nat.le_of_ble_eq_true rfl, ⟨_, hM, fun j g1 g2 => by rw [mU_j g2]; exact h2 j g1 g2, by rw [mU_eq, List.length_append]; rfl, fun i q hi => by rw [mU_j (by decide)]; exact h4 i q hi⟩, hk.set h1.1 (by omega)⟩) (by decide) hlink (Or.inl rfl) rfl rfl rfl hd kk
end XM6a
variable {l : Launch} {G : xG}
set_option maxRecDepth 100000 in
theorem tm_leave {o : Nat} {ad : Nat → Nat} {A : xS} {L : List Nat} {w : xW} (h : MRep G w o ad A L) {n : Nat} {ow z c0 : Int32} (hI : aI A n)  : xMet l G yX3_leave cX3_leave 5 (some .int) ({ frames := 3, cells := 0, slots := 0, locals := 140 } : Room) [.ref o, .int ow, .int z, .int c0] w embI (fun r w' => r = (gLeave A L ow z c0).1 ∧ mP G o ad (gLeave A L ow z c0).2.1 (gLeave A L ow z c0).2.2 w w') := by
  refine xMet_of (by decide) (Nat.le_of_ble_eq_true rfl) ?_
  intro p e s m below meth c Γ hnm
  have hn := hI.1
  have hn2 := hI.2.1
  refine m_in h ?_
  have hE : ∀ k : Int32, ¬ k = 0 → kLeave A ow z c0 = k → xJ p l e ({ frames := 3, cells := 0, slots := 0, locals := 140 } : Room) s m ([.ref o, .int ow, .int z, .int c0] : List Value).toArray below meth c G 5 (MQ below (xQ G embI (fun r w' => r = (gLeave A L ow z c0).1 ∧ mP G o ad (gLeave A L ow z c0).2.1 (gLeave A L ow z c0).2.2 w w')) ([.ref o, .int ow, .int z, .int c0] : List Value).toArray s ({ frames := 3, cells := 0, slots := 0, locals := 140 } : Room).cells ({ frames := 3, cells := 0, slots := 0, locals := 140 } : Room).slots (xA G)) (mP G o ad A L w) 0 0 70 [(0, .ref o), (1, .int ow), (2, .int z), (3, .int c0)] [.int k, .ref o] := by
    intro k h0 hk
    refine x_invV (emb := embI) (ci := 4) (rm := ({ frames := 0, cells := 0, slots := 0, locals := 0 } : Room)) Γ [.int k] (fun w1 r w2 => bq (k = 0) r ∧ mP G o ad (mU (A) 19 0 k) (L) w1 w2) rfl (fun w1 h1 => t_isFine h1.1) m_obj rfl k_656 k_6 k_653 k_655 s_24 hd_X3_isFine ⟨Nat.le_of_ble_eq_true rfl, Nat.le_of_ble_eq_true rfl⟩ ⟨Nat.le_of_ble_eq_true rfl, Nat.le_of_ble_eq_true rfl⟩ (Nat.le_of_ble_eq_true rfl) dX3_leave_70 (fun r => ?_)
    refine m_then (A' := mU (A) 19 0 k) (L' := L) (fun q => ?_)
    refine x_if_ne (tgt := 78) Γ dX3_leave_73 (by decide) (fun c73 => absurd (q.zero h0) c73) (fun c73 => ?_)
    refine x_iconst (v := 0) Γ dX3_leave_76 (by decide) ?_
    refine x_iret Γ rfl rfl (fun w2 e2 => ?_) ⟨Nat.le_of_ble_eq_true rfl, Nat.le_of_ble_eq_true rfl⟩ dX3_leave_77
    unfold gLeave
    rw [fin_no hk h0]
    exact ⟨rfl, e2⟩
  refine x_iload_n Γ dX3_leave_0 rfl rfl ?_
  refine x_iconst (v := 0) Γ dX3_leave_1 (by decide) ?_
  refine x_bipush (v := 7) Γ dX3_leave_2 (by decide) ?_
  refine x_invS (emb := embI) (rm := ({ frames := 0, cells := 0, slots := 0, locals := 0 } : Room)) Γ [.int (ow), .int (0), .int (7)] (fun w1 r w2 => bq (rIn (0) (7) (ow)) r ∧ w2 = w1) rfl (fun w1 h1 => t_in) k_652 k_6 k_650 k_651 hd_X3_in ⟨Nat.le_of_ble_eq_true rfl, Nat.le_of_ble_eq_true rfl⟩ ⟨Nat.le_of_ble_eq_true rfl, Nat.le_of_ble_eq_true rfl⟩ (Nat.le_of_ble_eq_true rfl) dX3_leave_4 (fun r => ?_)
  refine m_same (fun q4 => ?_)
  refine x_if_eq (tgt := 26) Γ dX3_leave_7 (by decide) (fun c7 => ?_) (fun c7 => ?_)
  · have hk : kLeave A ow z c0 = 1 := by
      unfold kLeave
      exact if_pos (fun y => by first | exact q4.eq c7 y.1 | exact q13.eq c16 y.2.1 | exact q20.eq c23 y.2.2)
    refine x_iconst (v := 1) Γ dX3_leave_26 (by decide) ?_
    refine x_goto (tgt := 31) Γ dX3_leave_27 (by decide) ?_
    refine x_istore Γ dX3_leave_31 rfl (by decide) ?_
    refine x_aload_n Γ dX3_leave_33 rfl rfl ?_
    refine x_iload Γ dX3_leave_34 rfl ?_
    refine x_if_ne (tgt := 68) Γ dX3_leave_36 (by decide) (fun c36 => ?_) (fun c36 => absurd c36 (by decide))
    refine x_iload Γ dX3_leave_68 rfl ?_
    refine x_lv [0, 1, 2, 3] rfl ?_
    exact hE 1 (by decide) hk
  · refine x_iload_n Γ dX3_leave_10 rfl rfl ?_
    refine x_iconst (v := 1) Γ dX3_leave_11 (by decide) ?_
    refine x_iconst (v := 3) Γ dX3_leave_12 (by decide) ?_
    refine x_invS (emb := embI) (rm := ({ frames := 0, cells := 0, slots := 0, locals := 0 } : Room)) Γ [.int (z), .int (1), .int (3)] (fun w1 r w2 => bq (rIn (1) (3) (z)) r ∧ w2 = w1) rfl (fun w1 h1 => t_in) k_652 k_6 k_650 k_651 hd_X3_in ⟨Nat.le_of_ble_eq_true rfl, Nat.le_of_ble_eq_true rfl⟩ ⟨Nat.le_of_ble_eq_true rfl, Nat.le_of_ble_eq_true rfl⟩ (Nat.le_of_ble_eq_true rfl) dX3_leave_13 (fun r => ?_)
    refine m_same (fun q13 => ?_)
    refine x_if_eq (tgt := 26) Γ dX3_leave_16 (by decide) (fun c16 => ?_) (fun c16 => ?_)
    · have hk : kLeave A ow z c0 = 1 := by
        unfold kLeave
        exact if_pos (fun y => by first | exact q4.eq c7 y.1 | exact q13.eq c16 y.2.1 | exact q20.eq c23 y.2.2)
      refine x_iconst (v := 1) Γ dX3_leave_26 (by decide) ?_
      refine x_goto (tgt := 31) Γ dX3_leave_27 (by decide) ?_
      refine x_istore Γ dX3_leave_31 rfl (by decide) ?_
      refine x_aload_n Γ dX3_leave_33 rfl rfl ?_
      refine x_iload Γ dX3_leave_34 rfl ?_
      refine x_if_ne (tgt := 68) Γ dX3_leave_36 (by decide) (fun c36 => ?_) (fun c36 => absurd c36 (by decide))
      refine x_iload Γ dX3_leave_68 rfl ?_
      refine x_lv [0, 1, 2, 3] rfl ?_
      exact hE 1 (by decide) hk
    · refine x_iload_n Γ dX3_leave_19 rfl rfl ?_
      refine x_invS (emb := embI) (rm := ({ frames := 1, cells := 0, slots := 0, locals := 40 } : Room)) Γ [.int (c0)] (fun w1 r w2 => bq (rIn 0 4 (c0)) r ∧ w2 = w1) rfl (fun w1 h1 => t_isCounter) k_649 k_6 k_647 k_648 hd_X3_isCounter ⟨Nat.le_of_ble_eq_true rfl, Nat.le_of_ble_eq_true rfl⟩ ⟨Nat.le_of_ble_eq_true rfl, Nat.le_of_ble_eq_true rfl⟩ (Nat.le_of_ble_eq_true rfl) dX3_leave_20 (fun r => ?_)
      refine m_same (fun q20 => ?_)
      refine x_if_ne (tgt := 30) Γ dX3_leave_23 (by decide) (fun c23 => ?_) (fun c23 => ?_)
      · obtain ⟨ci, hci, rfl⟩ := rIn_nat (M := 4) (n := 4) (by decide) (q20.ne c23)
        have hR : rIn 0 7 ow ∧ rIn 1 3 z ∧ rIn 0 4 (nI ci) := ⟨q4.ne c7, q13.ne c16, q20.ne c23⟩
        refine x_iconst (v := 0) Γ dX3_leave_30 (by decide) ?_
        refine x_istore Γ dX3_leave_31 rfl (by decide) ?_
        refine x_aload_n Γ dX3_leave_33 rfl rfl ?_
        refine x_iload Γ dX3_leave_34 rfl ?_
        refine x_if_ne (tgt := 68) Γ dX3_leave_36 (by decide) (fun c36 => absurd (rfl) c36) (fun c36 => ?_)
        refine x_aload_n Γ dX3_leave_39 rfl rfl ?_
        refine m_geti Γ 5 (by decide) (by decide) (fun _ => rfl) k_583 rfl dX3_leave_40 ?_
        refine x_bipush (v := 24) Γ dX3_leave_43 (by decide) ?_
        refine x_icmp_eq (tgt := 64) Γ dX3_leave_45 (by decide) (fun c45 => ?_) (fun c45 => ?_)
        · have hk : kLeave A ow z (nI ci) = 2 := by
            unfold kLeave
            rw [if_neg (not_not_intro hR), hn, ixn2 (t := n) (by omega), ixn (t := ci) (by omega), if_pos (by first | exact Or.inl (hn ▸ c45) | exact Or.inr (Int32.not_le.mp c61))]
          refine x_iconst (v := 2) Γ dX3_leave_64 (by decide) ?_
          refine x_goto (tgt := 70) Γ dX3_leave_65 (by decide) ?_
          refine x_lv [0, 1, 2, 3] rfl ?_
          exact hE 2 (by decide) hk
        · refine x_aload_n Γ dX3_leave_48 rfl rfl ?_
          refine x_iload_n Γ dX3_leave_49 rfl rfl ?_
          refine x_invV (emb := embI) (ci := 4) (rm := ({ frames := 0, cells := 0, slots := 0, locals := 0 } : Room)) Γ [.int (nI ci)] (fun w1 r w2 => r = ldF A (nI ci) n ∧ mP G o ad (A) (L) w1 w2) rfl (fun w1 h1 => t_loadOf h1.1 hI) m_obj rfl k_668 k_6 k_665 k_667 s_25 hd_X3_loadOf ⟨Nat.le_of_ble_eq_true rfl, Nat.le_of_ble_eq_true rfl⟩ ⟨Nat.le_of_ble_eq_true rfl, Nat.le_of_ble_eq_true rfl⟩ (Nat.le_of_ble_eq_true rfl) dX3_leave_50 (fun r => ?_)
          refine m_then (A' := A) (L' := L) (fun e50 => ?_)
          rw [e50]
          refine x_iload_n Γ dX3_leave_53 rfl rfl ?_
          refine x_iadd Γ dX3_leave_54 ?_
          refine x_aload_n Γ dX3_leave_55 rfl rfl ?_
          refine m_geta Γ 0 (by decide) (fun _ => rfl) k_578 rfl dX3_leave_56 ?_
          refine x_iload_n Γ dX3_leave_59 rfl rfl ?_
          refine m_ald Γ rfl rfl (by decide) (by show _ < 5; omega) dX3_leave_60 ?_
          refine x_icmp_le (tgt := 68) Γ dX3_leave_61 (by decide) (fun c61 => ?_) (fun c61 => ?_)
          · have hk : kLeave A ow z (nI ci) = 0 := by
              unfold kLeave
              rw [if_neg (not_not_intro hR), hn, ixn2 (t := n) (by omega), ixn (t := ci) (by omega), if_neg (fun y => y.elim (fun y => c45 (hn.trans y)) (fun y => Int32.not_lt.mpr c61 y))]
            have hlt : n < 24 := by
              rcases Nat.lt_or_ge n 24 with h9 | h9
              · exact h9
              · exact absurd (hn.trans (by rw [show n = 24 by omega]; rfl)) c45
            refine x_iload Γ dX3_leave_68 rfl ?_
            refine x_invV (emb := embI) (ci := 4) (rm := ({ frames := 0, cells := 0, slots := 0, locals := 0 } : Room)) Γ [.int 0] (fun w1 r w2 => bq (0 = 0) r ∧ mP G o ad (mU (A) 19 0 0) (L) w1 w2) rfl (fun w1 h1 => t_isFine h1.1) m_obj rfl k_656 k_6 k_653 k_655 s_24 hd_X3_isFine ⟨Nat.le_of_ble_eq_true rfl, Nat.le_of_ble_eq_true rfl⟩ ⟨Nat.le_of_ble_eq_true rfl, Nat.le_of_ble_eq_true rfl⟩ (Nat.le_of_ble_eq_true rfl) dX3_leave_70 (fun r => ?_)
            refine m_then (A' := mU (A) 19 0 0) (L' := L) (fun q => ?_)
            refine x_if_ne (tgt := 78) Γ dX3_leave_73 (by decide) (fun c73 => ?_) (fun c73 => absurd c73 (q.one rfl))
            refine x_aload_n Γ dX3_leave_78 rfl rfl ?_
            refine m_geta Γ 6 (by decide) (fun _ => rfl) k_584 rfl dX3_leave_79 ?_
            refine x_aload_n Γ dX3_leave_82 rfl rfl ?_
            refine m_geti Γ 5 (by decide) (by decide) (fun _ => rfl) k_583 rfl dX3_leave_83 ?_
            refine x_iload_n Γ dX3_leave_86 rfl rfl ?_
            refine m_ast Γ hn rfl (by decide) (by show _ < 24; omega) dX3_leave_87 ?_
            refine x_aload_n Γ dX3_leave_88 rfl rfl ?_
            refine m_geta Γ 7 (by decide) (fun _ => rfl) k_585 rfl dX3_leave_89 ?_
            refine x_aload_n Γ dX3_leave_92 rfl rfl ?_
            refine m_geti Γ 5 (by decide) (by decide) (fun _ => rfl) k_583 rfl dX3_leave_93 ?_
            refine x_iload_n Γ dX3_leave_96 rfl rfl ?_
            refine m_ast Γ hn rfl (by decide) (by show _ < 24; omega) dX3_leave_97 ?_
            refine x_aload_n Γ dX3_leave_98 rfl rfl ?_
            refine m_geta Γ 8 (by decide) (fun _ => rfl) k_586 rfl dX3_leave_99 ?_
            refine x_aload_n Γ dX3_leave_102 rfl rfl ?_
            refine m_geti Γ 5 (by decide) (by decide) (fun _ => rfl) k_583 rfl dX3_leave_103 ?_
            refine x_bipush (v := 20) Γ dX3_leave_106 (by decide) ?_
            refine x_iload_n Γ dX3_leave_108 rfl rfl ?_
            refine x_imul Γ dX3_leave_109 ?_
            refine m_ast Γ hn rfl (by decide) (by show _ < 24; omega) dX3_leave_110 ?_
            refine x_aload_n Γ dX3_leave_111 rfl rfl ?_
            refine m_geta Γ 9 (by decide) (fun _ => rfl) k_587 rfl dX3_leave_112 ?_
            refine x_aload_n Γ dX3_leave_115 rfl rfl ?_
            refine m_geti Γ 5 (by decide) (by decide) (fun _ => rfl) k_583 rfl dX3_leave_116 ?_
            refine x_iload_n Γ dX3_leave_119 rfl rfl ?_
            refine m_ast Γ hn rfl (by decide) (by show _ < 24; omega) dX3_leave_120 ?_
            refine x_aload_n Γ dX3_leave_121 rfl rfl ?_
            refine m_geta Γ 10 (by decide) (fun _ => rfl) k_588 rfl dX3_leave_122 ?_
            refine x_aload_n Γ dX3_leave_125 rfl rfl ?_
            refine m_geti Γ 5 (by decide) (by decide) (fun _ => rfl) k_583 rfl dX3_leave_126 ?_
            refine x_aload_n Γ dX3_leave_129 rfl rfl ?_
            refine m_geti Γ 4 (by decide) (by decide) (fun _ => rfl) k_582 rfl dX3_leave_130 ?_
            refine m_ast Γ hn rfl (by decide) (by show _ < 24; omega) dX3_leave_133 ?_
            refine x_aload_n Γ dX3_leave_134 rfl rfl ?_
            refine m_geta Γ 14 (by decide) (fun _ => rfl) k_592 rfl dX3_leave_135 ?_
            refine x_aload_n Γ dX3_leave_138 rfl rfl ?_
            refine m_geti Γ 5 (by decide) (by decide) (fun _ => rfl) k_583 rfl dX3_leave_139 ?_
            refine x_iconst (v := (-1)) Γ dX3_leave_142 (by decide) ?_
            refine m_ast Γ hn rfl (by decide) (by show _ < 24; omega) dX3_leave_143 ?_
            refine x_aload_n Γ dX3_leave_144 rfl rfl ?_
            refine m_geta Γ 15 (by decide) (fun _ => rfl) k_593 rfl dX3_leave_145 ?_
            refine x_aload_n Γ dX3_leave_148 rfl rfl ?_
            refine m_geti Γ 5 (by decide) (by decide) (fun _ => rfl) k_583 rfl dX3_leave_149 ?_
            refine x_iconst (v := (-1)) Γ dX3_leave_152 (by decide) ?_
            refine m_ast Γ hn rfl (by decide) (by show _ < 24; omega) dX3_leave_153 ?_
            refine x_aload_n Γ dX3_leave_154 rfl rfl ?_
            refine x_dup Γ dX3_leave_155 rfl ?_
            refine m_geti Γ 5 (by decide) (by decide) (fun _ => rfl) k_583 rfl dX3_leave_156 ?_
            refine x_iconst (v := 1) Γ dX3_leave_159 (by decide) ?_
            refine x_iadd Γ dX3_leave_160 ?_
            refine m_puti Γ 5 (by decide) (by decide) (fun _ => rfl) k_583 rfl rfl rfl dX3_leave_161 ?_
            refine x_aload_n Γ dX3_leave_164 rfl rfl ?_
            refine m_geti Γ 5 (by decide) (by decide) (fun _ => rfl) k_583 rfl dX3_leave_165 ?_
            refine x_iconst (v := 1) Γ dX3_leave_168 (by decide) ?_
            refine x_isub Γ dX3_leave_169 ?_
            rw [mU_eq]
            refine x_iret Γ rfl rfl (fun w2 e2 => ?_) ⟨Nat.le_of_ble_eq_true rfl, Nat.le_of_ble_eq_true rfl⟩ dX3_leave_170
            unfold gLeave
            rw [fin_ok hk, hn, ixn2 (by omega)]
            refine ⟨?_, e2⟩
            show A 5 0 + 1 - 1 = _
            rw [hn, nI_1, nI_m1 (by omega)]
            rfl
          · have hk : kLeave A ow z (nI ci) = 2 := by
              unfold kLeave
              rw [if_neg (not_not_intro hR), hn, ixn2 (t := n) (by omega), ixn (t := ci) (by omega), if_pos (by first | exact Or.inl (hn ▸ c45) | exact Or.inr (Int32.not_le.mp c61))]
            refine x_iconst (v := 2) Γ dX3_leave_64 (by decide) ?_
            refine x_goto (tgt := 70) Γ dX3_leave_65 (by decide) ?_
            refine x_lv [0, 1, 2, 3] rfl ?_
            exact hE 2 (by decide) hk
      · have hk : kLeave A ow z c0 = 1 := by
          unfold kLeave
          exact if_pos (fun y => by first | exact q4.eq c7 y.1 | exact q13.eq c16 y.2.1 | exact q20.eq c23 y.2.2)
        refine x_iconst (v := 1) Γ dX3_leave_26 (by decide) ?_
        refine x_goto (tgt := 31) Γ dX3_leave_27 (by decide) ?_
        refine x_istore Γ dX3_leave_31 rfl (by decide) ?_
        refine x_aload_n Γ dX3_leave_33 rfl rfl ?_
        refine x_iload Γ dX3_leave_34 rfl ?_
        refine x_if_ne (tgt := 68) Γ dX3_leave_36 (by decide) (fun c36 => ?_) (fun c36 => absurd c36 (by decide))
        refine x_iload Γ dX3_leave_68 rfl ?_
        refine x_lv [0, 1, 2, 3] rfl ?_
        exact hE 1 (by decide) hk
set_option maxRecDepth 100000 in
theorem tm_want {o : Nat} {ad : Nat → Nat} {A : xS} {L : List Nat} {w : xW} (h : MRep G w o ad A L) {n : Nat} {x c0 : Int32} (hI : aI A n) (hLI : lI A n L) : xMet l G yX3_want cX3_want 4 (some .int) ({ frames := 3, cells := 0, slots := 0, locals := 140 } : Room) [.ref o, .int x, .int c0] w embI (fun r w' => r = (gWant A L x c0).1 ∧ mP G o ad (gWant A L x c0).2.1 (gWant A L x c0).2.2 w w') := by
  refine xMet_of (by decide) (Nat.le_of_ble_eq_true rfl) ?_
  intro p e s m below meth c Γ hnm
  have hn := hI.1
  have hn2 := hI.2.1
  refine m_in h ?_
  have hE : ∀ k : Int32, ¬ k = 0 → kWant A x c0 = k → xJ p l e ({ frames := 3, cells := 0, slots := 0, locals := 140 } : Room) s m ([.ref o, .int x, .int c0] : List Value).toArray below meth c G 4 (MQ below (xQ G embI (fun r w' => r = (gWant A L x c0).1 ∧ mP G o ad (gWant A L x c0).2.1 (gWant A L x c0).2.2 w w')) ([.ref o, .int x, .int c0] : List Value).toArray s ({ frames := 3, cells := 0, slots := 0, locals := 140 } : Room).cells ({ frames := 3, cells := 0, slots := 0, locals := 140 } : Room).slots (xA G)) (mP G o ad A L w) 0 0 49 [(0, .ref o), (1, .int x), (2, .int c0)] [.int k, .ref o] := by
    intro k h0 hk
    refine x_invV (emb := embI) (ci := 4) (rm := ({ frames := 0, cells := 0, slots := 0, locals := 0 } : Room)) Γ [.int k] (fun w1 r w2 => bq (k = 0) r ∧ mP G o ad (mU (A) 19 0 k) (L) w1 w2) rfl (fun w1 h1 => t_isFine h1.1) m_obj rfl k_656 k_6 k_653 k_655 s_24 hd_X3_isFine ⟨Nat.le_of_ble_eq_true rfl, Nat.le_of_ble_eq_true rfl⟩ ⟨Nat.le_of_ble_eq_true rfl, Nat.le_of_ble_eq_true rfl⟩ (Nat.le_of_ble_eq_true rfl) dX3_want_49 (fun r => ?_)
    refine m_then (A' := mU (A) 19 0 k) (L' := L) (fun q => ?_)
    refine x_if_ne (tgt := 57) Γ dX3_want_52 (by decide) (fun c52 => absurd (q.zero h0) c52) (fun c52 => ?_)
    refine x_iconst (v := 0) Γ dX3_want_55 (by decide) ?_
    refine x_iret Γ rfl rfl (fun w2 e2 => ?_) ⟨Nat.le_of_ble_eq_true rfl, Nat.le_of_ble_eq_true rfl⟩ dX3_want_56
    unfold gWant
    rw [fin_no hk h0]
    exact ⟨rfl, e2⟩
  refine x_aload_n Γ dX3_want_0 rfl rfl ?_
  refine x_iload_n Γ dX3_want_1 rfl rfl ?_
  refine x_invV (emb := embI) (ci := 4) (rm := ({ frames := 1, cells := 0, slots := 0, locals := 40 } : Room)) Γ [.int x] (fun w1 r w2 => bq (kT (A) (x)) r ∧ mP G o ad (A) (L) w1 w2) rfl (fun w1 h1 => t_isThing h1.1) m_obj rfl k_676 k_6 k_673 k_675 s_26 hd_X3_isThing ⟨Nat.le_of_ble_eq_true rfl, Nat.le_of_ble_eq_true rfl⟩ ⟨Nat.le_of_ble_eq_true rfl, Nat.le_of_ble_eq_true rfl⟩ (Nat.le_of_ble_eq_true rfl) dX3_want_2 (fun r => ?_)
  refine m_then (A' := A) (L' := L) (fun q2 => ?_)
  refine x_if_ne (tgt := 12) Γ dX3_want_5 (by decide) (fun c5 => ?_) (fun c5 => ?_)
  · obtain ⟨t, htn, ht, rfl⟩ := aI_kT hI (q2.ne c5)
    have hT := aI_toT hI htn
    refine x_iload_n Γ dX3_want_12 rfl rfl ?_
    refine x_invS (emb := embI) (rm := ({ frames := 1, cells := 0, slots := 0, locals := 40 } : Room)) Γ [.int (c0)] (fun w1 r w2 => bq (rIn 0 4 (c0)) r ∧ w2 = w1) rfl (fun w1 h1 => t_isCounter) k_649 k_6 k_647 k_648 hd_X3_isCounter ⟨Nat.le_of_ble_eq_true rfl, Nat.le_of_ble_eq_true rfl⟩ ⟨Nat.le_of_ble_eq_true rfl, Nat.le_of_ble_eq_true rfl⟩ (Nat.le_of_ble_eq_true rfl) dX3_want_13 (fun r => ?_)
    refine m_same (fun q13 => ?_)
    refine x_if_ne (tgt := 23) Γ dX3_want_16 (by decide) (fun c16 => ?_) (fun c16 => ?_)
    · refine x_aload_n Γ dX3_want_23 rfl rfl ?_
      refine x_iload_n Γ dX3_want_24 rfl rfl ?_
      refine x_invV (emb := embI) (ci := 4) (rm := ({ frames := 0, cells := 0, slots := 0, locals := 0 } : Room)) Γ [.int (nI t)] (fun w1 r w2 => bq ((A) 9 t < 5) r ∧ mP G o ad (A) (L) w1 w2) rfl (fun w1 h1 => t_isAt h1.1 (by omega)) m_obj rfl k_680 k_6 k_677 k_679 s_27 hd_X3_isAt ⟨Nat.le_of_ble_eq_true rfl, Nat.le_of_ble_eq_true rfl⟩ ⟨Nat.le_of_ble_eq_true rfl, Nat.le_of_ble_eq_true rfl⟩ (Nat.le_of_ble_eq_true rfl) dX3_want_25 (fun r => ?_)
      refine m_then (A' := A) (L' := L) (fun q25 => ?_)
      refine x_if_eq (tgt := 41) Γ dX3_want_28 (by decide) (fun c28 => ?_) (fun c28 => ?_)
      · have hk : kWant A (nI t) c0 = 3 := by
          unfold kWant
          rw [if_neg (not_not_intro hT), if_neg (not_not_intro (q13.ne c16)), ixn ht, if_pos (by first | exact Or.inl (q25.eq c28) | exact Or.inr c38)]
        refine x_iconst (v := 3) Γ dX3_want_41 (by decide) ?_
        refine x_goto (tgt := 46) Γ dX3_want_42 (by decide) ?_
        refine x_istore_n Γ dX3_want_46 rfl rfl (by decide) ?_
        refine x_aload_n Γ dX3_want_47 rfl rfl ?_
        refine x_iload_n Γ dX3_want_48 rfl rfl ?_
        refine x_lv [0, 1, 2] rfl ?_
        exact hE 3 (by decide) hk
      · refine x_aload_n Γ dX3_want_31 rfl rfl ?_
        refine m_geta Γ 9 (by decide) (fun _ => rfl) k_587 rfl dX3_want_32 ?_
        refine x_iload_n Γ dX3_want_35 rfl rfl ?_
        refine m_ald Γ rfl rfl (by decide) (by show _ < 24; omega) dX3_want_36 ?_
        refine x_iload_n Γ dX3_want_37 rfl rfl ?_
        refine x_icmp_ne (tgt := 45) Γ dX3_want_38 (by decide) (fun c38 => ?_) (fun c38 => ?_)
        · have hk : kWant A (nI t) c0 = 0 := by
            unfold kWant
            rw [if_neg (not_not_intro hT), if_neg (not_not_intro (q13.ne c16)), ixn ht, if_neg (fun y => y.elim (fun y => y (q25.ne c28)) (fun y => c38 y))]
          have hlt := fFor_lt hLI.2.1 (fun q hq => (hLI.2.2 q hq).1) htn
          have hl := hLI.1
          have hL : ∀ q ∈ L, q < n := fun q hq => (hLI.2.2 q hq).1
          refine x_iconst (v := 0) Γ dX3_want_45 (by decide) ?_
          refine x_istore_n Γ dX3_want_46 rfl rfl (by decide) ?_
          refine x_aload_n Γ dX3_want_47 rfl rfl ?_
          refine x_iload_n Γ dX3_want_48 rfl rfl ?_
          refine x_invV (emb := embI) (ci := 4) (rm := ({ frames := 0, cells := 0, slots := 0, locals := 0 } : Room)) Γ [.int 0] (fun w1 r w2 => bq (0 = 0) r ∧ mP G o ad (mU (A) 19 0 0) (L) w1 w2) rfl (fun w1 h1 => t_isFine h1.1) m_obj rfl k_656 k_6 k_653 k_655 s_24 hd_X3_isFine ⟨Nat.le_of_ble_eq_true rfl, Nat.le_of_ble_eq_true rfl⟩ ⟨Nat.le_of_ble_eq_true rfl, Nat.le_of_ble_eq_true rfl⟩ (Nat.le_of_ble_eq_true rfl) dX3_want_49 (fun r => ?_)
          refine m_then (A' := mU (A) 19 0 0) (L' := L) (fun q => ?_)
          refine x_if_ne (tgt := 57) Γ dX3_want_52 (by decide) (fun c52 => ?_) (fun c52 => absurd c52 (q.one rfl))
          refine x_aload_n Γ dX3_want_57 rfl rfl ?_
          refine x_iload_n Γ dX3_want_58 rfl rfl ?_
          refine x_invV (emb := embV) (ci := 4) (rm := ({ frames := 0, cells := 0, slots := 0, locals := 0 } : Room)) Γ [.int (nI t)] (fun w1 _ w2 => mP G o ad (mU (mU A 19 0 0) 15 t (-1)) (fFor t L) w1 w2) rfl (fun w1 h1 => t_forgets h1.1 (by omega) (by omega) (fun q hq => by have := hL q hq; omega)) m_obj rfl k_684 k_6 k_681 k_683 s_28 hd_X3_forgets ⟨Nat.le_of_ble_eq_true rfl, Nat.le_of_ble_eq_true rfl⟩ ⟨Nat.le_of_ble_eq_true rfl, Nat.le_of_ble_eq_true rfl⟩ (Nat.le_of_ble_eq_true rfl) dX3_want_59 (fun _ => ?_)
          refine m_then0 (A' := mU (mU A 19 0 0) 15 t (-1)) (L' := fFor t L) ?_
          refine x_aload_n Γ dX3_want_62 rfl rfl ?_
          refine m_geta Γ 15 (by decide) (fun _ => rfl) k_593 rfl dX3_want_63 ?_
          refine x_iload_n Γ dX3_want_66 rfl rfl ?_
          refine x_iload_n Γ dX3_want_67 rfl rfl ?_
          refine m_ast Γ rfl rfl (by decide) (by show _ < 24; omega) dX3_want_68 ?_
          refine x_aload_n Γ dX3_want_69 rfl rfl ?_
          refine m_geta Γ 16 (by decide) (fun _ => rfl) k_594 rfl dX3_want_70 ?_
          refine x_aload_n Γ dX3_want_73 rfl rfl ?_
          refine m_getw Γ k_595 dX3_want_74 ?_
          refine x_iload_n Γ dX3_want_77 rfl rfl ?_
          refine m_astw Γ (t := t) (L := fFor t L) (by omega) dX3_want_78 ?_
          refine x_aload_n Γ dX3_want_79 rfl rfl ?_
          refine x_dup Γ dX3_want_80 rfl ?_
          refine m_getw2 Γ k_595 dX3_want_81 ?_
          refine x_iconst (v := 1) Γ dX3_want_84 (by decide) ?_
          refine x_iadd Γ dX3_want_85 ?_
          rw [nI_1]
          refine m_putw Γ k_595 dX3_want_86 ?_
          refine x_aload_n Γ dX3_want_89 rfl rfl ?_
          refine m_getw Γ k_595 dX3_want_90 ?_
          refine x_iret Γ rfl rfl (fun w2 e2 => ?_) ⟨Nat.le_of_ble_eq_true rfl, Nat.le_of_ble_eq_true rfl⟩ dX3_want_93
          unfold gWant
          rw [fin_ok hk, ixn ht]
          exact ⟨by rw [List.length_append]; rfl, e2⟩
        · have hk : kWant A (nI t) c0 = 3 := by
            unfold kWant
            rw [if_neg (not_not_intro hT), if_neg (not_not_intro (q13.ne c16)), ixn ht, if_pos (by first | exact Or.inl (q25.eq c28) | exact Or.inr c38)]
          refine x_iconst (v := 3) Γ dX3_want_41 (by decide) ?_
          refine x_goto (tgt := 46) Γ dX3_want_42 (by decide) ?_
          refine x_istore_n Γ dX3_want_46 rfl rfl (by decide) ?_
          refine x_aload_n Γ dX3_want_47 rfl rfl ?_
          refine x_iload_n Γ dX3_want_48 rfl rfl ?_
          refine x_lv [0, 1, 2] rfl ?_
          exact hE 3 (by decide) hk
    · have hk : kWant A (nI t) c0 = 2 := by
        unfold kWant
        rw [if_neg (not_not_intro hT), if_pos (q13.eq c16)]
      refine x_iconst (v := 2) Γ dX3_want_19 (by decide) ?_
      refine x_goto (tgt := 46) Γ dX3_want_20 (by decide) ?_
      refine x_istore_n Γ dX3_want_46 rfl rfl (by decide) ?_
      refine x_aload_n Γ dX3_want_47 rfl rfl ?_
      refine x_iload_n Γ dX3_want_48 rfl rfl ?_
      refine x_lv [0, 1, 2] rfl ?_
      exact hE 2 (by decide) hk
  · have hT := q2.eq c5
    have hk : kWant A x c0 = 1 := by
      unfold kWant
      exact if_pos (q2.eq c5)
    refine x_iconst (v := 1) Γ dX3_want_8 (by decide) ?_
    refine x_goto (tgt := 46) Γ dX3_want_9 (by decide) ?_
    refine x_istore_n Γ dX3_want_46 rfl rfl (by decide) ?_
    refine x_aload_n Γ dX3_want_47 rfl rfl ?_
    refine x_iload_n Γ dX3_want_48 rfl rfl ?_
    refine x_lv [0, 1, 2] rfl ?_
    exact hE 1 (by decide) hk
set_option maxRecDepth 100000 in
theorem t_sells {o : Nat} {ad : Nat → Nat} {A : xS} {L : List Nat} {w : xW} (h : MRep G w o ad A L) {n t : Nat} (hI : aI A n) (ht : t < 24) (hL : ∀ q ∈ L, q < n) (hl : L.length ≤ n) : xMet l G yX3_sells cX3_sells 4 none ({ frames := 1, cells := 0, slots := 0, locals := 40 } : Room) [.ref o, .int (nI t)] w embV (fun _ w' => mP G o ad (fSell t A) (fFor t L) w w') := by
  refine xMet_of (by decide) (Nat.le_of_ble_eq_true rfl) ?_
  intro p e s m below meth c Γ hnm
  have hn2 := hI.2.1
  obtain ⟨ow, how8, how⟩ := hI.2.2.2.1 t ht
  obtain ⟨lr, hlr8, hlr⟩ := hI.2.2.2.2 t ht
  refine m_in h ?_
  have tail : ∀ A1, A1 = sA1 A t → xJ p l e ({ frames := 1, cells := 0, slots := 0, locals := 40 } : Room) s m ([.ref o, .int (nI t)] : List Value).toArray below meth c G 4 (MQ below (xQ G embV (fun _ w' => mP G o ad (fSell t A) (fFor t L) w w')) ([.ref o, .int (nI t)] : List Value).toArray s ({ frames := 1, cells := 0, slots := 0, locals := 40 } : Room).cells ({ frames := 1, cells := 0, slots := 0, locals := 40 } : Room).slots (xA G)) (mP G o ad A1 L w) 0 0 47 [(0, .ref o), (1, .int (nI t)), (2, .int (A 8 t)), (3, .int (sBack A t))] [] := by
    intro A1 hA1
    have h2 : ∀ j, j ≠ 2 → A1 j = A j := fun j hj => by rw [hA1]; exact sA1_j hj
    have t76 : ∀ v, v = sPaid A t → xJ p l e ({ frames := 1, cells := 0, slots := 0, locals := 40 } : Room) s m ([.ref o, .int (nI t)] : List Value).toArray below meth c G 4 (MQ below (xQ G embV (fun _ w' => mP G o ad (fSell t A) (fFor t L) w w')) ([.ref o, .int (nI t)] : List Value).toArray s ({ frames := 1, cells := 0, slots := 0, locals := 40 } : Room).cells ({ frames := 1, cells := 0, slots := 0, locals := 40 } : Room).slots (xA G)) (mP G o ad A1 L w) 0 0 76 [(0, .ref o), (1, .int (nI t)), (2, .int (A 8 t - sBack A t))] [.int v, .int (nI t), .ref (ad 11)] := by
      intro v hv
      subst hv
      refine m_ast Γ rfl rfl (by decide) (by show _ < 24; omega) dX3_sells_76 ?_
      refine x_aload_n Γ dX3_sells_77 rfl rfl ?_
      refine x_dup Γ dX3_sells_78 rfl ?_
      refine m_getiv Γ 3 (congrFun (h2 3 (by decide)) 0 : mU A1 11 t (sPaid A t) 3 0 = A 3 0) (by decide) (by decide) (fun _ => rfl) k_581 rfl dX3_sells_79 ?_
      refine x_aload_n Γ dX3_sells_82 rfl rfl ?_
      refine m_geta Γ 11 (by decide) (fun _ => rfl) k_589 rfl dX3_sells_83 ?_
      refine x_iload_n Γ dX3_sells_86 rfl rfl ?_
      refine m_aldv Γ (mU_eq A1 11 t (sPaid A t)) rfl rfl (by decide) (by show _ < 24; omega) dX3_sells_87 ?_
      refine x_iadd Γ dX3_sells_88 ?_
      refine m_puti Γ 3 (by decide) (by decide) (fun _ => rfl) k_581 rfl rfl rfl dX3_sells_89 ?_
      refine x_aload_n Γ dX3_sells_92 rfl rfl ?_
      refine m_geta Γ 2 (by decide) (fun _ => rfl) k_580 rfl dX3_sells_93 ?_
      refine x_aload_n Γ dX3_sells_96 rfl rfl ?_
      refine m_geta Γ 6 (by decide) (fun _ => rfl) k_584 rfl dX3_sells_97 ?_
      refine x_iload_n Γ dX3_sells_100 rfl rfl ?_
      refine m_aldv Γ ((congrFun (h2 6 (by decide)) t).trans how) rfl rfl (by decide) (by show _ < 24; omega) dX3_sells_101 ?_
      refine x_dup2 Γ dX3_sells_102 rfl rfl ?_
      refine m_ald Γ rfl rfl (by decide) (by show ow < 8; omega) dX3_sells_103 ?_
      refine x_iload_n Γ dX3_sells_104 rfl rfl ?_
      refine x_aload_n Γ dX3_sells_105 rfl rfl ?_
      refine m_geta Γ 11 (by decide) (fun _ => rfl) k_589 rfl dX3_sells_106 ?_
      refine x_iload_n Γ dX3_sells_109 rfl rfl ?_
      refine m_aldv Γ (mU_eq A1 11 t (sPaid A t)) rfl rfl (by decide) (by show _ < 24; omega) dX3_sells_110 ?_
      refine x_isub Γ dX3_sells_111 ?_
      refine x_iadd Γ dX3_sells_112 ?_
      refine m_ast Γ rfl rfl (by decide) (by show ow < 8; omega) dX3_sells_113 ?_
      refine x_aload_n Γ dX3_sells_114 rfl rfl ?_
      refine m_geta Γ 12 (by decide) (fun _ => rfl) k_590 rfl dX3_sells_115 ?_
      refine x_iload_n Γ dX3_sells_118 rfl rfl ?_
      refine x_iconst (v := 0) Γ dX3_sells_119 (by decide) ?_
      refine m_ast Γ rfl rfl (by decide) (by show _ < 24; omega) dX3_sells_120 ?_
      refine x_aload_n Γ dX3_sells_121 rfl rfl ?_
      refine m_geta Γ 14 (by decide) (fun _ => rfl) k_592 rfl dX3_sells_122 ?_
      refine x_iload_n Γ dX3_sells_125 rfl rfl ?_
      refine x_iconst (v := (-1)) Γ dX3_sells_126 (by decide) ?_
      refine m_ast Γ rfl rfl (by decide) (by show _ < 24; omega) dX3_sells_127 ?_
      refine x_aload_n Γ dX3_sells_128 rfl rfl ?_
      refine m_geta Γ 9 (by decide) (fun _ => rfl) k_587 rfl dX3_sells_129 ?_
      refine x_iload_n Γ dX3_sells_132 rfl rfl ?_
      refine x_bipush (v := 11) Γ dX3_sells_133 (by decide) ?_
      refine m_ast Γ rfl rfl (by decide) (by show _ < 24; omega) dX3_sells_135 ?_
      refine x_aload_n Γ dX3_sells_136 rfl rfl ?_
      refine x_iload_n Γ dX3_sells_137 rfl rfl ?_
      refine x_invV (emb := embV) (ci := 4) (rm := ({ frames := 0, cells := 0, slots := 0, locals := 0 } : Room)) Γ [.int (nI t)] (fun w1 _ w2 => mP G o ad (fSell t A) (fFor t L) w1 w2) rfl (fun w1 h1 => by have := t_forgets (l := l) h1.1 (t := t) ht (by omega) (fun q hq => by have := hL q hq; omega); unfold fSell sA3 sA2; rw [how, ixn (by omega), ← hA1]; exact this) m_obj rfl k_684 k_6 k_681 k_683 s_28 hd_X3_forgets ⟨Nat.le_of_ble_eq_true rfl, Nat.le_of_ble_eq_true rfl⟩ ⟨Nat.le_of_ble_eq_true rfl, Nat.le_of_ble_eq_true rfl⟩ (Nat.le_of_ble_eq_true rfl) dX3_sells_138 (fun _ => ?_)
      refine m_then0 (A' := fSell t A) (L' := fFor t L) ?_
      exact x_vret Γ rfl (fun w2 e2 => e2) ⟨Nat.le_of_ble_eq_true rfl, Nat.le_of_ble_eq_true rfl⟩ dX3_sells_141
    refine x_iload_n Γ dX3_sells_47 rfl rfl ?_
    refine x_iload_n Γ dX3_sells_48 rfl rfl ?_
    refine x_isub Γ dX3_sells_49 ?_
    refine x_istore_n Γ dX3_sells_50 rfl rfl (by decide) ?_
    refine x_aload_n Γ dX3_sells_51 rfl rfl ?_
    refine m_geta Γ 11 (by decide) (fun _ => rfl) k_589 rfl dX3_sells_52 ?_
    refine x_iload_n Γ dX3_sells_55 rfl rfl ?_
    refine x_aload_n Γ dX3_sells_56 rfl rfl ?_
    refine m_geta Γ 11 (by decide) (fun _ => rfl) k_589 rfl dX3_sells_57 ?_
    refine x_iload_n Γ dX3_sells_60 rfl rfl ?_
    refine m_aldv Γ (congrFun (h2 11 (by decide)) t) rfl rfl (by decide) (by show _ < 24; omega) dX3_sells_61 ?_
    refine x_iload_n Γ dX3_sells_62 rfl rfl ?_
    refine x_icmp_ge (tgt := 75) Γ dX3_sells_63 (by decide) (fun c63 => ?_) (fun c63 => ?_)
    · refine x_iload_n Γ dX3_sells_75 rfl rfl ?_
      refine x_lv [0, 1, 2] rfl ?_
      exact t76 _ (by unfold sPaid imn; first | rw [if_pos (Int32.not_le.mp c63)] | rw [if_neg (Int32.not_lt.mpr c63)])
    · refine x_aload_n Γ dX3_sells_66 rfl rfl ?_
      refine m_geta Γ 11 (by decide) (fun _ => rfl) k_589 rfl dX3_sells_67 ?_
      refine x_iload_n Γ dX3_sells_70 rfl rfl ?_
      refine m_aldv Γ (congrFun (h2 11 (by decide)) t) rfl rfl (by decide) (by show _ < 24; omega) dX3_sells_71 ?_
      refine x_goto (tgt := 76) Γ dX3_sells_72 (by decide) ?_
      refine x_lv [0, 1, 2] rfl ?_
      exact t76 _ (by unfold sPaid imn; first | rw [if_pos (Int32.not_le.mp c63)] | rw [if_neg (Int32.not_lt.mpr c63)])
  have t27 : ∀ v, v = sBack A t → xJ p l e ({ frames := 1, cells := 0, slots := 0, locals := 40 } : Room) s m ([.ref o, .int (nI t)] : List Value).toArray below meth c G 4 (MQ below (xQ G embV (fun _ w' => mP G o ad (fSell t A) (fFor t L) w w')) ([.ref o, .int (nI t)] : List Value).toArray s ({ frames := 1, cells := 0, slots := 0, locals := 40 } : Room).cells ({ frames := 1, cells := 0, slots := 0, locals := 40 } : Room).slots (xA G)) (mP G o ad A L w) 0 0 27 [(0, .ref o), (1, .int (nI t)), (2, .int (A 8 t))] [.int v] := by
    intro v hv
    subst hv
    refine x_istore_n Γ dX3_sells_27 rfl rfl (by decide) ?_
    refine x_iload_n Γ dX3_sells_28 rfl rfl ?_
    refine x_if_le (tgt := 47) Γ dX3_sells_29 (by decide) (fun c29 => ?_) (fun c29 => ?_)
    · refine x_lv [0, 1, 2, 3] rfl ?_
      exact tail A (by unfold sA1; rw [if_neg (Int32.not_lt.mpr c29)])
    · refine x_aload_n Γ dX3_sells_32 rfl rfl ?_
      refine m_geta Γ 2 (by decide) (fun _ => rfl) k_580 rfl dX3_sells_33 ?_
      refine x_aload_n Γ dX3_sells_36 rfl rfl ?_
      refine m_geta Γ 13 (by decide) (fun _ => rfl) k_591 rfl dX3_sells_37 ?_
      refine x_iload_n Γ dX3_sells_40 rfl rfl ?_
      refine m_aldv Γ hlr rfl rfl (by decide) (by show _ < 24; omega) dX3_sells_41 ?_
      refine x_dup2 Γ dX3_sells_42 rfl rfl ?_
      refine m_ald Γ rfl rfl (by decide) (by show lr < 8; omega) dX3_sells_43 ?_
      refine x_iload_n Γ dX3_sells_44 rfl rfl ?_
      refine x_iadd Γ dX3_sells_45 ?_
      refine m_ast Γ rfl rfl (by decide) (by show lr < 8; omega) dX3_sells_46 ?_
      refine x_lv [0, 1, 2, 3] rfl ?_
      exact tail _ (by unfold sA1; rw [if_pos (Int32.not_le.mp c29), hlr, ixn (by omega)])
  refine x_aload_n Γ dX3_sells_0 rfl rfl ?_
  refine m_geta Γ 8 (by decide) (fun _ => rfl) k_586 rfl dX3_sells_1 ?_
  refine x_iload_n Γ dX3_sells_4 rfl rfl ?_
  refine m_ald Γ rfl rfl (by decide) (by show _ < 24; omega) dX3_sells_5 ?_
  refine x_istore_n Γ dX3_sells_6 rfl rfl (by decide) ?_
  refine x_aload_n Γ dX3_sells_7 rfl rfl ?_
  refine m_geta Γ 12 (by decide) (fun _ => rfl) k_590 rfl dX3_sells_8 ?_
  refine x_iload_n Γ dX3_sells_11 rfl rfl ?_
  refine m_ald Γ rfl rfl (by decide) (by show _ < 24; omega) dX3_sells_12 ?_
  refine x_iload_n Γ dX3_sells_13 rfl rfl ?_
  refine x_icmp_ge (tgt := 26) Γ dX3_sells_14 (by decide) (fun c14 => ?_) (fun c14 => ?_)
  · refine x_iload_n Γ dX3_sells_26 rfl rfl ?_
    refine x_lv [0, 1, 2] rfl ?_
    exact t27 _ (by unfold sBack imn; first | rw [if_pos (Int32.not_le.mp c14)] | rw [if_neg (Int32.not_lt.mpr c14)])
  · refine x_aload_n Γ dX3_sells_17 rfl rfl ?_
    refine m_geta Γ 12 (by decide) (fun _ => rfl) k_590 rfl dX3_sells_18 ?_
    refine x_iload_n Γ dX3_sells_21 rfl rfl ?_
    refine m_ald Γ rfl rfl (by decide) (by show _ < 24; omega) dX3_sells_22 ?_
    refine x_goto (tgt := 27) Γ dX3_sells_23 (by decide) ?_
    refine x_lv [0, 1, 2] rfl ?_
    exact t27 _ (by unfold sBack imn; first | rw [if_pos (Int32.not_le.mp c14)] | rw [if_neg (Int32.not_lt.mpr c14)])
set_option maxRecDepth 100000 in
theorem t_drives {o : Nat} {ad : Nat → Nat} {A : xS} {L : List Nat} {w : xW} (h : MRep G w o ad A L) {n : Nat} (hI : aI A n) (hLI : lI A n L) : xMet l G yX3_drives cX3_drives 5 none ({ frames := 1, cells := 0, slots := 0, locals := 40 } : Room) [.ref o] w embV (fun _ w' => mP G o ad (fDrv n L (A 1 0, A, L)).2.1 (fDrv n L (A 1 0, A, L)).2.2 w w') := by
  refine xMet_of (by decide) (Nat.le_of_ble_eq_true rfl) ?_
  intro p e s m below meth c Γ hnm
  have hn2 := hI.2.1
  refine m_in h ?_
  have loop : ∀ R P left B, aI B n → lI B n (P ++ R) → fDrv n R (left, B, P ++ R) = fDrv n L (A 1 0, A, L) → xJ p l e ({ frames := 1, cells := 0, slots := 0, locals := 40 } : Room) s m ([.ref o] : List Value).toArray below meth c G 5 (MQ below (xQ G embV (fun _ w' => mP G o ad (fDrv n L (A 1 0, A, L)).2.1 (fDrv n L (A 1 0, A, L)).2.2 w w')) ([.ref o] : List Value).toArray s ({ frames := 1, cells := 0, slots := 0, locals := 40 } : Room).cells ({ frames := 1, cells := 0, slots := 0, locals := 40 } : Room).slots (xA G)) (mP G o ad B (P ++ R) w) 0 0 7 [(0, .ref o), (1, .int left), (2, .int (nI P.length))] [] := by
    intro R
    induction R with
    | nil =>
      intro P left B hB hl hF
      rw [List.append_nil] at hF hl ⊢
      refine x_iload_n Γ dX3_drives_7 rfl rfl ?_
      refine x_aload_n Γ dX3_drives_8 rfl rfl ?_
      refine m_getw Γ k_595 dX3_drives_9 ?_
      refine x_icmp_ge (tgt := 103) Γ dX3_drives_12 (by decide) (fun c12 => ?_) (fun c12 => absurd (Int32.le_refl _) c12)
      exact x_vret Γ rfl (fun w2 e2 => by rw [← hF]; exact e2) ⟨Nat.le_of_ble_eq_true rfl, Nat.le_of_ble_eq_true rfl⟩ dX3_drives_103
    | cons t rr ih =>
      intro P left B hB hl hF
      have hlen := hl.1
      rw [List.length_append, List.length_cons] at hlen
      obtain ⟨htn, ci, hci, hg⟩ := hl.2.2 t (List.mem_append_right _ List.mem_cons_self)
      have ht : t < 24 := by omega
      have hat : (P ++ t :: rr)[P.length]? = some t := by rw [List.getElem?_append_right (Nat.le_refl _), Nat.sub_self]; rfl
      have hmid := fFor_mid hl.2.1
      have hno : ¬ fDrvT n B left t → xJ p l e ({ frames := 1, cells := 0, slots := 0, locals := 40 } : Room) s m ([.ref o] : List Value).toArray below meth c G 5 (MQ below (xQ G embV (fun _ w' => mP G o ad (fDrv n L (A 1 0, A, L)).2.1 (fDrv n L (A 1 0, A, L)).2.2 w w')) ([.ref o] : List Value).toArray s ({ frames := 1, cells := 0, slots := 0, locals := 40 } : Room).cells ({ frames := 1, cells := 0, slots := 0, locals := 40 } : Room).slots (xA G)) (mP G o ad B (P ++ t :: rr) w) 0 0 97 [(0, .ref o), (1, .int left), (2, .int (nI P.length))] [] := by
        intro hD
        rw [fDrv, if_neg hD] at hF
        refine x_iinc (v := _ + 1) Γ dX3_drives_97 rfl rfl rfl (by decide) ?_
        rw [nI_1]
        refine x_goto (tgt := 7) Γ dX3_drives_100 (by decide) ?_
        refine x_lv [0, 1, 2] rfl ?_
        have := ih (P ++ [t]) left B hB
        rw [List.append_assoc, List.length_append] at this
        exact this hl hF
      refine x_iload_n Γ dX3_drives_7 rfl rfl ?_
      refine x_aload_n Γ dX3_drives_8 rfl rfl ?_
      refine m_getw Γ k_595 dX3_drives_9 ?_
      refine x_icmp_ge (tgt := 103) Γ dX3_drives_12 (by decide) (fun c12 => absurd c12 (nI_ge (by rw [List.length_append, List.length_cons]; omega) (by rw [List.length_append, List.length_cons]; omega))) (fun c12 => ?_)
      refine x_aload_n Γ dX3_drives_15 rfl rfl ?_
      refine m_geta Γ 16 (by decide) (fun _ => rfl) k_594 rfl dX3_drives_16 ?_
      refine x_iload_n Γ dX3_drives_19 rfl rfl ?_
      refine m_aldw Γ (t := t) (L := P ++ t :: rr) (i := P.length) hat (by rw [List.length_append, List.length_cons]; omega) dX3_drives_20 ?_
      refine x_istore_n Γ dX3_drives_21 rfl rfl (by decide) ?_
      refine x_aload_n Γ dX3_drives_22 rfl rfl ?_
      refine m_geta Γ 15 (by decide) (fun _ => rfl) k_593 rfl dX3_drives_23 ?_
      refine x_iload_n Γ dX3_drives_26 rfl rfl ?_
      refine m_aldv Γ hg rfl rfl (by decide) (by show _ < 24; omega) dX3_drives_27 ?_
      refine x_istore Γ dX3_drives_28 rfl (by decide) ?_
      refine x_aload_n Γ dX3_drives_30 rfl rfl ?_
      refine m_geta Γ 12 (by decide) (fun _ => rfl) k_590 rfl dX3_drives_31 ?_
      refine x_iload_n Γ dX3_drives_34 rfl rfl ?_
      refine m_ald Γ rfl rfl (by decide) (by show _ < 24; omega) dX3_drives_35 ?_
      refine x_if_ne (tgt := 97) Γ dX3_drives_36 (by decide) (fun c36 => ?_) (fun c36 => ?_)
      · refine x_lv [0, 1, 2] rfl ?_
        exact hno (fun z => c36 z.1)
      · refine x_aload_n Γ dX3_drives_39 rfl rfl ?_
        refine m_geta Γ 7 (by decide) (fun _ => rfl) k_585 rfl dX3_drives_40 ?_
        refine x_iload_n Γ dX3_drives_43 rfl rfl ?_
        refine m_ald Γ rfl rfl (by decide) (by show _ < 24; omega) dX3_drives_44 ?_
        refine x_iload_n Γ dX3_drives_45 rfl rfl ?_
        refine x_icmp_gt (tgt := 97) Γ dX3_drives_46 (by decide) (fun c46 => ?_) (fun c46 => ?_)
        · refine x_lv [0, 1, 2] rfl ?_
          exact hno (fun z => absurd c46 (Int32.not_lt.mpr z.2.1))
        · refine x_aload_n Γ dX3_drives_49 rfl rfl ?_
          refine x_iload Γ dX3_drives_50 rfl ?_
          refine x_invV (emb := embI) (ci := 4) (rm := ({ frames := 0, cells := 0, slots := 0, locals := 0 } : Room)) Γ [.int (nI ci)] (fun w1 r w2 => r = ldF B (nI ci) n ∧ mP G o ad (B) (P ++ t :: rr) w1 w2) rfl (fun w1 h1 => t_loadOf h1.1 hB) m_obj rfl k_668 k_6 k_665 k_667 s_25 hd_X3_loadOf ⟨Nat.le_of_ble_eq_true rfl, Nat.le_of_ble_eq_true rfl⟩ ⟨Nat.le_of_ble_eq_true rfl, Nat.le_of_ble_eq_true rfl⟩ (Nat.le_of_ble_eq_true rfl) dX3_drives_52 (fun r => ?_)
          refine m_then (A' := B) (L' := P ++ t :: rr) (fun e52 => ?_)
          rw [e52]
          refine x_aload_n Γ dX3_drives_55 rfl rfl ?_
          refine m_geta Γ 7 (by decide) (fun _ => rfl) k_585 rfl dX3_drives_56 ?_
          refine x_iload_n Γ dX3_drives_59 rfl rfl ?_
          refine m_ald Γ rfl rfl (by decide) (by show _ < 24; omega) dX3_drives_60 ?_
          refine x_iadd Γ dX3_drives_61 ?_
          refine x_aload_n Γ dX3_drives_62 rfl rfl ?_
          refine m_geta Γ 0 (by decide) (fun _ => rfl) k_578 rfl dX3_drives_63 ?_
          refine x_iload Γ dX3_drives_66 rfl ?_
          refine m_ald Γ rfl rfl (by decide) (by show ci < 5; omega) dX3_drives_68 ?_
          refine x_icmp_gt (tgt := 97) Γ dX3_drives_69 (by decide) (fun c69 => ?_) (fun c69 => ?_)
          · refine x_lv [0, 1, 2] rfl ?_
            exact hno (fun z => absurd c69 (Int32.not_lt.mpr (by have := z.2.2; rw [hg, ixn (by omega)] at this; exact this)))
          · have hD : fDrvT n B left t := ⟨by first | exact c36 | exact Decidable.not_not.mp c36, Int32.not_lt.mp c46, by rw [hg, ixn (by omega)]; exact Int32.not_lt.mp c69⟩
            rw [fDrv, if_pos hD, hmid] at hF
            refine x_iload_n Γ dX3_drives_72 rfl rfl ?_
            refine x_aload_n Γ dX3_drives_73 rfl rfl ?_
            refine m_geta Γ 7 (by decide) (fun _ => rfl) k_585 rfl dX3_drives_74 ?_
            refine x_iload_n Γ dX3_drives_77 rfl rfl ?_
            refine m_ald Γ rfl rfl (by decide) (by show _ < 24; omega) dX3_drives_78 ?_
            refine x_isub Γ dX3_drives_79 ?_
            refine x_istore_n Γ dX3_drives_80 rfl rfl (by decide) ?_
            refine x_aload_n Γ dX3_drives_81 rfl rfl ?_
            refine m_geta Γ 9 (by decide) (fun _ => rfl) k_587 rfl dX3_drives_82 ?_
            refine x_iload_n Γ dX3_drives_85 rfl rfl ?_
            refine x_iload Γ dX3_drives_86 rfl ?_
            refine m_ast Γ rfl rfl (by decide) (by show _ < 24; omega) dX3_drives_88 ?_
            refine x_aload_n Γ dX3_drives_89 rfl rfl ?_
            refine x_iload_n Γ dX3_drives_90 rfl rfl ?_
            refine x_invV (emb := embV) (ci := 4) (rm := ({ frames := 0, cells := 0, slots := 0, locals := 0 } : Room)) Γ [.int (nI t)] (fun w1 _ w2 => mP G o ad (fMove B t) (P ++ rr) w1 w2) rfl (fun w1 h1 => by have := t_forgets (l := l) h1.1 (t := t) ht (by rw [List.length_append, List.length_cons]; omega) (fun q hq => by have := (hl.2.2 q hq).1; omega); rw [hmid] at this; unfold fMove; rw [hg]; exact this) m_obj rfl k_684 k_6 k_681 k_683 s_28 hd_X3_forgets ⟨Nat.le_of_ble_eq_true rfl, Nat.le_of_ble_eq_true rfl⟩ ⟨Nat.le_of_ble_eq_true rfl, Nat.le_of_ble_eq_true rfl⟩ (Nat.le_of_ble_eq_true rfl) dX3_drives_91 (fun _ => ?_)
            refine m_then0 (A' := fMove B t) (L' := P ++ rr) ?_
            refine x_goto (tgt := 100) Γ dX3_drives_94 (by decide) ?_
            refine x_goto (tgt := 7) Γ dX3_drives_100 (by decide) ?_
            refine x_lv [0, 1, 2] rfl ?_
            exact ih P _ (fMove B t) (sameR_aI (sameR_move B t) hB) (by have := lI_move (t := t) hl; rw [hmid] at this; exact this) hF
  refine x_aload_n Γ dX3_drives_0 rfl rfl ?_
  refine m_geti Γ 1 (by decide) (by decide) (fun _ => rfl) k_579 rfl dX3_drives_1 ?_
  refine x_istore_n Γ dX3_drives_4 rfl rfl (by decide) ?_
  refine x_iconst (v := 0) Γ dX3_drives_5 (by decide) ?_
  refine x_istore_n Γ dX3_drives_6 rfl rfl (by decide) ?_
  refine x_lv [0, 1, 2] rfl ?_
  exact loop L [] (A 1 0) A hI hLI rfl
end XM6

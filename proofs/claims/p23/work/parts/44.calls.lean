section XLC
/-! the law's world: the class's cells, and three rows of 24 ints (sizes, owners, what was seen) -/
def lP (G : xG) (ca aa : Nat → Nat) (A : xS) (n : Nat) (L : List Nat) (D : Nat) (th : Nat → Nat) (Z : xS) : xW → Prop := fun w => (∃ T, tgI A n D T ∧ CRaw G w ca th (cB A) n L T) ∧ ∀ j, 1 ≤ j → j ≤ 3 → w (aa j) = some (j, .inl (G.2 1, 24, .inl (Z j)))
section XLCa
variable {G : xG} {ca aa th : Nat → Nat} {A : xS} {n : Nat} {L : List Nat} {D : Nat} {Z : xS} {w w' : xW}
theorem lP.q (h : lP G ca aa A n L D th Z w) {T : Nat → xTg} (hT : tgI A n D T) (h2 : cP G ca th (cB A) n L T w w') : lP G ca aa A n L D th Z w' := ⟨⟨T, hT, h2.1⟩, fun j h1 h3 => h2.2 _ _ _ (h.2 j h1 h3) (by omega)⟩
theorem lP.c (h : lP G ca aa A n L D th Z w) {th' : Nat → Nat} {A' : xS} {n' : Nat} {L' : List Nat} {D' : Nat} (h2 : cQ G ca th' A' n' L' D' w w') : lP G ca aa A' n' L' D' th' Z w' := ⟨h2.1, fun j h1 h3 => h2.2 _ _ _ (h.2 j h1 h3) (by omega)⟩
theorem lP.obj : ∀ w, lP G ca aa A n L D th Z w → ∃ k0 fs, w (ca 0) = some (k0, .inr (3, fs)) := fun w h => by
  obtain ⟨⟨T, -, h2⟩, -⟩ := h
  exact ⟨_, _, h2.1⟩
theorem lP.arr {j : Nat} (hj : 1 ≤ j ∧ j ≤ 3) : ∀ w, lP G ca aa A n L D th Z w → ∃ k0, w (aa j) = some (k0, .inl (G.2 1, 24, .inl (Z j))) := fun w h => ⟨_, h.2 j hj.1 hj.2⟩
theorem lP.ast {j : Nat} (hj : 1 ≤ j ∧ j ≤ 3) (i : Nat) (v : Int32) : ∀ w, lP G ca aa A n L D th Z w → ∃ k0, w (aa j) = some (k0, .inl (G.2 1, 24, .inl (Z j))) ∧ lP G ca aa A n L D th (mU Z j i v) (xu w (aa j) (k0, .inl (G.2 1, 24, .inl (upd (Z j) i v)))) := fun w h => by
  obtain ⟨⟨T, h1, h2⟩, h3⟩ := h
  have ha := h3 j hj.1 hj.2
  refine ⟨_, ha, ⟨T, h1, h2.kp (xKp.set ha (by omega))⟩, fun q q1 q2 => ?_⟩
  by_cases e : q = j
  · subst e
    rw [xu_eq, mU_row]
  · rw [mU_j e]
    exact xu_far (h3 q q1 q2) ha e
end XLCa
/-! the calls without a throw, with their numbers -/
section XLCb
variable {A : xS} {n : Nat} {L : List Nat} {D : Nat}
theorem e_fetch (hF : fI A n L D) {t : Nat} (ht : t < n) (h9 : A 9 t < 5) (h12 : ¬ 0 < A 12 t) : kFetch A (nI t) = 0 ∧ gFetch A L (nI t) = (A 11 t, bFetch (mU A 19 0 0) t, fFor t L) := by
  have hn := hF.1.1.2.1
  have hk : kFetch A (nI t) = 0 := by
    unfold kFetch
    rw [if_neg (not_not_intro (aI_toT hF.1.1 ht)), ixn (by omega), if_neg (fun z => z.elim (fun z => z h9) h12)]
  refine ⟨hk, ?_⟩
  unfold gFetch
  rw [fin_ok hk, ixn (by omega)]
theorem e_want (hF : fI A n L D) {t ci : Nat} (ht : t < n) (h9 : A 9 t < 5) (hci : ci < 5) (hne : ¬ A 9 t = nI ci) : kWant A (nI t) (nI ci) = 0 ∧ gWant A L (nI t) (nI ci) = (nI ((fFor t L).length + 1), mU (mU (mU A 19 0 0) 15 t (-1)) 15 t (nI ci), fFor t L ++ [t]) := by
  have hn := hF.1.1.2.1
  have hk : kWant A (nI t) (nI ci) = 0 := by
    unfold kWant
    rw [if_neg (not_not_intro (aI_toT hF.1.1 ht)), ixn (by omega), if_neg (not_not_intro ⟨nI_pos' (by omega), nI_le (b := 4) (by omega) (by decide)⟩), if_neg (fun z => z.elim (fun z => z h9) hne)]
  refine ⟨hk, ?_⟩
  unfold gWant
  rw [fin_ok hk, ixn (by omega)]
theorem e_value (hF : fI A n L D) {t v : Nat} (ht : t < n) (h9 : A 9 t < 5) (hv : v ≤ 10000) : kValue A (nI t) (nI v) = 0 ∧ gValue A L (nI t) (nI v) = (A 8 t, mU (mU A 19 0 0) 8 t (nI v), L) := by
  have hn := hF.1.1.2.1
  have hk : kValue A (nI t) (nI v) = 0 := by
    unfold kValue
    rw [if_neg (not_not_intro (aI_toT hF.1.1 ht)), ixn (by omega), if_neg (not_not_intro ⟨nI_pos' (by omega), nI_le (b := 10000) (by omega) (by decide)⟩), if_neg (not_not_intro h9)]
  refine ⟨hk, ?_⟩
  unfold gValue
  rw [fin_ok hk, ixn (by omega)]
theorem e_lend (hF : fI A n L D) {t lr z : Nat} (ht : t < n) (h9 : A 9 t < 5) (h12 : ¬ 0 < A 12 t) (hlr : lr < 8) (hz : 1 ≤ z ∧ z ≤ 20) (h8 : A 8 t = 40) (h6 : ¬ A 6 t = nI lr) : kLend A (nI t) (nI lr) (nI z) = 0 ∧ gLend A L (nI t) (nI lr) (nI z) = (0, bLend (mU A 19 0 0) t (nI lr) (nI z), L) := by
  have hn := hF.1.1.2.1
  have hk : kLend A (nI t) (nI lr) (nI z) = 0 := by
    unfold kLend
    rw [if_neg (not_not_intro (aI_toT hF.1.1 ht)), ixn (by omega), if_neg (not_not_intro ⟨⟨nI_pos' (by omega), nI_le (b := 7) (by omega) (by decide)⟩, nI_le (a := 1) (by omega) (by omega), nI_le (b := 5000) (by omega) (by decide)⟩), if_neg (fun q => ?_)]
    rcases q with q | q | q | q
    · exact q h9
    · exact h6 q
    · exact h12 q
    · rw [h8, show (40 : Int32) / 2 = nI 20 by decide] at q
      exact absurd q (nI_nlt (by omega) (by omega))
  refine ⟨hk, ?_⟩
  unfold gLend
  rw [fin_ok hk, ixn (by omega)]
theorem e_repay (hF : fI A n L D) {t : Nat} (ht : t < n) (h12 : 0 < A 12 t) : kRepay A (nI t) = 0 ∧ gRepay A L (nI t) = (A 12 t, bRepay (mU A 19 0 0) t, L) := by
  have hn := hF.1.1.2.1
  have hk : kRepay A (nI t) = 0 := by
    unfold kRepay
    rw [if_neg (not_not_intro (aI_toT hF.1.1 ht)), ixn (by omega), if_neg (fun z => by rw [z] at h12; exact absurd h12 (by decide))]
  refine ⟨hk, ?_⟩
  unfold gRepay
  rw [fin_ok hk, ixn (by omega)]
theorem e_doubt (hF : fI A n L D) {t : Nat} (ht : t < n) (h12 : 0 < A 12 t) (h14 : A 14 t = -1) : kDoubt A (nI t) = 0 ∧ gDoubt A L (nI t) = (A 4 0 + 3, mU (mU A 19 0 0) 14 t (A 4 0 + 3), L) := by
  have hn := hF.1.1.2.1
  have hk : kDoubt A (nI t) = 0 := by
    unfold kDoubt
    rw [if_neg (not_not_intro (aI_toT hF.1.1 ht)), ixn (by omega), if_neg (fun z => z.elim (fun z => by rw [z] at h12; exact absurd h12 (by decide)) (fun z => z h14))]
  refine ⟨hk, ?_⟩
  unfold gDoubt
  rw [fin_ok hk, ixn (by omega)]
theorem e_leave (hF : fI A n L D) {ow z ci : Nat} (how : ow < 8) (hz : 1 ≤ z ∧ z ≤ 3) (hci : ci < 5) (hn : n < 24) (h0 : A 0 ci = 10) (hld : ¬ 10 < ldF A (nI ci) n + nI z) : kLeave A (nI ow) (nI z) (nI ci) = 0 ∧ gLeave A L (nI ow) (nI z) (nI ci) = (nI n, bLeave (mU A 19 0 0) n (nI ow) (nI z) (nI ci), L) := by
  have h5 := hF.1.1.1
  have hk : kLeave A (nI ow) (nI z) (nI ci) = 0 := by
    unfold kLeave
    rw [if_neg (not_not_intro ⟨⟨nI_pos' (by omega), nI_le (b := 7) (by omega) (by decide)⟩, ⟨nI_le (a := 1) (by omega) (by omega), nI_le (b := 3) (by omega) (by decide)⟩, nI_pos' (by omega), nI_le (b := 4) (by omega) (by decide)⟩), h5, ixn (t := ci) (by omega), ixn (t := n) (by omega), h0, if_neg (fun q => ?_)]
    rcases q with q | q
    · exact absurd ((nI_eq (b := 24) (by omega) (by decide)).mp q) (by omega)
    · exact hld q
  refine ⟨hk, ?_⟩
  unfold gLeave
  rw [fin_ok hk, h5, ixn (t := n) (by omega)]
theorem e_pass (hF : fI A n L D) {d : Nat} (hd : 1 ≤ d ∧ d ≤ 20) (hD : D ≤ 900) : kPass A (nI d) = 0 ∧ gPass A L (nI d) = fDays n d (0, mU A 19 0 0, L) := by
  have hn := hF.1.1.2.1
  have hk : kPass A (nI d) = 0 := by
    unfold kPass
    rw [if_neg (not_not_intro ⟨nI_le (a := 1) (by omega) (by omega), nI_le (b := 40) (by omega) (by decide)⟩), hF.2.2.1, nI_add, if_neg (show ¬ (1000 : Int32) < nI (D + d) from nI_nlt (a := 1000) (b := D + d) (by omega) (by decide))]
  refine ⟨hk, ?_⟩
  unfold gPass
  rw [fin_ok hk, hF.1.1.1, ixn2 (t := n) (by omega), ixn2 (t := d) (by omega)]
end XLCb
section XLCc
variable {l : Launch} {G : xG} {ca aa th : Nat → Nat} {A : xS} {n : Nat} {L : List Nat} {D : Nat} {Z : xS} {w : xW}
abbrev RQ : Room := { frames := 5, cells := 0, slots := 0, locals := 140 }
abbrev RS1 : Room := { frames := 1, cells := 0, slots := 0, locals := 40 }
abbrev RMu : Room := { frames := 8, cells := 60, slots := 400, locals := 320 }
theorem l_where (h : lP G ca aa A n L D th Z w) (hF : fI A n L D) {t : Nat} (ht : t < n) : xMet l G yX2_where cX2_where 2 (some .int) RQ [.ref (ca 0), .int (nI t)] w embI (fun r w' => r = A 9 t ∧ lP G ca aa A n L D th Z w') := by
  have h9 := h
  obtain ⟨⟨T, hT, hC⟩, -⟩ := h9
  exact xMet_post (q_where hC hF.1 ht) (fun r w' g => ⟨g.1, h.q hT g.2⟩)
theorem l_fees (h : lP G ca aa A n L D th Z w) (hF : fI A n L D) {t : Nat} (ht : t < n) : xMet l G yX2_fees cX2_fees 2 (some .int) RQ [.ref (ca 0), .int (nI t)] w embI (fun r w' => r = A 11 t ∧ lP G ca aa A n L D th Z w') := by
  have h9 := h
  obtain ⟨⟨T, hT, hC⟩, -⟩ := h9
  exact xMet_post (q_fees hC hF.1 ht) (fun r w' g => ⟨g.1, h.q hT g.2⟩)
theorem l_loan (h : lP G ca aa A n L D th Z w) (hF : fI A n L D) {t : Nat} (ht : t < n) : xMet l G yX2_loan cX2_loan 2 (some .int) RQ [.ref (ca 0), .int (nI t)] w embI (fun r w' => r = A 12 t ∧ lP G ca aa A n L D th Z w') := by
  have h9 := h
  obtain ⟨⟨T, hT, hC⟩, -⟩ := h9
  exact xMet_post (q_loan hC hF.1 ht) (fun r w' g => ⟨g.1, h.q hT g.2⟩)
theorem l_whereOn (h : lP G ca aa A n L D th Z w) (hF : fI A n L D) {t d : Nat} (ht : t < n) (hd : d ≤ D) : xMet l G yX2_whereOn cX2_whereOn 4 (some .int) RQ [.ref (ca 0), .int (nI t), .int (nI d)] w embI (fun r w' => r = (if d = D then A 9 t else A 18 (24 * d + t)) ∧ lP G ca aa A n L D th Z w') := by
  have h9 := h
  obtain ⟨⟨T, hT, hC⟩, -⟩ := h9
  have hD := hF.2.2.2
  refine xMet_post (q_whereOn hC hF.1 hT hF.2.2.1 hD ht hd) (fun r w' g => ⟨?_, h.q hT g.2⟩)
  rw [g.1, hF.2.2.1]
  by_cases e : d = D
  · subst e; rw [if_pos rfl, if_pos rfl]
  · rw [if_neg (fun z => e ((nI_eq (by omega) (by omega)).mp z)), if_neg e]
theorem l_load (h : lP G ca aa A n L D th Z w) (hF : fI A n L D) {ci : Nat} (hci : ci < 5) : xMet l G yX2_load cX2_load 2 (some .int) RQ [.ref (ca 0), .int (nI ci)] w embI (fun r w' => r = ldF A (nI ci) n ∧ lP G ca aa A n L D th Z w') := by
  have h9 := h
  obtain ⟨⟨T, hT, hC⟩, -⟩ := h9
  exact xMet_post (q_load hC hF.1 hci) (fun r w' g => ⟨g.1, h.q hT g.2⟩)
theorem l_purse (h : lP G ca aa A n L D th Z w) (hF : fI A n L D) {i : Nat} (hi : i < 8) : xMet l G yX2_purse cX2_purse 2 (some .int) RQ [.ref (ca 0), .int (nI i)] w embI (fun r w' => r = A 2 i ∧ lP G ca aa A n L D th Z w') := by
  have h9 := h
  obtain ⟨⟨T, hT, hC⟩, -⟩ := h9
  exact xMet_post (q_purse hC hF.1 hi) (fun r w' g => ⟨g.1, h.q hT g.2⟩)
theorem l_day (h : lP G ca aa A n L D th Z w) (hF : fI A n L D) : xMet l G yX2_day cX2_day 1 (some .int) RS1 [.ref (ca 0)] w embI (fun r w' => r = nI D ∧ lP G ca aa A n L D th Z w') := by
  have h9 := h
  obtain ⟨⟨T, hT, hC⟩, -⟩ := h9
  exact xMet_post (q_day hC hF.1) (fun r w' g => ⟨g.1.trans hF.2.2.1, h.q hT g.2⟩)
theorem l_taken (h : lP G ca aa A n L D th Z w) (hF : fI A n L D) : xMet l G yX2_taken cX2_taken 1 (some .int) RS1 [.ref (ca 0)] w embI (fun r w' => r = A 3 0 ∧ lP G ca aa A n L D th Z w') := by
  have h9 := h
  obtain ⟨⟨T, hT, hC⟩, -⟩ := h9
  exact xMet_post (q_taken hC hF.1) (fun r w' g => ⟨g.1, h.q hT g.2⟩)
theorem l_things (h : lP G ca aa A n L D th Z w) (hF : fI A n L D) : xMet l G yX2_things cX2_things 1 (some .int) RS1 [.ref (ca 0)] w embI (fun r w' => r = nI n ∧ lP G ca aa A n L D th Z w') := by
  have h9 := h
  obtain ⟨⟨T, hT, hC⟩, -⟩ := h9
  exact xMet_post (q_things hC hF.1) (fun r w' g => ⟨g.1, h.q hT g.2⟩)
theorem l_fetch (hfl : l.stackTraces = false) (h : lP G ca aa A n L D th Z w) (hF : fI A n L D) {t : Nat} (ht : t < n) (h9 : A 9 t < 5) (h12 : ¬ 0 < A 12 t) : xMet l G yX2_fetch cX2_fetch 4 (some .int) RMu [.ref (ca 0), .int (nI t)] w embI (fun r w' => r = A 11 t ∧ lP G ca aa (bFetch (mU A 19 0 0) t) n (fFor t L) D th Z w') := by
  have hw := h
  obtain ⟨⟨T, hT, hC⟩, -⟩ := hw
  obtain ⟨hk, e⟩ := e_fetch hF ht h9 h12
  refine xMet_post (xMet_ofX (tc_fetch hC hfl (x := nI t) hF.1 hT hF.2.2.1 hF.2.2.2) (fun E w' g => ?_)) (fun r w' g => ?_)
  · rcases g.1 with g | g <;> (rw [hk] at g; exact absurd g.2 (by decide))
  · rw [e] at g
    exact ⟨g.1.2, h.c g.2⟩
theorem l_want (hfl : l.stackTraces = false) (h : lP G ca aa A n L D th Z w) (hF : fI A n L D) {t ci : Nat} (ht : t < n) (h9 : A 9 t < 5) (hci : ci < 5) (hne : ¬ A 9 t = nI ci) : xMet l G yX2_want cX2_want 4 (some .int) RMu [.ref (ca 0), .int (nI t), .int (nI ci)] w embI (fun r w' => r = nI ((fFor t L).length + 1) ∧ lP G ca aa (mU (mU (mU A 19 0 0) 15 t (-1)) 15 t (nI ci)) n (fFor t L ++ [t]) D th Z w') := by
  have hw := h
  obtain ⟨⟨T, hT, hC⟩, -⟩ := hw
  obtain ⟨hk, e⟩ := e_want hF ht h9 hci hne
  refine xMet_post (xMet_ofX (tc_want hC hfl (x := nI t) (c0 := nI ci) hF.1 hT hF.2.2.1 hF.2.2.2) (fun E w' g => ?_)) (fun r w' g => ?_)
  · rcases g.1 with g | g | g <;> (rw [hk] at g; exact absurd g.2 (by decide))
  · rw [e] at g
    exact ⟨g.1.2, h.c g.2⟩
theorem l_value (hfl : l.stackTraces = false) (h : lP G ca aa A n L D th Z w) (hF : fI A n L D) {t v : Nat} (ht : t < n) (h9 : A 9 t < 5) (hv : v ≤ 10000) : xMet l G yX2_value cX2_value 5 (some .int) RMu [.ref (ca 0), .int (nI t), .int (nI v)] w embI (fun r w' => r = A 8 t ∧ lP G ca aa (mU (mU A 19 0 0) 8 t (nI v)) n L D th Z w') := by
  have hw := h
  obtain ⟨⟨T, hT, hC⟩, -⟩ := hw
  obtain ⟨hk, e⟩ := e_value hF ht h9 hv
  refine xMet_post (xMet_ofX (tc_value hC hfl (x := nI t) (v := nI v) hF.1 hT hF.2.2.1 hF.2.2.2) (fun E w' g => ?_)) (fun r w' g => ?_)
  · rcases g.1 with g | g | g <;> (rw [hk] at g; exact absurd g.2 (by decide))
  · rw [e] at g
    exact ⟨g.1.2, h.c g.2⟩
theorem l_lend (hfl : l.stackTraces = false) (h : lP G ca aa A n L D th Z w) (hF : fI A n L D) {t lr z : Nat} (ht : t < n) (h9 : A 9 t < 5) (h12 : ¬ 0 < A 12 t) (hlr : lr < 8) (hz : 1 ≤ z ∧ z ≤ 20) (h8 : A 8 t = 40) (h6 : ¬ A 6 t = nI lr) : xMet l G yX2_lend cX2_lend 5 none RMu [.ref (ca 0), .int (nI t), .int (nI lr), .int (nI z)] w embV (fun _ w' => lP G ca aa (bLend (mU A 19 0 0) t (nI lr) (nI z)) n L D th Z w') := by
  have hw := h
  obtain ⟨⟨T, hT, hC⟩, -⟩ := hw
  obtain ⟨hk, e⟩ := e_lend hF ht h9 h12 hlr hz h8 h6
  refine xMet_post (xMet_ofX (tc_lend hC hfl (x := nI t) (lr := nI lr) (z := nI z) hF.1 hT hF.2.2.1 hF.2.2.2) (fun E w' g => ?_)) (fun r w' g => ?_)
  · rcases g.1 with g | g | g <;> (rw [hk] at g; exact absurd g.2 (by decide))
  · rw [e] at g
    exact h.c g.2
theorem l_repay (hfl : l.stackTraces = false) (h : lP G ca aa A n L D th Z w) (hF : fI A n L D) {t : Nat} (ht : t < n) (h12 : 0 < A 12 t) : xMet l G yX2_repay cX2_repay 4 (some .int) RMu [.ref (ca 0), .int (nI t)] w embI (fun r w' => r = A 12 t ∧ lP G ca aa (bRepay (mU A 19 0 0) t) n L D th Z w') := by
  have hw := h
  obtain ⟨⟨T, hT, hC⟩, -⟩ := hw
  obtain ⟨hk, e⟩ := e_repay hF ht h12
  refine xMet_post (xMet_ofX (tc_repay hC hfl (x := nI t) hF.1 hT hF.2.2.1 hF.2.2.2) (fun E w' g => ?_)) (fun r w' g => ?_)
  · rcases g.1 with g | g <;> (rw [hk] at g; exact absurd g.2 (by decide))
  · rw [e] at g
    exact ⟨g.1.2, h.c g.2⟩
theorem l_doubt (hfl : l.stackTraces = false) (h : lP G ca aa A n L D th Z w) (hF : fI A n L D) {t : Nat} (ht : t < n) (h12 : 0 < A 12 t) (h14 : A 14 t = -1) : xMet l G yX2_doubt cX2_doubt 3 (some .int) RMu [.ref (ca 0), .int (nI t)] w embI (fun r w' => r = A 4 0 + 3 ∧ lP G ca aa (mU (mU A 19 0 0) 14 t (A 4 0 + 3)) n L D th Z w') := by
  have hw := h
  obtain ⟨⟨T, hT, hC⟩, -⟩ := hw
  obtain ⟨hk, e⟩ := e_doubt hF ht h12 h14
  refine xMet_post (xMet_ofX (tc_doubt hC hfl (x := nI t) hF.1 hT hF.2.2.1 hF.2.2.2) (fun E w' g => ?_)) (fun r w' g => ?_)
  · rcases g.1 with g | g <;> (rw [hk] at g; exact absurd g.2 (by decide))
  · rw [e] at g
    exact ⟨g.1.2, h.c g.2⟩
theorem l_leave (hfl : l.stackTraces = false) (h : lP G ca aa A n L D th Z w) (hF : fI A n L D) {ow z ci : Nat} (how : ow < 8) (hz : 1 ≤ z ∧ z ≤ 3) (hci : ci < 5) (hn : n < 24) (h0 : A 0 ci = 10) (hld : ¬ 10 < ldF A (nI ci) n + nI z) : xMet l G yX2_leave cX2_leave 5 (some .int) RMu [.ref (ca 0), .int (nI ow), .int (nI z), .int (nI ci)] w embI (fun r w' => r = nI n ∧ ∃ th', lP G ca aa (bLeave (mU A 19 0 0) n (nI ow) (nI z) (nI ci)) (n + 1) L D th' Z w') := by
  have hw := h
  obtain ⟨⟨T, hT, hC⟩, -⟩ := hw
  obtain ⟨hk, e⟩ := e_leave hF how hz hci hn h0 hld
  refine xMet_post (xMet_ofX (tc_leave hC hfl (ow := nI ow) (z := nI z) (c0 := nI ci) hF.1 hT hF.2.2.1 hF.2.2.2) (fun E w' g => ?_)) (fun r w' g => ?_)
  · rcases g.1 with g | g <;> (rw [hk] at g; exact absurd g.2 (by decide))
  · rw [e] at g
    obtain ⟨g1, th', g2⟩ := g
    exact ⟨g1.2, th', h.c g2⟩
theorem l_pass (hfl : l.stackTraces = false) (h : lP G ca aa A n L D th Z w) (hF : fI A n L D) {d : Nat} (hd : 1 ≤ d ∧ d ≤ 20) (hD : D ≤ 900) : xMet l G yX2_pass cX2_pass 4 (some .int) RMu [.ref (ca 0), .int (nI d)] w embI (fun r w' => r = (fDays n d (0, mU A 19 0 0, L)).1 ∧ lP G ca aa (fDays n d (0, mU A 19 0 0, L)).2.1 n (fDays n d (0, mU A 19 0 0, L)).2.2 (D + d) th Z w') := by
  have hw := h
  obtain ⟨⟨T, hT, hC⟩, -⟩ := hw
  obtain ⟨hk, e⟩ := e_pass hF hd hD
  refine xMet_post (xMet_ofX (tc_pass hC hfl (v := nI d) hF.1 hT hF.2.2.1 hF.2.2.2 hF.2.1) (fun E w' g => ?_)) (fun r w' g => ?_)
  · rcases g.1 with g | g <;> (rw [hk] at g; exact absurd g.2 (by decide))
  · rw [e, ixn2 (by omega)] at g
    exact ⟨g.1.2, h.c g.2⟩
end XLCc
/-! fI of what comes out -/
section XLCd
variable {A : xS} {n : Nat} {L : List Nat} {D : Nat}
theorem s_fetch (hF : fI A n L D) {t : Nat} (ht : t < n) (h9 : A 9 t < 5) (h12 : ¬ 0 < A 12 t) : fI (bFetch (mU A 19 0 0) t) n (fFor t L) D := by
  have h := st_fetch hF (nI t)
  rw [(e_fetch hF ht h9 h12).2] at h
  exact h
theorem s_want (hF : fI A n L D) {t ci : Nat} (ht : t < n) (h9 : A 9 t < 5) (hci : ci < 5) (hne : ¬ A 9 t = nI ci) : fI (mU (mU (mU A 19 0 0) 15 t (-1)) 15 t (nI ci)) n (fFor t L ++ [t]) D := by
  have h := st_want hF (nI t) (nI ci)
  rw [(e_want hF ht h9 hci hne).2] at h
  exact h
theorem s_value (hF : fI A n L D) {t v : Nat} (ht : t < n) (h9 : A 9 t < 5) (hv : v ≤ 10000) : fI (mU (mU A 19 0 0) 8 t (nI v)) n L D := by
  have h := st_value hF (nI t) (nI v)
  rw [(e_value hF ht h9 hv).2] at h
  exact h
theorem s_lend (hF : fI A n L D) {t lr z : Nat} (ht : t < n) (h9 : A 9 t < 5) (h12 : ¬ 0 < A 12 t) (hlr : lr < 8) (hz : 1 ≤ z ∧ z ≤ 20) (h8 : A 8 t = 40) (h6 : ¬ A 6 t = nI lr) : fI (bLend (mU A 19 0 0) t (nI lr) (nI z)) n L D := by
  have h := st_lend hF (nI t) (nI lr) (nI z)
  rw [(e_lend hF ht h9 h12 hlr hz h8 h6).2] at h
  exact h
theorem s_repay (hF : fI A n L D) {t : Nat} (ht : t < n) (h12 : 0 < A 12 t) : fI (bRepay (mU A 19 0 0) t) n L D := by
  have h := st_repay hF (nI t)
  rw [(e_repay hF ht h12).2] at h
  exact h
theorem s_doubt (hF : fI A n L D) {t : Nat} (ht : t < n) (h12 : 0 < A 12 t) (h14 : A 14 t = -1) : fI (mU (mU A 19 0 0) 14 t (A 4 0 + 3)) n L D := by
  have h := st_doubt hF (nI t)
  rw [(e_doubt hF ht h12 h14).2] at h
  exact h
theorem s_leave (hF : fI A n L D) {ow z ci : Nat} (how : ow < 8) (hz : 1 ≤ z ∧ z ≤ 3) (hci : ci < 5) (hn : n < 24) (h0 : A 0 ci = 10) (hld : ¬ 10 < ldF A (nI ci) n + nI z) : fI (bLeave (mU A 19 0 0) n (nI ow) (nI z) (nI ci)) (n + 1) L D := by
  obtain ⟨hk, e⟩ := e_leave hF how hz hci hn h0 hld
  have h := st_leave hF (nI ow) (nI z) (nI ci) hk
  rw [e] at h
  exact h
theorem s_pass (hF : fI A n L D) {d : Nat} (hd : 1 ≤ d ∧ d ≤ 20) (hD : D ≤ 900) : fI (fDays n d (0, mU A 19 0 0, L)).2.1 n (fDays n d (0, mU A 19 0 0, L)).2.2 (D + d) := fDays_P hF d (by omega)
end XLCd
end XLC

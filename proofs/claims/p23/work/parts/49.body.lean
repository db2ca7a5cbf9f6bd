section XLB
def Rm11 : Room := { frames := 11, cells := 662782, slots := 7113121, locals := 418 }
def wI (A : xS) (n : Nat) (L : List Nat) (D : Nat) (Z : xS) (j : Nat) : Prop :=
  fI A n L D ∧ jI A n D (6 * D) (400 * j) ∧ D ≤ 919 ∧ (∀ t, t < n → Z 1 t = A 7 t) ∧ (∀ t, t < n → Z 2 t = A 6 t) ∧ ∀ t, t < 24 → Z 3 t < 10 ∨ (t < n ∧ A 9 t = Z 3 t)
theorem ps_ok {A A' : xS} {n n' D D' F F' m m' : Nat} (h : jI A n D F m) (h' : jI A' n' D' F' m') (hm : m ≤ 1000000) (hm' : m' ≤ 1000000) (hs : psZ A 8 ≤ psZ A' 8) : ¬ psI A' 8 < psI A 8 := by
  obtain ⟨-, -, -, -, -, -, ⟨g7, g8⟩, -⟩ := h
  obtain ⟨-, -, -, -, -, -, ⟨k7, k8⟩, -⟩ := h'
  have e1 := psI_int g7 (by omega) 8 (Nat.le_refl 8)
  have e2 := psI_int k7 (by omega) 8 (Nat.le_refl 8)
  intro z
  have := i_lt.mp z
  omega
theorem see_on {A A' Z Z' : xS} {n n' : Nat} (hn : n ≤ n') (hr : rs n A A') (hz : Z' 3 = Z 3) (h : ∀ t, t < 24 → Z 3 t < 10 ∨ (t < n ∧ A 9 t = Z 3 t)) : ∀ t, t < 24 → Z' 3 t < 10 ∨ (t < n' ∧ A' 9 t = Z' 3 t) := fun t ht => by
  rw [hz]
  rcases h t ht with g | ⟨g1, g2⟩
  · exact Or.inl g
  · by_cases c : A 9 t < 5
    · refine Or.inl ?_
      rw [← g2]
      have := i_lt.mp c
      rw [i_lt]
      have e5 : (5 : Int32).toInt = 5 := by decide
      have e10 : (10 : Int32).toInt = 10 := by decide
      omega
    · exact Or.inr ⟨by omega, by rw [hr.1 t g1 c, g2]⟩
variable {p : Program} {l : Launch} {e : Env} {s : State} {m : MethodId} {args : Array Value} {below : List Frame} {meth : Method} {c : Code} {G : xG} {Q : State → Prop}
variable {ca aa th : Nat → Nat} {A : xS} {n : Nat} {L : List Nat} {D j v u : Nat} {Z : xS}
abbrev lLv (G : xG) (ca aa : Nat → Nat) (j : Nat) : List (Nat × Value) := [(0, .ref (G.2 6)), (1, .ref (ca 0)), (2, .ref (aa 1)), (3, .ref (aa 2)), (4, .ref (aa 3)), (5, .int 1), (6, .int (nI j))]
def lHead (p : Program) (l : Launch) (e : Env) (s : State) (m : MethodId) (args : Array Value) (below : List Frame) (meth : Method) (c : Code) (G : xG) (Q : State → Prop) (ca aa : Nat → Nat) (j : Nat) : Prop :=
  ∀ (A : xS) (n : Nat) (L : List Nat) (D : Nat) (th : Nat → Nat) (Z : xS) (lx : List (Nat × Value)), wI A n L D Z j → xpick lx [0, 1, 2, 3, 4, 5, 6] = lLv G ca aa j → xJ p l e Rm11 s m args below meth c G 17 Q (lP G ca aa A n L D th Z) (30 + 200 * j) (200 + 1400 * j) 48 lx []
set_option maxRecDepth 100000 in
theorem lw_386 (Γ : xC p s m meth c G cL_law 17 "LeftThingsLaw" (some .boolean)) (hfl : l.stackTraces = false) (hj : j < 60) {bp bt : Int32} (hW : wI A n L D Z (j + 1)) (hp : ¬ psI A 8 < bp) (ht : ¬ A 3 0 < bt) (hk : lHead p l e s m args below meth c G Q ca aa (j + 1)) : xJ p l e Rm11 s m args below meth c G 17 Q (lP G ca aa A n L D th Z) (30 + 200 * (j + 1)) (200 + 1400 * (j + 1)) 386 [(0, .ref (G.2 6)), (1, .ref (ca 0)), (2, .ref (aa 1)), (3, .ref (aa 2)), (4, .ref (aa 3)), (5, .int 1), (6, .int (nI j)), (10, .int bp), (11, .int bt)] [] := by
  refine x_iload Γ dL_law_386 rfl ?_
  refine x_if_eq (tgt := 423) Γ dL_law_388 (by decide) (fun c388 => absurd c388 (by decide)) (fun c388 => ?_)
  refine x_aload_n Γ dL_law_391 rfl rfl ?_
  refine x_invS (emb := embI) (rm := ({ frames := 6, cells := 0, slots := 0, locals := 165 } : Room)) Γ [.ref (ca 0)] (fun w1 r w2 => r = psI A 8 ∧ lP G ca aa A n L D th Z w2) rfl (fun w1 h1 => w_purses h1 hW.1) k_2347 k_0 k_2345 k_2346 hd_L_purses ⟨Nat.le_of_ble_eq_true rfl, Nat.le_of_ble_eq_true rfl⟩ ⟨by show 30 + 200 * (j + 1) + 0 ≤ 662782; omega, by show 200 + 1400 * (j + 1) + 0 ≤ 7113121; omega⟩ (Nat.le_of_ble_eq_true rfl) dL_law_392 (fun r => ?_)
  refine x_then (P2 := lP G ca aa A n L D th Z) (φ := r = psI A 8) (fun w2 h2 => by obtain ⟨w1, -, h3, h4⟩ := h2; exact ⟨h3, h4⟩) (fun e9 => ?_)
  subst e9
  refine x_iload Γ dL_law_395 rfl ?_
  refine x_icmp_lt (tgt := 423) Γ dL_law_397 (by decide) (fun c397 => absurd c397 (hp)) (fun c397 => ?_)
  refine x_aload_n Γ dL_law_400 rfl rfl ?_
  refine x_invV (emb := embI) (ci := 3) (rm := RS1) Γ [] (fun w1 r w2 => r = A 3 0 ∧ lP G ca aa A n L D th Z w2) rfl (fun w1 h1 => l_taken h1 hW.1) lP.obj rfl k_95 k_1 k_2336 k_93 k_94 hd_X2_taken ⟨Nat.le_of_ble_eq_true rfl, Nat.le_of_ble_eq_true rfl⟩ ⟨by show 30 + 200 * (j + 1) + 0 ≤ 662782; omega, by show 200 + 1400 * (j + 1) + 0 ≤ 7113121; omega⟩ (Nat.le_of_ble_eq_true rfl) dL_law_401 (fun r => ?_)
  refine x_then (P2 := lP G ca aa A n L D th Z) (φ := r = A 3 0) (fun w2 h2 => by obtain ⟨w1, -, h3, h4⟩ := h2; exact ⟨h3, h4⟩) (fun e9 => ?_)
  subst e9
  refine x_iload Γ dL_law_404 rfl ?_
  refine x_icmp_lt (tgt := 423) Γ dL_law_406 (by decide) (fun c406 => absurd c406 (ht)) (fun c406 => ?_)
  refine x_aload_n Γ dL_law_409 rfl rfl ?_
  refine x_aload_n Γ dL_law_410 rfl rfl ?_
  refine x_aload Γ dL_law_411 rfl ?_
  refine x_invS (emb := embI) (rm := ({ frames := 7, cells := 0, slots := 0, locals := 200 } : Room)) Γ [.ref (ca 0), .ref (aa 1), .ref (aa 3)] (fun w1 r w2 => r = 1 ∧ lP G ca aa A n L D th (zSeen Z A n) w2) rfl (fun w1 h1 => w_areSo h1 hW.1 hW.2.1 hW.2.2.2.1 hW.2.2.2.2.2) k_2513 k_0 k_2511 k_2512 hd_L_areSo ⟨Nat.le_of_ble_eq_true rfl, Nat.le_of_ble_eq_true rfl⟩ ⟨by show 30 + 200 * (j + 1) + 0 ≤ 662782; omega, by show 200 + 1400 * (j + 1) + 0 ≤ 7113121; omega⟩ (Nat.le_of_ble_eq_true rfl) dL_law_413 (fun r => ?_)
  refine x_then (P2 := lP G ca aa A n L D th (zSeen Z A n)) (φ := r = 1) (fun w2 h2 => by obtain ⟨w1, -, h3, h4⟩ := h2; exact ⟨h3, h4⟩) (fun e9 => ?_)
  subst e9
  refine x_if_eq (tgt := 423) Γ dL_law_416 (by decide) (fun c416 => absurd c416 (by decide)) (fun c416 => ?_)
  refine x_iconst (v := 1) Γ dL_law_419 (by decide) ?_
  refine x_goto (tgt := 424) Γ dL_law_420 (by decide) ?_
  refine x_istore Γ dL_law_424 rfl (by decide) ?_
  refine x_iinc (v := nI (j + 1)) Γ dL_law_426 rfl (nI_1 j) rfl (by decide) ?_
  refine x_goto (tgt := 48) Γ dL_law_429 (by decide) ?_
  refine hk A n L D th (zSeen Z A n) _ ⟨hW.1, hW.2.1, hW.2.2.1, ?_, ?_, fun t ht9 => ?_⟩ rfl
  · rw [zSeen_j (by decide)]; exact hW.2.2.2.1
  · rw [zSeen_j (by decide)]; exact hW.2.2.2.2.1
  · by_cases c : t < n
    · exact Or.inr ⟨c, (if_pos ⟨rfl, c⟩ : zSeen Z A n 3 t = A 9 t).symm⟩
    · refine Or.inl ?_
      rw [show zSeen Z A n 3 t = Z 3 t from if_neg (fun z => c z.2)]
      exact (hW.2.2.2.2.2 t ht9).elim id (fun z => absurd z.1 c)
set_option maxRecDepth 100000 in
theorem lw_110 (Γ : xC p s m meth c G cL_law 17 "LeftThingsLaw" (some .boolean)) (hfl : l.stackTraces = false) (hj : j < 60) (hv : v < 2 ^ 31) (hu : u < 2 ^ 31) (hW : wI A n L D Z j) (hk : lHead p l e s m args below meth c G Q ca aa (j + 1)) (hn0 : 0 < n) : xJ p l e Rm11 s m args below meth c G 17 Q (lP G ca aa A n L D th Z) (30 + 200 * j) (200 + 1400 * j) 110 [(0, .ref (G.2 6)), (1, .ref (ca 0)), (2, .ref (aa 1)), (3, .ref (aa 2)), (4, .ref (aa 3)), (5, .int 1), (6, .int (nI j)), (7, .int (nI v)), (8, .int (nI u)), (9, .int (nI n)), (10, .int (psI A 8)), (11, .int (A 3 0))] [] := by
  obtain ⟨hF, hJ, hD, hz1, hz2, hsee⟩ := hW
  have hn24 := hF.1.1.2.1
  refine x_aload_n Γ dL_law_110 rfl rfl ?_
  refine x_aload_n Γ dL_law_111 rfl rfl ?_
  refine x_iload Γ dL_law_112 rfl ?_
  refine x_bipush (v := 8) Γ dL_law_114 (by decide) ?_
  refine x_idivN (a := v) (d := 8) Γ rfl rfl hv (by decide) (by decide) dL_law_116 ?_
  refine x_iload Γ dL_law_117 rfl ?_
  refine x_irem (a := v / 8) (d := n) Γ rfl rfl (by omega) hn0 (by omega) dL_law_119 ?_
  refine x_iload Γ dL_law_120 rfl ?_
  refine x_bipush (v := 8) Γ dL_law_122 (by decide) ?_
  refine x_irem (a := u) (d := 8) Γ rfl rfl hu (by decide) (by decide) dL_law_124 ?_
  refine x_iload Γ dL_law_125 rfl ?_
  refine x_bipush (v := 8) Γ dL_law_127 (by decide) ?_
  refine x_idivN (a := u) (d := 8) Γ rfl rfl hu (by decide) (by decide) dL_law_129 ?_
  refine x_invS (emb := embI) (rm := ({ frames := 9, cells := 190, slots := 1300, locals := 360 } : Room)) Γ [.ref (ca 0), .ref (aa 2), .int (nI (v / 8 % n)), .int (nI (u % 8)), .int (nI (u / 8))] (fun w1 r w2 => r = 1 ∧ leX G ca aa A n D (400 * j) th Z w2) rfl (fun w1 h1 => w_lends hfl h1 hF hJ (by omega) hD (Nat.mod_lt _ hn0) (Nat.mod_lt _ (by decide)) (by omega) hz2) k_2490 k_0 k_2488 k_2489 hd_L_lends ⟨Nat.le_of_ble_eq_true rfl, Nat.le_of_ble_eq_true rfl⟩ ⟨by show 30 + 200 * j + 190 ≤ 662782; omega, by show 200 + 1400 * j + 1300 ≤ 7113121; omega⟩ (Nat.le_of_ble_eq_true rfl) dL_law_130 (fun r => ?_)
  refine x_then (P2 := fun w2 => ∃ A' L', (fI A' n L' D ∧ jI A' n D (6 * D) (400 * j + 400) ∧ rs n A A') ∧ lP G ca aa A' n L' D th Z w2) (φ := r = 1) (fun w2 h2 => by obtain ⟨w1, -, h3, h4⟩ := h2; exact ⟨h3, h4⟩) (fun e9 => ?_)
  subst e9
  refine x_any (F := fun A' w2 => ∃ L', (fI A' n L' D ∧ jI A' n D (6 * D) (400 * j + 400) ∧ rs n A A') ∧ lP G ca aa A' n L' D th Z w2) (fun A' => ?_)
  refine x_any (F := fun L' w2 => (fI A' n L' D ∧ jI A' n D (6 * D) (400 * j + 400) ∧ rs n A A') ∧ lP G ca aa A' n L' D th Z w2) (fun L' => ?_)
  refine x_then (P2 := lP G ca aa A' n L' D th Z) (φ := fI A' n L' D ∧ jI A' n D (6 * D) (400 * j + 400) ∧ rs n A A') (fun w2 h2 => h2) (fun hh => ?_)
  obtain ⟨hF2, hJ2, hr2⟩ := hh
  refine x_istore Γ dL_law_133 rfl (by decide) ?_
  refine x_goto (tgt := 386) Γ dL_law_135 (by decide) ?_
  refine x_wide (k' := 30 + 200 * (j + 1)) (n' := 200 + 1400 * (j + 1)) (by show 30 + 200 * j + 190 ≤ 30 + 200 * (j + 1); omega) (by show 200 + 1400 * j + 1300 ≤ 200 + 1400 * (j + 1); omega) ?_
  refine x_lv [0, 1, 2, 3, 4, 5, 6, 10, 11] rfl ?_
  exact lw_386 Γ hfl hj ⟨hF2, hJ2.mono (by omega), hD, fun t ht => (hz1 t ht).trans (hr2.2.2.2 t ht).2.symm, fun t ht => (hz2 t ht).trans (hr2.2.2.2 t ht).1.symm, see_on (Nat.le_refl n) hr2 rfl hsee⟩ (ps_ok hJ hJ2 (by omega) (by omega) hr2.2.1) (fun z => by have := i_lt.mp z; have := hr2.2.2.1; omega) hk
set_option maxRecDepth 100000 in
theorem lw_354 (Γ : xC p s m meth c G cL_law 17 "LeftThingsLaw" (some .boolean)) (hfl : l.stackTraces = false) (hj : j < 60) (hv : v < 2 ^ 31) (hu : u < 2 ^ 31) (hW : wI A n L D Z j) (hk : lHead p l e s m args below meth c G Q ca aa (j + 1)) : xJ p l e Rm11 s m args below meth c G 17 Q (lP G ca aa A n L D th Z) (30 + 200 * j) (200 + 1400 * j) 354 [(0, .ref (G.2 6)), (1, .ref (ca 0)), (2, .ref (aa 1)), (3, .ref (aa 2)), (4, .ref (aa 3)), (5, .int 1), (6, .int (nI j)), (7, .int (nI v)), (8, .int (nI u)), (9, .int (nI n)), (10, .int (psI A 8)), (11, .int (A 3 0))] [] := by
  obtain ⟨hF, hJ, hD, hz1, hz2, hsee⟩ := hW
  have hn24 := hF.1.1.2.1
  refine x_aload_n Γ dL_law_354 rfl rfl ?_
  refine x_aload_n Γ dL_law_355 rfl rfl ?_
  refine x_iload Γ dL_law_356 rfl ?_
  refine x_iload Γ dL_law_358 rfl ?_
  refine x_invS (emb := embI) (rm := ({ frames := 9, cells := 130, slots := 900, locals := 360 } : Room)) Γ [.ref (ca 0), .ref (aa 1), .int (nI v), .int (nI u)] (fun w1 r w2 => r = 1 ∧ doX G ca aa A n D (400 * j) u Z w2) rfl (fun w1 h1 => w_does hfl h1 hF hJ (by omega) hD hz1 hv hu) k_2355 k_0 k_2353 k_2354 hd_L_does ⟨Nat.le_of_ble_eq_true rfl, Nat.le_of_ble_eq_true rfl⟩ ⟨by show 30 + 200 * j + 130 ≤ 662782; omega, by show 200 + 1400 * j + 900 ≤ 7113121; omega⟩ (Nat.le_of_ble_eq_true rfl) dL_law_360 (fun r => ?_)
  refine x_then (P2 := fun w2 => ∃ A' n' L' th' Z', doF A n D (400 * j) u Z A' n' L' Z' ∧ lP G ca aa A' n' L' D th' Z' w2) (φ := r = 1) (fun w2 h2 => by obtain ⟨w1, -, h3, h4⟩ := h2; exact ⟨h3, h4⟩) (fun e9 => ?_)
  subst e9
  refine x_any (F := fun A' w2 => ∃ n' L' th' Z', doF A n D (400 * j) u Z A' n' L' Z' ∧ lP G ca aa A' n' L' D th' Z' w2) (fun A' => ?_)
  refine x_any (F := fun n' w2 => ∃ L' th' Z', doF A n D (400 * j) u Z A' n' L' Z' ∧ lP G ca aa A' n' L' D th' Z' w2) (fun n' => ?_)
  refine x_any (F := fun L' w2 => ∃ th' Z', doF A n D (400 * j) u Z A' n' L' Z' ∧ lP G ca aa A' n' L' D th' Z' w2) (fun L' => ?_)
  refine x_any (F := fun th' w2 => ∃ Z', doF A n D (400 * j) u Z A' n' L' Z' ∧ lP G ca aa A' n' L' D th' Z' w2) (fun th' => ?_)
  refine x_any (F := fun Z' w2 => doF A n D (400 * j) u Z A' n' L' Z' ∧ lP G ca aa A' n' L' D th' Z' w2) (fun Z' => ?_)
  refine x_then (P2 := lP G ca aa A' n' L' D th' Z') (φ := doF A n D (400 * j) u Z A' n' L' Z') (fun w2 h2 => h2) (fun hh => ?_)
  obtain ⟨hF2, hJ2, hr2, hZ2, hZ3, hZ1, hcase⟩ := hh
  have hn24' := hF2.1.1.2.1
  refine x_istore Γ dL_law_363 rfl (by decide) ?_
  refine x_aload_n Γ dL_law_365 rfl rfl ?_
  refine x_invV (emb := embI) (ci := 3) (rm := RS1) Γ [] (fun w1 r w2 => r = nI n' ∧ lP G ca aa A' n' L' D th' Z' w2) rfl (fun w1 h1 => l_things h1 hF2) lP.obj rfl k_87 k_1 k_2295 k_85 k_86 hd_X2_things ⟨Nat.le_of_ble_eq_true rfl, Nat.le_of_ble_eq_true rfl⟩ ⟨by show 30 + 200 * j + 130 ≤ 662782; omega, by show 200 + 1400 * j + 900 ≤ 7113121; omega⟩ (Nat.le_of_ble_eq_true rfl) dL_law_366 (fun r => ?_)
  refine x_then (P2 := lP G ca aa A' n' L' D th' Z') (φ := r = nI n') (fun w2 h2 => by obtain ⟨w1, -, h3, h4⟩ := h2; exact ⟨h3, h4⟩) (fun e9 => ?_)
  subst e9
  refine x_iload Γ dL_law_369 rfl ?_
  refine x_icmp_le (tgt := 386) Γ dL_law_371 (by decide) (fun c371 => ?_) (fun c371 => ?_)
  · have hnn : n' = n := by
      have h9 := (nI_leI (a := n') (b := n) (by omega) (by omega)).mp c371
      rcases hcase with h | h
      · exact h
      · omega
    subst hnn
    refine x_wide (k' := 30 + 200 * (j + 1)) (n' := 200 + 1400 * (j + 1)) (by show 30 + 200 * j + 130 ≤ 30 + 200 * (j + 1); omega) (by show 200 + 1400 * j + 900 ≤ 200 + 1400 * (j + 1); omega) ?_
    refine x_lv [0, 1, 2, 3, 4, 5, 6, 10, 11] rfl ?_
    exact lw_386 Γ hfl hj ⟨hF2, hJ2.mono (by omega), hD, hZ1, fun t ht => by rw [hZ2, hz2 t ht, (hr2.2.2.2 t ht).1], see_on (Nat.le_refl _) hr2 hZ3 hsee⟩ (ps_ok hJ hJ2 (by omega) (by omega) hr2.2.1) (fun z => by have := i_lt.mp z; have := hr2.2.2.1; omega) hk
  · have hnn : n' = n + 1 ∧ n < 24 ∧ A' 6 n = nI (u / 15 % 8) := by
      rcases hcase with h | h
      · exact absurd (by rw [h]; exact Int32.le_refl _) c371
      · exact h
    obtain ⟨rfl, hn9, h6⟩ := hnn
    refine x_aload_n Γ dL_law_374 rfl rfl ?_
    refine x_iload Γ dL_law_375 rfl ?_
    refine x_iload Γ dL_law_377 rfl ?_
    refine x_bipush (v := 15) Γ dL_law_379 (by decide) ?_
    refine x_idivN (a := u) (d := 15) Γ rfl rfl hu (by decide) (by decide) dL_law_381 ?_
    refine x_bipush (v := 8) Γ dL_law_382 (by decide) ?_
    refine x_irem (a := u / 15) (d := 8) Γ rfl rfl (by omega) (by decide) (by decide) dL_law_384 ?_
    refine x_iast (N := 24) (f := Z' 2) (P' := lP G ca aa A' (n + 1) L' D th' (mU Z' 2 n (nI (u / 15 % 8)))) Γ (fun w1 h1 => ?_) (vp_in_nI hn9 (by decide)) dL_law_385 ?_
    · rw [nI_clamp (by omega)]
      exact lP.ast ⟨by decide, by decide⟩ n _ w1 h1
    refine x_wide (k' := 30 + 200 * (j + 1)) (n' := 200 + 1400 * (j + 1)) (by show 30 + 200 * j + 130 ≤ 30 + 200 * (j + 1); omega) (by show 200 + 1400 * j + 900 ≤ 200 + 1400 * (j + 1); omega) ?_
    refine x_lv [0, 1, 2, 3, 4, 5, 6, 10, 11] rfl ?_
    refine lw_386 Γ hfl hj ⟨hF2, hJ2.mono (by omega), hD, fun t ht => by rw [mU_j (by decide)]; exact hZ1 t ht, fun t ht => ?_, fun t ht => by rw [mU_j (by decide)]; exact see_on (Nat.le_succ n) hr2 hZ3 hsee t ht⟩ (ps_ok hJ hJ2 (by omega) (by omega) hr2.2.1) (fun z => by have := i_lt.mp z; have := hr2.2.2.1; omega) hk
    by_cases e : t = n
    · rw [e, mU_eq, h6]
    · rw [mU_i e, hZ2, hz2 t (by omega), (hr2.2.2.2 t (by omega)).1]
set_option maxRecDepth 100000 in
theorem lw_241 (Γ : xC p s m meth c G cL_law 17 "LeftThingsLaw" (some .boolean)) (hfl : l.stackTraces = false) (hj : j < 60) (hv : v < 2 ^ 31) (hu : u < 2 ^ 31) (hW : wI A n L D Z j) (hk : lHead p l e s m args below meth c G Q ca aa (j + 1)) {th0 wh0 f14 : Int32} (hsel : (th0 = -1 ∧ f14 = 0) ∨ ∃ t, t < n ∧ th0 = nI t ∧ wh0 = A 9 t ∧ (f14 = 0 ∨ (f14 = 1 ∧ 0 < A 12 t))) {d : Nat} (hd : 1 ≤ d ∧ d ≤ 20) (hD9 : D < 900) : xJ p l e Rm11 s m args below meth c G 17 Q (lP G ca aa A n L D th Z) (30 + 200 * j) (200 + 1400 * j) 241 [(0, .ref (G.2 6)), (1, .ref (ca 0)), (2, .ref (aa 1)), (3, .ref (aa 2)), (4, .ref (aa 3)), (5, .int 1), (6, .int (nI j)), (7, .int (nI v)), (8, .int (nI u)), (9, .int (nI n)), (10, .int (psI A 8)), (11, .int (A 3 0)), (12, .int th0), (13, .int wh0), (14, .int f14), (15, .int (nI D)), (16, .int (nI d))] [] := by
  obtain ⟨hF, hJ, hD, hz1, hz2, hsee⟩ := hW
  have hn24 := hF.1.1.2.1
  rcases hsel with ⟨rfl, rfl⟩ | ⟨t, ht, rfl, rfl, hs14⟩
  · refine x_aload_n Γ dL_law_241 rfl rfl ?_
    refine x_iload Γ dL_law_242 rfl ?_
    obtain ⟨hJ2, hrl, hrow, hr1, hr2⟩ := jI.days hF hJ (by omega) d (by omega)
    have hF2 := s_pass hF hd (by omega)
    have hrs := hrl.rs
    refine x_invV (emb := embI) (ci := 3) (rm := RMu) Γ [.int (nI d)] (fun w1 r w2 => r = (fDays n d (0, mU A 19 0 0, L)).1 ∧ lP G ca aa (fDays n d (0, mU A 19 0 0, L)).2.1 n (fDays n d (0, mU A 19 0 0, L)).2.2 (D + d) th Z w2) rfl (fun w1 h1 => l_pass hfl h1 hF hd (by omega)) lP.obj rfl k_488 k_1 k_2079 k_486 k_487 hd_X2_pass ⟨Nat.le_of_ble_eq_true rfl, Nat.le_of_ble_eq_true rfl⟩ ⟨by show 30 + 200 * j + 60 ≤ 662782; omega, by show 200 + 1400 * j + 400 ≤ 7113121; omega⟩ (Nat.le_of_ble_eq_true rfl) dL_law_244 (fun r => ?_)
    refine x_then (P2 := lP G ca aa (fDays n d (0, mU A 19 0 0, L)).2.1 n (fDays n d (0, mU A 19 0 0, L)).2.2 (D + d) th Z) (φ := r = (fDays n d (0, mU A 19 0 0, L)).1) (fun w2 h2 => by obtain ⟨w1, -, h3, h4⟩ := h2; exact ⟨h3, h4⟩) (fun e9 => ?_)
    subst e9
    refine x_if_lt (tgt := 309) Γ dL_law_247 (by decide) (fun c247 => absurd c247 ((fun z => by have := i_lt.mp z; rw [i_0] at this; omega))) (fun c247 => ?_)
    refine x_aload_n Γ dL_law_250 rfl rfl ?_
    refine x_invV (emb := embI) (ci := 3) (rm := RS1) Γ [] (fun w1 r w2 => r = nI (D + d) ∧ lP G ca aa (fDays n d (0, mU A 19 0 0, L)).2.1 n (fDays n d (0, mU A 19 0 0, L)).2.2 (D + d) th Z w2) rfl (fun w1 h1 => l_day h1 hF2) lP.obj rfl k_83 k_1 k_2291 k_81 k_82 hd_X2_day ⟨Nat.le_of_ble_eq_true rfl, Nat.le_of_ble_eq_true rfl⟩ ⟨by show 30 + 200 * j + 60 ≤ 662782; omega, by show 200 + 1400 * j + 400 ≤ 7113121; omega⟩ (Nat.le_of_ble_eq_true rfl) dL_law_251 (fun r => ?_)
    refine x_then (P2 := lP G ca aa (fDays n d (0, mU A 19 0 0, L)).2.1 n (fDays n d (0, mU A 19 0 0, L)).2.2 (D + d) th Z) (φ := r = nI (D + d)) (fun w2 h2 => by obtain ⟨w1, -, h3, h4⟩ := h2; exact ⟨h3, h4⟩) (fun e9 => ?_)
    subst e9
    refine x_iload Γ dL_law_254 rfl ?_
    refine x_iload Γ dL_law_256 rfl ?_
    refine x_iadd Γ dL_law_258 ?_
    rw [nI_add]
    refine x_icmp_ne (tgt := 309) Γ dL_law_259 (by decide) (fun c259 => absurd (rfl) c259) (fun c259 => ?_)
    refine x_iload Γ dL_law_262 rfl ?_
    refine x_if_lt (tgt := 305) Γ dL_law_264 (by decide) (fun c264 => ?_) (fun c264 => absurd (by decide) c264)
    refine x_iconst (v := 1) Γ dL_law_305 (by decide) ?_
    refine x_goto (tgt := 310) Γ dL_law_306 (by decide) ?_
    refine x_istore Γ dL_law_310 rfl (by decide) ?_
    refine x_iload Γ dL_law_312 rfl ?_
    refine x_if_eq (tgt := 348) Γ dL_law_314 (by decide) (fun c314 => absurd c314 (by decide)) (fun c314 => ?_)
    refine x_iload Γ dL_law_317 rfl ?_
    refine x_if_eq (tgt := 344) Γ dL_law_319 (by decide) (fun c319 => ?_) (fun c319 => absurd (rfl) c319)
    refine x_iconst (v := 1) Γ dL_law_344 (by decide) ?_
    refine x_goto (tgt := 349) Γ dL_law_345 (by decide) ?_
    refine x_istore Γ dL_law_349 rfl (by decide) ?_
    refine x_goto (tgt := 386) Γ dL_law_351 (by decide) ?_
    refine x_wide (k' := 30 + 200 * (j + 1)) (n' := 200 + 1400 * (j + 1)) (by show 30 + 200 * j + 60 ≤ 30 + 200 * (j + 1); omega) (by show 200 + 1400 * j + 400 ≤ 200 + 1400 * (j + 1); omega) ?_
    refine x_lv [0, 1, 2, 3, 4, 5, 6, 10, 11] rfl ?_
    exact lw_386 Γ hfl hj ⟨hF2, hJ2.mono (by omega), by omega, fun t ht => (hz1 t ht).trans (hrs.2.2.2 t ht).2.symm, fun t ht => (hz2 t ht).trans (hrs.2.2.2 t ht).1.symm, see_on (Nat.le_refl n) hrs rfl hsee⟩ (ps_ok hJ hJ2 (by omega) (by omega) hrs.2.1) (fun z => by have := i_lt.mp z; have := hrs.2.2.1; omega) hk
  · obtain ⟨hJ2, hrl, hrow, hr1, hr2⟩ := jI.days hF hJ (by omega) d (by omega)
    have hF2 := s_pass hF hd (by omega)
    have hrs := hrl.rs
    have k305 : ∀ k9 n9, k9 ≤ 30 + 200 * j + 60 → n9 ≤ 200 + 1400 * j + 400 → xJ p l e Rm11 s m args below meth c G 17 Q (lP G ca aa (fDays n d (0, mU A 19 0 0, L)).2.1 n (fDays n d (0, mU A 19 0 0, L)).2.2 (D + d) th Z) k9 n9 305 [(0, .ref (G.2 6)), (1, .ref (ca 0)), (2, .ref (aa 1)), (3, .ref (aa 2)), (4, .ref (aa 3)), (5, .int 1), (6, .int (nI j)), (7, .int (nI v)), (8, .int (nI u)), (9, .int (nI n)), (10, .int (psI A 8)), (11, .int (A 3 0)), (12, .int (nI t)), (13, .int (A 9 t)), (14, .int f14), (15, .int (nI D)), (16, .int (nI d))] [] := by
      intro k9 n9 hk9 hn9
      refine x_wide (k' := 30 + 200 * j + 60) (n' := 200 + 1400 * j + 400) hk9 hn9 ?_
      rcases hs14 with rfl | ⟨rfl, h12⟩
      · refine x_iconst (v := 1) Γ dL_law_305 (by decide) ?_
        refine x_goto (tgt := 310) Γ dL_law_306 (by decide) ?_
        refine x_istore Γ dL_law_310 rfl (by decide) ?_
        refine x_iload Γ dL_law_312 rfl ?_
        refine x_if_eq (tgt := 348) Γ dL_law_314 (by decide) (fun c314 => absurd c314 (by decide)) (fun c314 => ?_)
        refine x_iload Γ dL_law_317 rfl ?_
        refine x_if_eq (tgt := 344) Γ dL_law_319 (by decide) (fun c319 => ?_) (fun c319 => absurd (rfl) c319)
        refine x_iconst (v := 1) Γ dL_law_344 (by decide) ?_
        refine x_goto (tgt := 349) Γ dL_law_345 (by decide) ?_
        refine x_istore Γ dL_law_349 rfl (by decide) ?_
        refine x_goto (tgt := 386) Γ dL_law_351 (by decide) ?_
        refine x_wide (k' := 30 + 200 * (j + 1)) (n' := 200 + 1400 * (j + 1)) (by show 30 + 200 * j + 60 ≤ 30 + 200 * (j + 1); omega) (by show 200 + 1400 * j + 400 ≤ 200 + 1400 * (j + 1); omega) ?_
        refine x_lv [0, 1, 2, 3, 4, 5, 6, 10, 11] rfl ?_
        exact lw_386 Γ hfl hj ⟨hF2, hJ2.mono (by omega), by omega, fun t ht => (hz1 t ht).trans (hrs.2.2.2 t ht).2.symm, fun t ht => (hz2 t ht).trans (hrs.2.2.2 t ht).1.symm, see_on (Nat.le_refl n) hrs rfl hsee⟩ (ps_ok hJ hJ2 (by omega) (by omega) hrs.2.1) (fun z => by have := i_lt.mp z; have := hrs.2.2.1; omega) hk
      · refine x_iconst (v := 1) Γ dL_law_305 (by decide) ?_
        refine x_goto (tgt := 310) Γ dL_law_306 (by decide) ?_
        refine x_istore Γ dL_law_310 rfl (by decide) ?_
        refine x_iload Γ dL_law_312 rfl ?_
        refine x_if_eq (tgt := 348) Γ dL_law_314 (by decide) (fun c314 => absurd c314 (by decide)) (fun c314 => ?_)
        refine x_iload Γ dL_law_317 rfl ?_
        refine x_if_eq (tgt := 344) Γ dL_law_319 (by decide) (fun c319 => absurd c319 (by decide)) (fun c319 => ?_)
        refine x_aload_n Γ dL_law_322 rfl rfl ?_
        refine x_iload Γ dL_law_323 rfl ?_
        refine x_invV (emb := embI) (ci := 3) (rm := RQ) Γ [.int (nI t)] (fun w1 r w2 => r = (fDays n d (0, mU A 19 0 0, L)).2.1 9 t ∧ lP G ca aa (fDays n d (0, mU A 19 0 0, L)).2.1 n (fDays n d (0, mU A 19 0 0, L)).2.2 (D + d) th Z w2) rfl (fun w1 h1 => l_where h1 hF2 ht) lP.obj rfl k_522 k_1 k_2299 k_520 k_521 hd_X2_where ⟨Nat.le_of_ble_eq_true rfl, Nat.le_of_ble_eq_true rfl⟩ ⟨by show 30 + 200 * j + 60 ≤ 662782; omega, by show 200 + 1400 * j + 400 ≤ 7113121; omega⟩ (Nat.le_of_ble_eq_true rfl) dL_law_325 (fun r => ?_)
        refine x_then (P2 := lP G ca aa (fDays n d (0, mU A 19 0 0, L)).2.1 n (fDays n d (0, mU A 19 0 0, L)).2.2 (D + d) th Z) (φ := r = (fDays n d (0, mU A 19 0 0, L)).2.1 9 t) (fun w2 h2 => by obtain ⟨w1, -, h3, h4⟩ := h2; exact ⟨h3, h4⟩) (fun e9 => ?_)
        subst e9
        refine x_iload Γ dL_law_328 rfl ?_
        refine x_icmp_eq (tgt := 344) Γ dL_law_330 (by decide) (fun c330 => ?_) (fun c330 => ?_)
        · refine x_iconst (v := 1) Γ dL_law_344 (by decide) ?_
          refine x_goto (tgt := 349) Γ dL_law_345 (by decide) ?_
          refine x_istore Γ dL_law_349 rfl (by decide) ?_
          refine x_goto (tgt := 386) Γ dL_law_351 (by decide) ?_
          refine x_wide (k' := 30 + 200 * (j + 1)) (n' := 200 + 1400 * (j + 1)) (by show 30 + 200 * j + 60 ≤ 30 + 200 * (j + 1); omega) (by show 200 + 1400 * j + 400 ≤ 200 + 1400 * (j + 1); omega) ?_
          refine x_lv [0, 1, 2, 3, 4, 5, 6, 10, 11] rfl ?_
          exact lw_386 Γ hfl hj ⟨hF2, hJ2.mono (by omega), by omega, fun t ht => (hz1 t ht).trans (hrs.2.2.2 t ht).2.symm, fun t ht => (hz2 t ht).trans (hrs.2.2.2 t ht).1.symm, see_on (Nat.le_refl n) hrs rfl hsee⟩ (ps_ok hJ hJ2 (by omega) (by omega) hrs.2.1) (fun z => by have := i_lt.mp z; have := hrs.2.2.1; omega) hk
        · have h11 : (fDays n d (0, mU A 19 0 0, L)).2.1 9 t = 11 := (hrl.2.1 t ht h12).elim (fun z => absurd z.1 c330) id
          refine x_aload_n Γ dL_law_333 rfl rfl ?_
          refine x_iload Γ dL_law_334 rfl ?_
          refine x_invV (emb := embI) (ci := 3) (rm := RQ) Γ [.int (nI t)] (fun w1 r w2 => r = (fDays n d (0, mU A 19 0 0, L)).2.1 9 t ∧ lP G ca aa (fDays n d (0, mU A 19 0 0, L)).2.1 n (fDays n d (0, mU A 19 0 0, L)).2.2 (D + d) th Z w2) rfl (fun w1 h1 => l_where h1 hF2 ht) lP.obj rfl k_522 k_1 k_2299 k_520 k_521 hd_X2_where ⟨Nat.le_of_ble_eq_true rfl, Nat.le_of_ble_eq_true rfl⟩ ⟨by show 30 + 200 * j + 60 ≤ 662782; omega, by show 200 + 1400 * j + 400 ≤ 7113121; omega⟩ (Nat.le_of_ble_eq_true rfl) dL_law_336 (fun r => ?_)
          refine x_then (P2 := lP G ca aa (fDays n d (0, mU A 19 0 0, L)).2.1 n (fDays n d (0, mU A 19 0 0, L)).2.2 (D + d) th Z) (φ := r = (fDays n d (0, mU A 19 0 0, L)).2.1 9 t) (fun w2 h2 => by obtain ⟨w1, -, h3, h4⟩ := h2; exact ⟨h3, h4⟩) (fun e9 => ?_)
          subst e9
          refine x_bipush (v := 11) Γ dL_law_339 (by decide) ?_
          refine x_icmp_ne (tgt := 348) Γ dL_law_341 (by decide) (fun c341 => absurd (h11) c341) (fun c341 => ?_)
          refine x_iconst (v := 1) Γ dL_law_344 (by decide) ?_
          refine x_goto (tgt := 349) Γ dL_law_345 (by decide) ?_
          refine x_istore Γ dL_law_349 rfl (by decide) ?_
          refine x_goto (tgt := 386) Γ dL_law_351 (by decide) ?_
          refine x_wide (k' := 30 + 200 * (j + 1)) (n' := 200 + 1400 * (j + 1)) (by show 30 + 200 * j + 60 ≤ 30 + 200 * (j + 1); omega) (by show 200 + 1400 * j + 400 ≤ 200 + 1400 * (j + 1); omega) ?_
          refine x_lv [0, 1, 2, 3, 4, 5, 6, 10, 11] rfl ?_
          exact lw_386 Γ hfl hj ⟨hF2, hJ2.mono (by omega), by omega, fun t ht => (hz1 t ht).trans (hrs.2.2.2 t ht).2.symm, fun t ht => (hz2 t ht).trans (hrs.2.2.2 t ht).1.symm, see_on (Nat.le_refl n) hrs rfl hsee⟩ (ps_ok hJ hJ2 (by omega) (by omega) hrs.2.1) (fun z => by have := i_lt.mp z; have := hrs.2.2.1; omega) hk
    refine x_aload_n Γ dL_law_241 rfl rfl ?_
    refine x_iload Γ dL_law_242 rfl ?_
    refine x_invV (emb := embI) (ci := 3) (rm := RMu) Γ [.int (nI d)] (fun w1 r w2 => r = (fDays n d (0, mU A 19 0 0, L)).1 ∧ lP G ca aa (fDays n d (0, mU A 19 0 0, L)).2.1 n (fDays n d (0, mU A 19 0 0, L)).2.2 (D + d) th Z w2) rfl (fun w1 h1 => l_pass hfl h1 hF hd (by omega)) lP.obj rfl k_488 k_1 k_2079 k_486 k_487 hd_X2_pass ⟨Nat.le_of_ble_eq_true rfl, Nat.le_of_ble_eq_true rfl⟩ ⟨by show 30 + 200 * j + 60 ≤ 662782; omega, by show 200 + 1400 * j + 400 ≤ 7113121; omega⟩ (Nat.le_of_ble_eq_true rfl) dL_law_244 (fun r => ?_)
    refine x_then (P2 := lP G ca aa (fDays n d (0, mU A 19 0 0, L)).2.1 n (fDays n d (0, mU A 19 0 0, L)).2.2 (D + d) th Z) (φ := r = (fDays n d (0, mU A 19 0 0, L)).1) (fun w2 h2 => by obtain ⟨w1, -, h3, h4⟩ := h2; exact ⟨h3, h4⟩) (fun e9 => ?_)
    subst e9
    refine x_if_lt (tgt := 309) Γ dL_law_247 (by decide) (fun c247 => absurd c247 ((fun z => by have := i_lt.mp z; rw [i_0] at this; omega))) (fun c247 => ?_)
    refine x_aload_n Γ dL_law_250 rfl rfl ?_
    refine x_invV (emb := embI) (ci := 3) (rm := RS1) Γ [] (fun w1 r w2 => r = nI (D + d) ∧ lP G ca aa (fDays n d (0, mU A 19 0 0, L)).2.1 n (fDays n d (0, mU A 19 0 0, L)).2.2 (D + d) th Z w2) rfl (fun w1 h1 => l_day h1 hF2) lP.obj rfl k_83 k_1 k_2291 k_81 k_82 hd_X2_day ⟨Nat.le_of_ble_eq_true rfl, Nat.le_of_ble_eq_true rfl⟩ ⟨by show 30 + 200 * j + 60 ≤ 662782; omega, by show 200 + 1400 * j + 400 ≤ 7113121; omega⟩ (Nat.le_of_ble_eq_true rfl) dL_law_251 (fun r => ?_)
    refine x_then (P2 := lP G ca aa (fDays n d (0, mU A 19 0 0, L)).2.1 n (fDays n d (0, mU A 19 0 0, L)).2.2 (D + d) th Z) (φ := r = nI (D + d)) (fun w2 h2 => by obtain ⟨w1, -, h3, h4⟩ := h2; exact ⟨h3, h4⟩) (fun e9 => ?_)
    subst e9
    refine x_iload Γ dL_law_254 rfl ?_
    refine x_iload Γ dL_law_256 rfl ?_
    refine x_iadd Γ dL_law_258 ?_
    rw [nI_add]
    refine x_icmp_ne (tgt := 309) Γ dL_law_259 (by decide) (fun c259 => absurd (rfl) c259) (fun c259 => ?_)
    refine x_iload Γ dL_law_262 rfl ?_
    refine x_if_lt (tgt := 305) Γ dL_law_264 (by decide) (fun c264 => absurd c264 (nI_nonneg ht (by omega))) (fun c264 => ?_)
    refine x_aload_n Γ dL_law_267 rfl rfl ?_
    refine x_iload Γ dL_law_268 rfl ?_
    refine x_iload Γ dL_law_270 rfl ?_
    refine x_invV (emb := embI) (ci := 3) (rm := RQ) Γ [.int (nI t), .int (nI D)] (fun w1 r w2 => r = (if D = D + d then (fDays n d (0, mU A 19 0 0, L)).2.1 9 t else (fDays n d (0, mU A 19 0 0, L)).2.1 18 (24 * D + t)) ∧ lP G ca aa (fDays n d (0, mU A 19 0 0, L)).2.1 n (fDays n d (0, mU A 19 0 0, L)).2.2 (D + d) th Z w2) rfl (fun w1 h1 => l_whereOn h1 hF2 ht (by omega)) lP.obj rfl k_529 k_1 k_2323 k_527 k_528 hd_X2_whereOn ⟨Nat.le_of_ble_eq_true rfl, Nat.le_of_ble_eq_true rfl⟩ ⟨by show 30 + 200 * j + 60 ≤ 662782; omega, by show 200 + 1400 * j + 400 ≤ 7113121; omega⟩ (Nat.le_of_ble_eq_true rfl) dL_law_272 (fun r => ?_)
    refine x_then (P2 := lP G ca aa (fDays n d (0, mU A 19 0 0, L)).2.1 n (fDays n d (0, mU A 19 0 0, L)).2.2 (D + d) th Z) (φ := r = (if D = D + d then (fDays n d (0, mU A 19 0 0, L)).2.1 9 t else (fDays n d (0, mU A 19 0 0, L)).2.1 18 (24 * D + t))) (fun w2 h2 => by obtain ⟨w1, -, h3, h4⟩ := h2; exact ⟨h3, h4⟩) (fun e9 => ?_)
    rw [if_neg (by omega), hrow _ (by omega)] at e9
    subst e9
    refine x_iload Γ dL_law_275 rfl ?_
    refine x_icmp_eq (tgt := 305) Γ dL_law_277 (by decide) (fun c277 => ?_) (fun c277 => ?_)
    · exact k305 _ _ (by show 30 + 200 * j + 60 ≤ 30 + 200 * j + 60; omega) (by show 200 + 1400 * j + 400 ≤ 200 + 1400 * j + 400; omega)
    · refine x_aload_n Γ dL_law_280 rfl rfl ?_
      refine x_iload Γ dL_law_281 rfl ?_
      refine x_iload Γ dL_law_283 rfl ?_
      refine x_invV (emb := embI) (ci := 3) (rm := RQ) Γ [.int (nI t), .int (nI D)] (fun w1 r w2 => r = (if D = D + d then (fDays n d (0, mU A 19 0 0, L)).2.1 9 t else (fDays n d (0, mU A 19 0 0, L)).2.1 18 (24 * D + t)) ∧ lP G ca aa (fDays n d (0, mU A 19 0 0, L)).2.1 n (fDays n d (0, mU A 19 0 0, L)).2.2 (D + d) th Z w2) rfl (fun w1 h1 => l_whereOn h1 hF2 ht (by omega)) lP.obj rfl k_529 k_1 k_2323 k_527 k_528 hd_X2_whereOn ⟨Nat.le_of_ble_eq_true rfl, Nat.le_of_ble_eq_true rfl⟩ ⟨by show 30 + 200 * j + 60 ≤ 662782; omega, by show 200 + 1400 * j + 400 ≤ 7113121; omega⟩ (Nat.le_of_ble_eq_true rfl) dL_law_285 (fun r => ?_)
      refine x_then (P2 := lP G ca aa (fDays n d (0, mU A 19 0 0, L)).2.1 n (fDays n d (0, mU A 19 0 0, L)).2.2 (D + d) th Z) (φ := r = (if D = D + d then (fDays n d (0, mU A 19 0 0, L)).2.1 9 t else (fDays n d (0, mU A 19 0 0, L)).2.1 18 (24 * D + t))) (fun w2 h2 => by obtain ⟨w1, -, h3, h4⟩ := h2; exact ⟨h3, h4⟩) (fun e9 => ?_)
      rw [if_neg (by omega), hrow _ (by omega)] at e9
      subst e9
      refine x_bipush (v := 12) Γ dL_law_288 (by decide) ?_
      refine x_icmp_eq (tgt := 305) Γ dL_law_290 (by decide) (fun c290 => ?_) (fun c290 => ?_)
      · exact k305 _ _ (by show 30 + 200 * j + 60 ≤ 30 + 200 * j + 60; omega) (by show 200 + 1400 * j + 400 ≤ 200 + 1400 * j + 400; omega)
      · refine x_aload_n Γ dL_law_293 rfl rfl ?_
        refine x_iload Γ dL_law_294 rfl ?_
        refine x_iload Γ dL_law_296 rfl ?_
        refine x_invV (emb := embI) (ci := 3) (rm := RQ) Γ [.int (nI t), .int (nI D)] (fun w1 r w2 => r = (if D = D + d then (fDays n d (0, mU A 19 0 0, L)).2.1 9 t else (fDays n d (0, mU A 19 0 0, L)).2.1 18 (24 * D + t)) ∧ lP G ca aa (fDays n d (0, mU A 19 0 0, L)).2.1 n (fDays n d (0, mU A 19 0 0, L)).2.2 (D + d) th Z w2) rfl (fun w1 h1 => l_whereOn h1 hF2 ht (by omega)) lP.obj rfl k_529 k_1 k_2323 k_527 k_528 hd_X2_whereOn ⟨Nat.le_of_ble_eq_true rfl, Nat.le_of_ble_eq_true rfl⟩ ⟨by show 30 + 200 * j + 60 ≤ 662782; omega, by show 200 + 1400 * j + 400 ≤ 7113121; omega⟩ (Nat.le_of_ble_eq_true rfl) dL_law_298 (fun r => ?_)
        refine x_then (P2 := lP G ca aa (fDays n d (0, mU A 19 0 0, L)).2.1 n (fDays n d (0, mU A 19 0 0, L)).2.2 (D + d) th Z) (φ := r = (if D = D + d then (fDays n d (0, mU A 19 0 0, L)).2.1 9 t else (fDays n d (0, mU A 19 0 0, L)).2.1 18 (24 * D + t))) (fun w2 h2 => by obtain ⟨w1, -, h3, h4⟩ := h2; exact ⟨h3, h4⟩) (fun e9 => ?_)
        rw [if_neg (by omega), hrow _ (by omega)] at e9
        subst e9
        refine x_iconst (v := 5) Γ dL_law_301 (by decide) ?_
        refine x_icmp_ge (tgt := 309) Γ dL_law_302 (by decide) (fun c302 => absurd c302 ((fun z => by rcases hJ.2.2.2.2.2.2.2.2.1 t ht with h | h | h; exact c290 h; exact absurd h (Int32.not_lt.mpr z); exact c277 h.symm))) (fun c302 => ?_)
        exact k305 _ _ (by show 30 + 200 * j + 60 ≤ 30 + 200 * j + 60; omega) (by show 200 + 1400 * j + 400 ≤ 200 + 1400 * j + 400; omega)
set_option maxRecDepth 100000 in
theorem lw_212 (Γ : xC p s m meth c G cL_law 17 "LeftThingsLaw" (some .boolean)) (hfl : l.stackTraces = false) (hj : j < 60) (hv : v < 2 ^ 31) (hu : u < 2 ^ 31) (hW : wI A n L D Z j) (hk : lHead p l e s m args below meth c G Q ca aa (j + 1)) {th0 wh0 f14 : Int32} (hsel : (th0 = -1 ∧ f14 = 0) ∨ ∃ t, t < n ∧ th0 = nI t ∧ wh0 = A 9 t ∧ (f14 = 0 ∨ (f14 = 1 ∧ 0 < A 12 t))) (hD9 : D < 900) : xJ p l e Rm11 s m args below meth c G 17 Q (lP G ca aa A n L D th Z) (30 + 200 * j) (200 + 1400 * j) 212 [(0, .ref (G.2 6)), (1, .ref (ca 0)), (2, .ref (aa 1)), (3, .ref (aa 2)), (4, .ref (aa 3)), (5, .int 1), (6, .int (nI j)), (7, .int (nI v)), (8, .int (nI u)), (9, .int (nI n)), (10, .int (psI A 8)), (11, .int (A 3 0)), (12, .int th0), (13, .int wh0), (14, .int f14)] [] := by
  refine x_aload_n Γ dL_law_212 rfl rfl ?_
  refine x_invV (emb := embI) (ci := 3) (rm := RS1) Γ [] (fun w1 r w2 => r = nI D ∧ lP G ca aa A n L D th Z w2) rfl (fun w1 h1 => l_day h1 hW.1) lP.obj rfl k_83 k_1 k_2291 k_81 k_82 hd_X2_day ⟨Nat.le_of_ble_eq_true rfl, Nat.le_of_ble_eq_true rfl⟩ ⟨by show 30 + 200 * j + 0 ≤ 662782; omega, by show 200 + 1400 * j + 0 ≤ 7113121; omega⟩ (Nat.le_of_ble_eq_true rfl) dL_law_213 (fun r => ?_)
  refine x_then (P2 := lP G ca aa A n L D th Z) (φ := r = nI D) (fun w2 h2 => by obtain ⟨w1, -, h3, h4⟩ := h2; exact ⟨h3, h4⟩) (fun e9 => ?_)
  subst e9
  refine x_istore Γ dL_law_216 rfl (by decide) ?_
  refine x_iconst (v := 1) Γ dL_law_218 (by decide) ?_
  refine x_iload Γ dL_law_219 rfl ?_
  refine x_iload Γ dL_law_221 rfl ?_
  refine x_bipush (v := 8) Γ dL_law_223 (by decide) ?_
  refine x_irem (a := v) (d := 8) Γ rfl rfl hv (by decide) (by decide) dL_law_225 ?_
  refine x_bipush (v := 6) Γ dL_law_226 (by decide) ?_
  refine x_icmp_ne (tgt := 235) Γ dL_law_228 (by decide) (fun c228 => ?_) (fun c228 => ?_)
  · refine x_bipush (v := 20) Γ dL_law_235 (by decide) ?_
    refine x_irem (a := u) (d := 20) Γ rfl rfl hu (by decide) (by decide) dL_law_237 ?_
    refine x_iadd Γ dL_law_238 ?_
    rw [show (1 : Int32) + nI (u % 20) = nI (1 + u % 20) from nI_add 1 (u % 20)]
    refine x_istore Γ dL_law_239 rfl (by decide) ?_
    refine x_lv [0, 1, 2, 3, 4, 5, 6, 7, 8, 9, 10, 11, 12, 13, 14, 15, 16] rfl ?_
    exact lw_241 Γ hfl hj hv hu hW hk hsel (d := 1 + u % 20) ⟨by omega, by omega⟩ hD9
  · refine x_iconst (v := 3) Γ dL_law_231 (by decide) ?_
    refine x_goto (tgt := 237) Γ dL_law_232 (by decide) ?_
    refine x_irem (a := u) (d := 3) Γ rfl rfl hu (by decide) (by decide) dL_law_237 ?_
    refine x_iadd Γ dL_law_238 ?_
    rw [show (1 : Int32) + nI (u % 3) = nI (1 + u % 3) from nI_add 1 (u % 3)]
    refine x_istore Γ dL_law_239 rfl (by decide) ?_
    refine x_lv [0, 1, 2, 3, 4, 5, 6, 7, 8, 9, 10, 11, 12, 13, 14, 15, 16] rfl ?_
    exact lw_241 Γ hfl hj hv hu hW hk hsel (d := 1 + u % 3) ⟨by omega, by omega⟩ hD9
set_option maxRecDepth 100000 in
theorem lw_158 (Γ : xC p s m meth c G cL_law 17 "LeftThingsLaw" (some .boolean)) (hfl : l.stackTraces = false) (hj : j < 60) (hv : v < 2 ^ 31) (hu : u < 2 ^ 31) (hW : wI A n L D Z j) (hk : lHead p l e s m args below meth c G Q ca aa (j + 1)) (hD9 : D < 900) : xJ p l e Rm11 s m args below meth c G 17 Q (lP G ca aa A n L D th Z) (30 + 200 * j) (200 + 1400 * j) 158 [(0, .ref (G.2 6)), (1, .ref (ca 0)), (2, .ref (aa 1)), (3, .ref (aa 2)), (4, .ref (aa 3)), (5, .int 1), (6, .int (nI j)), (7, .int (nI v)), (8, .int (nI u)), (9, .int (nI n)), (10, .int (psI A 8)), (11, .int (A 3 0))] [] := by
  have hn24 := hW.1.1.1.2.1
  refine x_iload Γ dL_law_158 rfl ?_
  refine x_if_ne (tgt := 167) Γ dL_law_160 (by decide) (fun c160 => ?_) (fun c160 => ?_)
  · have hn0 : 0 < n := by
      rcases Nat.eq_zero_or_pos n with h0 | h0
      · subst h0; exact absurd rfl c160
      · exact h0
    have ht := Nat.mod_lt u hn0
    refine x_iload Γ dL_law_167 rfl ?_
    refine x_iload Γ dL_law_169 rfl ?_
    refine x_irem (a := u) (d := n) Γ rfl rfl hu hn0 (by omega) dL_law_171 ?_
    refine x_istore Γ dL_law_172 rfl (by decide) ?_
    refine x_iload Γ dL_law_174 rfl ?_
    refine x_if_ge (tgt := 183) Γ dL_law_176 (by decide) (fun c176 => ?_) (fun c176 => absurd (nI_pos' (by omega)) c176)
    refine x_aload_n Γ dL_law_183 rfl rfl ?_
    refine x_iload Γ dL_law_184 rfl ?_
    refine x_invV (emb := embI) (ci := 3) (rm := RQ) Γ [.int (nI (u % n))] (fun w1 r w2 => r = A 9 (u % n) ∧ lP G ca aa A n L D th Z w2) rfl (fun w1 h1 => l_where h1 hW.1 ht) lP.obj rfl k_522 k_1 k_2299 k_520 k_521 hd_X2_where ⟨Nat.le_of_ble_eq_true rfl, Nat.le_of_ble_eq_true rfl⟩ ⟨by show 30 + 200 * j + 0 ≤ 662782; omega, by show 200 + 1400 * j + 0 ≤ 7113121; omega⟩ (Nat.le_of_ble_eq_true rfl) dL_law_186 (fun r => ?_)
    refine x_then (P2 := lP G ca aa A n L D th Z) (φ := r = A 9 (u % n)) (fun w2 h2 => by obtain ⟨w1, -, h3, h4⟩ := h2; exact ⟨h3, h4⟩) (fun e9 => ?_)
    subst e9
    refine x_istore Γ dL_law_189 rfl (by decide) ?_
    refine x_iload Γ dL_law_191 rfl ?_
    refine x_if_lt (tgt := 209) Γ dL_law_193 (by decide) (fun c193 => absurd c193 (nI_nonneg ht (by omega))) (fun c193 => ?_)
    refine x_aload_n Γ dL_law_196 rfl rfl ?_
    refine x_iload Γ dL_law_197 rfl ?_
    refine x_invV (emb := embI) (ci := 3) (rm := RQ) Γ [.int (nI (u % n))] (fun w1 r w2 => r = A 12 (u % n) ∧ lP G ca aa A n L D th Z w2) rfl (fun w1 h1 => l_loan h1 hW.1 ht) lP.obj rfl k_555 k_1 k_2332 k_553 k_554 hd_X2_loan ⟨Nat.le_of_ble_eq_true rfl, Nat.le_of_ble_eq_true rfl⟩ ⟨by show 30 + 200 * j + 0 ≤ 662782; omega, by show 200 + 1400 * j + 0 ≤ 7113121; omega⟩ (Nat.le_of_ble_eq_true rfl) dL_law_199 (fun r => ?_)
    refine x_then (P2 := lP G ca aa A n L D th Z) (φ := r = A 12 (u % n)) (fun w2 h2 => by obtain ⟨w1, -, h3, h4⟩ := h2; exact ⟨h3, h4⟩) (fun e9 => ?_)
    subst e9
    refine x_if_le (tgt := 209) Γ dL_law_202 (by decide) (fun c202 => ?_) (fun c202 => ?_)
    · refine x_iconst (v := 0) Γ dL_law_209 (by decide) ?_
      refine x_istore Γ dL_law_210 rfl (by decide) ?_
      refine x_lv [0, 1, 2, 3, 4, 5, 6, 7, 8, 9, 10, 11, 12, 13, 14] rfl ?_
      exact lw_212 Γ hfl hj hv hu hW hk (Or.inr ⟨_, ht, rfl, rfl, Or.inl rfl⟩) hD9
    · refine x_iconst (v := 1) Γ dL_law_205 (by decide) ?_
      refine x_goto (tgt := 210) Γ dL_law_206 (by decide) ?_
      refine x_istore Γ dL_law_210 rfl (by decide) ?_
      refine x_lv [0, 1, 2, 3, 4, 5, 6, 7, 8, 9, 10, 11, 12, 13, 14] rfl ?_
      exact lw_212 Γ hfl hj hv hu hW hk (Or.inr ⟨_, ht, rfl, rfl, Or.inr ⟨rfl, Int32.not_le.mp c202⟩⟩) hD9
  · refine x_iconst (v := (-1)) Γ dL_law_163 (by decide) ?_
    refine x_goto (tgt := 172) Γ dL_law_164 (by decide) ?_
    refine x_istore Γ dL_law_172 rfl (by decide) ?_
    refine x_iload Γ dL_law_174 rfl ?_
    refine x_if_ge (tgt := 183) Γ dL_law_176 (by decide) (fun c176 => absurd c176 (by decide)) (fun c176 => ?_)
    refine x_iconst (v := 0) Γ dL_law_179 (by decide) ?_
    refine x_goto (tgt := 189) Γ dL_law_180 (by decide) ?_
    refine x_istore Γ dL_law_189 rfl (by decide) ?_
    refine x_iload Γ dL_law_191 rfl ?_
    refine x_if_lt (tgt := 209) Γ dL_law_193 (by decide) (fun c193 => ?_) (fun c193 => absurd (by decide) c193)
    refine x_iconst (v := 0) Γ dL_law_209 (by decide) ?_
    refine x_istore Γ dL_law_210 rfl (by decide) ?_
    refine x_lv [0, 1, 2, 3, 4, 5, 6, 7, 8, 9, 10, 11, 12, 13, 14] rfl ?_
    exact lw_212 Γ hfl hj hv hu hW hk (Or.inl ⟨rfl, rfl⟩) hD9
set_option maxRecDepth 100000 in
theorem lw_96 (Γ : xC p s m meth c G cL_law 17 "LeftThingsLaw" (some .boolean)) (hfl : l.stackTraces = false) (hj : j < 60) (hv : v < 2 ^ 31) (hu : u < 2 ^ 31) (hW : wI A n L D Z j) (hk : lHead p l e s m args below meth c G Q ca aa (j + 1)) : xJ p l e Rm11 s m args below meth c G 17 Q (lP G ca aa A n L D th Z) (30 + 200 * j) (200 + 1400 * j) 96 [(0, .ref (G.2 6)), (1, .ref (ca 0)), (2, .ref (aa 1)), (3, .ref (aa 2)), (4, .ref (aa 3)), (5, .int 1), (6, .int (nI j)), (7, .int (nI v)), (8, .int (nI u)), (9, .int (nI n)), (10, .int (psI A 8)), (11, .int (A 3 0))] [] := by
  have hn24 := hW.1.1.1.2.1
  have hD919 := hW.2.2.1
  have k138 : xJ p l e Rm11 s m args below meth c G 17 Q (lP G ca aa A n L D th Z) (30 + 200 * j) (200 + 1400 * j) 138 [(0, .ref (G.2 6)), (1, .ref (ca 0)), (2, .ref (aa 1)), (3, .ref (aa 2)), (4, .ref (aa 3)), (5, .int 1), (6, .int (nI j)), (7, .int (nI v)), (8, .int (nI u)), (9, .int (nI n)), (10, .int (psI A 8)), (11, .int (A 3 0))] [] := by
    refine x_iload Γ dL_law_138 rfl ?_
    refine x_bipush (v := 8) Γ dL_law_140 (by decide) ?_
    refine x_irem (a := v) (d := 8) Γ rfl rfl hv (by decide) (by decide) dL_law_142 ?_
    refine x_bipush (v := 6) Γ dL_law_143 (by decide) ?_
    refine x_icmp_lt (tgt := 354) Γ dL_law_145 (by decide) (fun c145 => ?_) (fun c145 => ?_)
    · refine x_lv [0, 1, 2, 3, 4, 5, 6, 7, 8, 9, 10, 11] rfl ?_
      exact lw_354 Γ hfl hj hv hu hW hk
    · refine x_aload_n Γ dL_law_148 rfl rfl ?_
      refine x_invV (emb := embI) (ci := 3) (rm := RS1) Γ [] (fun w1 r w2 => r = nI D ∧ lP G ca aa A n L D th Z w2) rfl (fun w1 h1 => l_day h1 hW.1) lP.obj rfl k_83 k_1 k_2291 k_81 k_82 hd_X2_day ⟨Nat.le_of_ble_eq_true rfl, Nat.le_of_ble_eq_true rfl⟩ ⟨by show 30 + 200 * j + 0 ≤ 662782; omega, by show 200 + 1400 * j + 0 ≤ 7113121; omega⟩ (Nat.le_of_ble_eq_true rfl) dL_law_149 (fun r => ?_)
      refine x_then (P2 := lP G ca aa A n L D th Z) (φ := r = nI D) (fun w2 h2 => by obtain ⟨w1, -, h3, h4⟩ := h2; exact ⟨h3, h4⟩) (fun e9 => ?_)
      subst e9
      refine x_sipush (v := 900) Γ dL_law_152 (by decide) ?_
      refine x_icmp_ge (tgt := 354) Γ dL_law_155 (by decide) (fun c155 => ?_) (fun c155 => ?_)
      · refine x_lv [0, 1, 2, 3, 4, 5, 6, 7, 8, 9, 10, 11] rfl ?_
        exact lw_354 Γ hfl hj hv hu hW hk
      · have hD9 : D < 900 := by
          rcases Nat.lt_or_ge D 900 with h | h
          · exact h
          · exact absurd (nI_le (a := 900) h (by omega)) c155
        refine x_lv [0, 1, 2, 3, 4, 5, 6, 7, 8, 9, 10, 11] rfl ?_
        exact lw_158 Γ hfl hj hv hu hW hk hD9
  refine x_iload Γ dL_law_96 rfl ?_
  refine x_bipush (v := 8) Γ dL_law_98 (by decide) ?_
  refine x_irem (a := v) (d := 8) Γ rfl rfl hv (by decide) (by decide) dL_law_100 ?_
  refine x_iconst (v := 5) Γ dL_law_101 (by decide) ?_
  refine x_icmp_ne (tgt := 138) Γ dL_law_102 (by decide) (fun c102 => ?_) (fun c102 => ?_)
  · exact k138
  · refine x_iload Γ dL_law_105 rfl ?_
    refine x_if_le (tgt := 138) Γ dL_law_107 (by decide) (fun c107 => ?_) (fun c107 => ?_)
    · exact k138
    · have hn0 : 0 < n := by
        rcases Nat.eq_zero_or_pos n with h0 | h0
        · subst h0; exact absurd (Int32.le_refl _) c107
        · exact h0
      refine x_lv [0, 1, 2, 3, 4, 5, 6, 7, 8, 9, 10, 11] rfl ?_
      exact lw_110 Γ hfl hj hv hu hW hk hn0
set_option maxRecDepth 100000 in
theorem lw_loop (Γ : xC p s m meth c G cL_law 17 "LeftThingsLaw" (some .boolean)) (hfl : l.stackTraces = false) (hret : ∀ (P : xW → Prop) (k n : Nat) (lx : List (Nat × Value)), k ≤ 662782 → n ≤ 7113121 → xJ p l e Rm11 s m args below meth c G 17 Q P k n 434 lx [.int 1]) : ∀ (d j : Nat), j + d = 60 → lHead p l e s m args below meth c G Q ca aa j := by
  intro d
  induction d with
  | zero =>
    intro j hj A n L D th Z lx hW hlx
    obtain rfl : j = 60 := by omega
    refine x_lv [0, 1, 2, 3, 4, 5, 6] hlx ?_
    refine x_iload Γ dL_law_48 rfl ?_
    refine x_bipush (v := 60) Γ dL_law_50 (by decide) ?_
    refine x_icmp_ge (tgt := 432) Γ dL_law_52 (by decide) (fun c52 => ?_) (fun c52 => absurd (Int32.le_refl _) c52)
    refine x_iload Γ dL_law_432 rfl ?_
    exact hret _ _ _ _ (by omega) (by omega)
  | succ d ih =>
    intro j hj A n L D th Z lx hW hlx
    have hj60 : j < 60 := by omega
    refine x_lv [0, 1, 2, 3, 4, 5, 6] hlx ?_
    refine x_iload Γ dL_law_48 rfl ?_
    refine x_bipush (v := 60) Γ dL_law_50 (by decide) ?_
    refine x_icmp_ge (tgt := 432) Γ dL_law_52 (by decide) (fun c52 => absurd c52 (nI_ge (b := 60) hj60 (by decide))) (fun c52 => ?_)
    refine x_iload Γ dL_law_55 rfl ?_
    refine x_if_eq (tgt := 432) Γ dL_law_57 (by decide) (fun c57 => absurd c57 (by decide)) (fun c57 => ?_)
    refine x_aload_n Γ dL_law_60 rfl rfl ?_
    refine x_iload Γ dL_law_61 rfl ?_
    refine x_invS (emb := embI) (rm := ({ frames := 0, cells := 0, slots := 0, locals := 0 } : Room)) Γ [.ref (G.2 6), .int (nI (j))] (fun w1 r w2 => (∃ v : Nat, v < 2 ^ 31 ∧ r = nI v) ∧ w2 = w1) rfl (fun w1 h1 => w_told (by omega)) k_2342 k_0 k_2340 k_2341 hd_L_told ⟨Nat.le_of_ble_eq_true rfl, Nat.le_of_ble_eq_true rfl⟩ ⟨by show 30 + 200 * j + 0 ≤ 662782; omega, by show 200 + 1400 * j + 0 ≤ 7113121; omega⟩ (Nat.le_of_ble_eq_true rfl) dL_law_63 (fun r => ?_)
    refine m_same (fun e9 => ?_)
    obtain ⟨v, hv, rfl⟩ := e9
    refine x_istore Γ dL_law_66 rfl (by decide) ?_
    refine x_aload_n Γ dL_law_68 rfl rfl ?_
    refine x_iload Γ dL_law_69 rfl ?_
    refine x_iconst (v := 2) Γ dL_law_71 (by decide) ?_
    refine x_iadd Γ dL_law_72 ?_
    rw [show nI j + (2 : Int32) = nI (j + 2) from nI_add j 2]
    refine x_invS (emb := embI) (rm := ({ frames := 0, cells := 0, slots := 0, locals := 0 } : Room)) Γ [.ref (G.2 6), .int (nI (j + 2))] (fun w1 r w2 => (∃ v : Nat, v < 2 ^ 31 ∧ r = nI v) ∧ w2 = w1) rfl (fun w1 h1 => w_told (by omega)) k_2342 k_0 k_2340 k_2341 hd_L_told ⟨Nat.le_of_ble_eq_true rfl, Nat.le_of_ble_eq_true rfl⟩ ⟨by show 30 + 200 * j + 0 ≤ 662782; omega, by show 200 + 1400 * j + 0 ≤ 7113121; omega⟩ (Nat.le_of_ble_eq_true rfl) dL_law_73 (fun r => ?_)
    refine m_same (fun e9 => ?_)
    obtain ⟨u, hu, rfl⟩ := e9
    refine x_istore Γ dL_law_76 rfl (by decide) ?_
    refine x_aload_n Γ dL_law_78 rfl rfl ?_
    refine x_invV (emb := embI) (ci := 3) (rm := RS1) Γ [] (fun w1 r w2 => r = nI n ∧ lP G ca aa A n L D th Z w2) rfl (fun w1 h1 => l_things h1 hW.1) lP.obj rfl k_87 k_1 k_2295 k_85 k_86 hd_X2_things ⟨Nat.le_of_ble_eq_true rfl, Nat.le_of_ble_eq_true rfl⟩ ⟨by show 30 + 200 * j + 0 ≤ 662782; omega, by show 200 + 1400 * j + 0 ≤ 7113121; omega⟩ (Nat.le_of_ble_eq_true rfl) dL_law_79 (fun r => ?_)
    refine x_then (P2 := lP G ca aa A n L D th Z) (φ := r = nI n) (fun w2 h2 => by obtain ⟨w1, -, h3, h4⟩ := h2; exact ⟨h3, h4⟩) (fun e9 => ?_)
    subst e9
    refine x_istore Γ dL_law_82 rfl (by decide) ?_
    refine x_aload_n Γ dL_law_84 rfl rfl ?_
    refine x_invS (emb := embI) (rm := ({ frames := 6, cells := 0, slots := 0, locals := 165 } : Room)) Γ [.ref (ca 0)] (fun w1 r w2 => r = psI A 8 ∧ lP G ca aa A n L D th Z w2) rfl (fun w1 h1 => w_purses h1 hW.1) k_2347 k_0 k_2345 k_2346 hd_L_purses ⟨Nat.le_of_ble_eq_true rfl, Nat.le_of_ble_eq_true rfl⟩ ⟨by show 30 + 200 * j + 0 ≤ 662782; omega, by show 200 + 1400 * j + 0 ≤ 7113121; omega⟩ (Nat.le_of_ble_eq_true rfl) dL_law_85 (fun r => ?_)
    refine x_then (P2 := lP G ca aa A n L D th Z) (φ := r = psI A 8) (fun w2 h2 => by obtain ⟨w1, -, h3, h4⟩ := h2; exact ⟨h3, h4⟩) (fun e9 => ?_)
    subst e9
    refine x_istore Γ dL_law_88 rfl (by decide) ?_
    refine x_aload_n Γ dL_law_90 rfl rfl ?_
    refine x_invV (emb := embI) (ci := 3) (rm := RS1) Γ [] (fun w1 r w2 => r = A 3 0 ∧ lP G ca aa A n L D th Z w2) rfl (fun w1 h1 => l_taken h1 hW.1) lP.obj rfl k_95 k_1 k_2336 k_93 k_94 hd_X2_taken ⟨Nat.le_of_ble_eq_true rfl, Nat.le_of_ble_eq_true rfl⟩ ⟨by show 30 + 200 * j + 0 ≤ 662782; omega, by show 200 + 1400 * j + 0 ≤ 7113121; omega⟩ (Nat.le_of_ble_eq_true rfl) dL_law_91 (fun r => ?_)
    refine x_then (P2 := lP G ca aa A n L D th Z) (φ := r = A 3 0) (fun w2 h2 => by obtain ⟨w1, -, h3, h4⟩ := h2; exact ⟨h3, h4⟩) (fun e9 => ?_)
    subst e9
    refine x_istore Γ dL_law_94 rfl (by decide) ?_
    refine x_lv [0, 1, 2, 3, 4, 5, 6, 7, 8, 9, 10, 11] rfl ?_
    exact lw_96 Γ hfl hj60 hv hu hW (fun A n L D th Z lx hW hlx => ih (j + 1) (by omega) A n L D th Z lx hW hlx)
end XLB

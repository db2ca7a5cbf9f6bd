section XLW
section XLWa
variable {p : Program} {l : Launch} {e : Env} {R : Room} {s : State} {m : MethodId} {args : Array Value} {below : List Frame} {meth : Method} {c : Code} {G : xG} {cc : ByteArray} {nL : Nat} {own : String} {rt : Option FieldType} {Q : State → Prop} {P P' : xW → Prop} {k n pc : Nat} {lv : List (Nat × Value)} {st : List Value}
theorem x_sld (Γ : xC p s m meth c G cc nL own rt) {b len t : Nat} {xs : Nat → Int32} (hX : va_X b len xs s s.heap) (hbl : b < s.heap.size) (hbA : ¬ xA G b) {i : Int32} (hi : i = nI t) (ht : t < len) (hl : len ≤ 2048) (hd : decode cc pc = .ok (.iaload, 1))
    (kk : xJ p l e R s m args below meth c G nL Q P k n (pc + 1) lv (.int (xs t) :: st)) : xJ p l e R s m args below meth c G nL Q P k n pc lv (.int i :: .ref b :: st) := fun w H locs ls hp hh hs hv => by
  subst hi
  have h9 := kk w H locs ls hp hh hs hv
  refine va_sld Γ.1 Γ.2.1 hX hbl hbA hs (vp_in_nI ht (by omega)) hd ?_
  rw [nI_clamp (by omega)]
  exact h9
theorem x_slen (Γ : xC p s m meth c G cc nL own rt) {b len : Nat} {xs : Nat → Int32} (hX : va_X b len xs s s.heap) (hbl : b < s.heap.size) (hbA : ¬ xA G b) (hd : decode cc pc = .ok (.arraylength, 1))
    (kk : xJ p l e R s m args below meth c G nL Q P k n (pc + 1) lv (.int (nI len) :: st)) : xJ p l e R s m args below meth c G nL Q P k n pc lv (.ref b :: st) := fun w H locs ls hp hh hs hv => va_slen Γ.1 Γ.2.1 hX hbl hbA hs hd (kk w H locs ls hp hh hs hv)
theorem x_tin (Γ : xC p s m meth c G cc nL own rt) {dflt lo hi : Int} {offs : Array Int} {ln : Nat} {x : Int32} {off : Int} {tgt : Nat} (hd : decode cc pc = .ok (.tableswitch dflt lo hi offs, ln)) (h1 : ¬ x.toInt < lo) (h2 : ¬ hi < x.toInt) (ho : offs[(x.toInt - lo).toNat]? = some off) (ht : (pc : Int) + off = (tgt : Int))
    (kk : xJ p l e R s m args below meth c G nL Q P k n tgt lv st) : xJ p l e R s m args below meth c G nL Q P k n pc lv (.int x :: st) := fun w H locs ls hp hh hs hv => lv_tableIn Γ.1 Γ.2.1 hd h1 h2 ho ht (kk w H locs ls hp hh hs hv)
theorem x_tout (Γ : xC p s m meth c G cc nL own rt) {dflt lo hi : Int} {offs : Array Int} {ln : Nat} {x : Int32} {tgt : Nat} (hd : decode cc pc = .ok (.tableswitch dflt lo hi offs, ln)) (h : x.toInt < lo ∨ hi < x.toInt) (ht : (pc : Int) + dflt = (tgt : Int))
    (kk : xJ p l e R s m args below meth c G nL Q P k n tgt lv st) : xJ p l e R s m args below meth c G nL Q P k n pc lv (.int x :: st) := fun w H locs ls hp hh hs hv => lv_tableOut Γ.1 Γ.2.1 hd h ht (kk w H locs ls hp hh hs hv)
end XLWa
theorem lg_same (x : Int64) : lg_cmp x x = 0 := by
  unfold lg_cmp
  simp
/-- class and reference side by side -/
def LQ (G : xG) (o : Nat) (ad ca : Nat → Nat) (out : Nat) (A0 : xS) (L0 : List Nat) (A : xS) (n : Nat) (L : List Nat) (D : Nat) (th : Nat → Nat) (kz r : Int32) : xW → Prop := fun w => MRep G w o ad A0 L0 ∧ (∃ T, tgI A n D T ∧ CRaw G w ca th (cB A) n L T) ∧ wOut G out kz r w
abbrev LPw (G : xG) (o : Nat) (ad ca : Nat → Nat) (out : Nat) (A : xS) (n : Nat) (L : List Nat) (D : Nat) (th : Nat → Nat) : xW → Prop := LQ G o ad ca out A L A n L D th 1 0
theorem LQ.any {G : xG} {o : Nat} {ad ca : Nat → Nat} {out : Nat} {A0 : xS} {L0 : List Nat} {A : xS} {n : Nat} {L : List Nat} {D : Nat} {th : Nat → Nat} {kz r : Int32} {w : xW} (h : LQ G o ad ca out A0 L0 A n L D th kz r w) : LQ G o ad ca out A0 L0 A n L D th 1 0 w := by
  obtain ⟨h1, h2, f, h3, -⟩ := h
  exact ⟨h1, h2, f, h3, fun z => absurd z (by decide)⟩
theorem LQ.wrap {G : xG} {o : Nat} {ad ca : Nat → Nat} {out : Nat} {A A' : xS} {n n' : Nat} {L L' : List Nat} {D D' : Nat} {th th' : Nat → Nat} {kz r : Int32} {w w' : xW} (h : LPw G o ad ca out A n L D th w) (h2 : wQ G ca th' out A' n' L' D' kz r w w') : LQ G o ad ca out A L A' n' L' D' th' kz r w' :=
  ⟨h.1.kp (h2.2.1.mono (by intro k hk; omega)), h2.1, h2.2.2⟩
theorem LQ.mdl {G : xG} {o : Nat} {ad ca : Nat → Nat} {out : Nat} {A0 A1 A : xS} {n : Nat} {L0 L1 L : List Nat} {D : Nat} {th : Nat → Nat} {kz r : Int32} {w w' : xW} (h : LQ G o ad ca out A0 L0 A n L D th kz r w) (h2 : mP G o ad A1 L1 w w') : LQ G o ad ca out A1 L1 A n L D th kz r w' := by
  obtain ⟨h3, ⟨T, h4, h5⟩, f, h6, h7⟩ := h
  have hk : xKp (fun k => 100 ≤ k) w w' := fun b k e hb hs => h2.2 b k e hb (Or.inr (by omega))
  exact ⟨h2.1, ⟨T, h4, h5.kp hk⟩, f, h2.2 _ _ _ h6 (Or.inl (by omega)), h7⟩
def Rm12 : Room := { frames := 12, cells := 601024, slots := 7293034, locals := 458 }
variable {p : Program} {l : Launch} {e : Env} {s : State} {m : MethodId} {args : Array Value} {below : List Frame} {meth : Method} {c : Code} {G : xG} {Q : State → Prop}
variable {b len : Nat} {xs : Nat → Int32} {o : Nat} {ad ca : Nat → Nat} {out : Nat}
abbrev lLv (b : Nat) (ca : Nat → Nat) (o out j : Nat) : List (Nat × Value) := [(0, .ref b), (1, .ref (ca 0)), (2, .ref o), (3, .ref out), (4, .int (nI (4 * j)))]
def lEnd (p : Program) (l : Launch) (e : Env) (s : State) (m : MethodId) (args : Array Value) (below : List Frame) (meth : Method) (c : Code) (G : xG) (Q : State → Prop) (b o : Nat) (ad ca : Nat → Nat) (out j : Nat) : Prop :=
  ∀ (A : xS) (n : Nat) (L : List Nat) (D : Nat) (th : Nat → Nat) (lx : List (Nat × Value)), fI A n L D → xpick lx [0, 1, 2, 3, 4] = lLv b ca o out j → xJ p l e Rm12 s m args below meth c G 7 Q (LPw G o ad ca out A n L D th) (30 + 60 * (j + 1)) (25000 + 400 * (j + 1)) 1199 lx []
set_option maxRecDepth 100000 in
theorem lc_setRoom {A : xS} {n : Nat} {L : List Nat} {D : Nat} {th : Nat → Nat} {j : Nat} (Γ : xC p s m meth c G cL_law 7 "LeftThingsLaw" (some .boolean)) (hfl : l.stackTraces = false) (hX : va_X b len xs s s.heap) (hbl : b < s.heap.size) (hbA : ¬ xA G b) (hl : len ≤ 2048) (hj : 4 * j + 4 ≤ len) (hF : fI A n L D) (hend : lEnd p l e s m args below meth c G Q b o ad ca out j) : xJ p l e Rm12 s m args below meth c G 7 Q (LPw G o ad ca out A n L D th) (30 + 60 * j) (25000 + 400 * j) 132 (lLv b ca o out j) [] := by
  refine x_aload_n Γ dL_law_132 rfl rfl ?_
  refine x_aload_n Γ dL_law_133 rfl rfl ?_
  refine x_iload Γ dL_law_134 rfl ?_
  refine x_iconst (v := 1) Γ dL_law_136 (by decide) ?_
  refine x_iadd Γ dL_law_137 ?_
  rw [show nI (4 * j) + 1 = nI (4 * j + 1) from nI_add (4 * j) 1]
  refine x_sld Γ hX hbl hbA rfl (by omega) hl dL_law_138 ?_
  refine x_aload_n Γ dL_law_139 rfl rfl ?_
  refine x_iload Γ dL_law_140 rfl ?_
  refine x_iconst (v := 2) Γ dL_law_142 (by decide) ?_
  refine x_iadd Γ dL_law_143 ?_
  rw [show nI (4 * j) + 2 = nI (4 * j + 2) from nI_add (4 * j) 2]
  refine x_sld Γ hX hbl hbA rfl (by omega) hl dL_law_144 ?_
  refine x_aload_n Γ dL_law_145 rfl rfl ?_
  refine x_invSW (emb := embI) (rm := ({ frames := 9, cells := 60, slots := 400, locals := 365 } : Room)) Γ [.ref (ca 0), .int (xs (4 * j + 1)), .int (xs (4 * j + 2)), .ref out] (fun w1 r w2 => r = kSetRoom (xs (4 * j + 1)) (xs (4 * j + 2)) ∧ wQ G ca th out (gSetRoom A L (xs (4 * j + 1)) (xs (4 * j + 2))).2.1 n (gSetRoom A L (xs (4 * j + 1)) (xs (4 * j + 2))).2.2 D (kSetRoom (xs (4 * j + 1)) (xs (4 * j + 2))) ((gSetRoom A L (xs (4 * j + 1)) (xs (4 * j + 2))).1) w1 w2) rfl (fun w1 h1 => by obtain ⟨g1, ⟨T, g2, g3⟩, f, g4, -⟩ := h1; exact tw_setRoom g3 hfl hF.1 g2 hF.2.2.1 hF.2.2.2 g4) k_98 k_0 k_96 k_97 hd_L_setRoom ⟨Nat.le_of_ble_eq_true rfl, Nat.le_of_ble_eq_true rfl⟩ ⟨by show 30 + 60 * j + 60 ≤ 601024; omega, by show 25000 + 400 * j + 400 ≤ 7293034; omega⟩ (Nat.le_of_ble_eq_true rfl) dL_law_146 (fun r => ?_)
  refine x_then (P2 := LQ G o ad ca out A L (gSetRoom A L (xs (4 * j + 1)) (xs (4 * j + 2))).2.1 n (gSetRoom A L (xs (4 * j + 1)) (xs (4 * j + 2))).2.2 D th (kSetRoom (xs (4 * j + 1)) (xs (4 * j + 2))) ((gSetRoom A L (xs (4 * j + 1)) (xs (4 * j + 2))).1)) (φ := r = kSetRoom (xs (4 * j + 1)) (xs (4 * j + 2))) (fun w2 h2 => by obtain ⟨w1, h1, h3, h4⟩ := h2; exact ⟨h3, LQ.wrap h1 h4⟩) (fun e1 => ?_)
  subst e1
  have hF2 : fI (gSetRoom A L (xs (4 * j + 1)) (xs (4 * j + 2))).2.1 n (gSetRoom A L (xs (4 * j + 1)) (xs (4 * j + 2))).2.2 D := st_setRoom hF _ _
  refine x_istore Γ dL_law_149 rfl (by decide) ?_
  refine x_aload_n Γ dL_law_151 rfl rfl ?_
  refine x_aload_n Γ dL_law_152 rfl rfl ?_
  refine x_iload Γ dL_law_153 rfl ?_
  refine x_iconst (v := 1) Γ dL_law_155 (by decide) ?_
  refine x_iadd Γ dL_law_156 ?_
  rw [show nI (4 * j) + 1 = nI (4 * j + 1) from nI_add (4 * j) 1]
  refine x_sld Γ hX hbl hbA rfl (by omega) hl dL_law_157 ?_
  refine x_aload_n Γ dL_law_158 rfl rfl ?_
  refine x_iload Γ dL_law_159 rfl ?_
  refine x_iconst (v := 2) Γ dL_law_161 (by decide) ?_
  refine x_iadd Γ dL_law_162 ?_
  rw [show nI (4 * j) + 2 = nI (4 * j + 2) from nI_add (4 * j) 2]
  refine x_sld Γ hX hbl hbA rfl (by omega) hl dL_law_163 ?_
  refine x_invV (emb := embI) (ci := 4) (rm := ({ frames := 3, cells := 0, slots := 0, locals := 140 } : Room)) Γ [.int (xs (4 * j + 1)), .int (xs (4 * j + 2))] (fun w1 r w2 => r = (gSetRoom A L (xs (4 * j + 1)) (xs (4 * j + 2))).1 ∧ mP G o ad ((gSetRoom A L (xs (4 * j + 1)) (xs (4 * j + 2))).2.1) ((gSetRoom A L (xs (4 * j + 1)) (xs (4 * j + 2))).2.2) w1 w2) rfl (fun w1 h1 => tm_setRoom h1.1 hF.1.1) (fun w1 h1 => h1.1.obj) rfl k_646 k_6 k_643 k_644 k_645 hd_X3_setRoom ⟨Nat.le_of_ble_eq_true rfl, Nat.le_of_ble_eq_true rfl⟩ ⟨by show 30 + 60 * j + 60 + 0 ≤ 601024; omega, by show 25000 + 400 * j + 400 + 0 ≤ 7293034; omega⟩ (Nat.le_of_ble_eq_true rfl) dL_law_164 (fun r => ?_)
  refine x_then (P2 := LQ G o ad ca out ((gSetRoom A L (xs (4 * j + 1)) (xs (4 * j + 2))).2.1) ((gSetRoom A L (xs (4 * j + 1)) (xs (4 * j + 2))).2.2) ((gSetRoom A L (xs (4 * j + 1)) (xs (4 * j + 2))).2.1) n ((gSetRoom A L (xs (4 * j + 1)) (xs (4 * j + 2))).2.2) D th (kSetRoom (xs (4 * j + 1)) (xs (4 * j + 2))) ((gSetRoom A L (xs (4 * j + 1)) (xs (4 * j + 2))).1)) (φ := r = (gSetRoom A L (xs (4 * j + 1)) (xs (4 * j + 2))).1) (fun w2 h2 => by obtain ⟨w1, h1, h3, h4⟩ := h2; exact ⟨h3, h1.mdl h4⟩) (fun e2 => ?_)
  subst e2
  refine x_istore Γ dL_law_167 rfl (by decide) ?_
  refine x_aload_n Γ dL_law_169 rfl rfl ?_
  have h19 : (gSetRoom A L (xs (4 * j + 1)) (xs (4 * j + 2))).2.1 19 0 = kSetRoom (xs (4 * j + 1)) (xs (4 * j + 2)) := fin_19 (fun _ => rfl)
  refine x_invV (emb := embI) (ci := 4) (rm := ({ frames := 0, cells := 0, slots := 0, locals := 0 } : Room)) Γ [] (fun w1 r w2 => r = kSetRoom (xs (4 * j + 1)) (xs (4 * j + 2)) ∧ mP G o ad ((gSetRoom A L (xs (4 * j + 1)) (xs (4 * j + 2))).2.1) ((gSetRoom A L (xs (4 * j + 1)) (xs (4 * j + 2))).2.2) w1 w2) rfl (fun w1 h1 => by have h9 := t_thrown (l := l) h1.1; rw [h19] at h9; exact h9) (fun w1 h1 => h1.1.obj) rfl k_642 k_6 k_639 k_640 k_641 hd_X3_thrown ⟨Nat.le_of_ble_eq_true rfl, Nat.le_of_ble_eq_true rfl⟩ ⟨by show 30 + 60 * j + 60 + 0 + 0 ≤ 601024; omega, by show 25000 + 400 * j + 400 + 0 + 0 ≤ 7293034; omega⟩ (Nat.le_of_ble_eq_true rfl) dL_law_170 (fun r => ?_)
  refine x_then (P2 := LQ G o ad ca out ((gSetRoom A L (xs (4 * j + 1)) (xs (4 * j + 2))).2.1) ((gSetRoom A L (xs (4 * j + 1)) (xs (4 * j + 2))).2.2) ((gSetRoom A L (xs (4 * j + 1)) (xs (4 * j + 2))).2.1) n ((gSetRoom A L (xs (4 * j + 1)) (xs (4 * j + 2))).2.2) D th (kSetRoom (xs (4 * j + 1)) (xs (4 * j + 2))) ((gSetRoom A L (xs (4 * j + 1)) (xs (4 * j + 2))).1)) (φ := r = kSetRoom (xs (4 * j + 1)) (xs (4 * j + 2))) (fun w2 h2 => by obtain ⟨w1, h1, h3, h4⟩ := h2; exact ⟨h3, h1.mdl h4⟩) (fun e3 => ?_)
  subst e3
  refine x_iload Γ dL_law_173 rfl ?_
  refine x_icmp_eq (tgt := 180) Γ dL_law_175 (by decide) (fun c175 => ?_) (fun c175 => absurd (rfl) c175)
  refine x_iload Γ dL_law_180 rfl ?_
  refine x_if_ne (tgt := 197) Γ dL_law_182 (by decide) (fun c182 => ?_) (fun c182 => ?_)
  · refine x_goto (tgt := 1199) Γ dL_law_197 (by decide) ?_
    refine x_weak (P' := LPw G o ad ca out (gSetRoom A L (xs (4 * j + 1)) (xs (4 * j + 2))).2.1 n (gSetRoom A L (xs (4 * j + 1)) (xs (4 * j + 2))).2.2 D th) (fun w2 h2 => h2.any) ?_
    refine x_wide (k' := 30 + 60 * (j + 1)) (n' := 25000 + 400 * (j + 1)) (by show 30 + 60 * j + 60 + 0 + 0 ≤ 30 + 60 * (j + 1); omega) (by show 25000 + 400 * j + 400 + 0 + 0 ≤ 25000 + 400 * (j + 1); omega) ?_
    exact hend _ _ _ _ _ _ hF2 rfl
  · refine x_pin (fun w5 hw5 => ?_)
    obtain ⟨f5, hf5, hf6⟩ := hw5.2.2
    refine x_aload_n Γ dL_law_185 rfl rfl ?_
    refine x_iconst (v := 0) Γ dL_law_186 (by decide) ?_
    refine x_lald (N := 1) (f := f5) (x := (gSetRoom A L (xs (4 * j + 1)) (xs (4 * j + 2))).1.toInt64) Γ (xv_arr hf5) (by unfold vp_in; decide) (hf6 c182) dL_law_187 ?_
    refine x_iload Γ dL_law_188 rfl ?_
    refine x_i2l Γ dL_law_190 rfl ?_
    refine x_lcmp Γ dL_law_191 ?_
    rw [lg_same]
    refine x_if_eq (tgt := 197) Γ dL_law_192 (by decide) (fun c192 => ?_) (fun c192 => absurd (rfl) c192)
    refine x_goto (tgt := 1199) Γ dL_law_197 (by decide) ?_
    refine x_weak (P' := LPw G o ad ca out (gSetRoom A L (xs (4 * j + 1)) (xs (4 * j + 2))).2.1 n (gSetRoom A L (xs (4 * j + 1)) (xs (4 * j + 2))).2.2 D th) (fun w2 h2 => by rw [h2]; exact hw5.any) ?_
    refine x_wide (k' := 30 + 60 * (j + 1)) (n' := 25000 + 400 * (j + 1)) (by show 30 + 60 * j + 60 + 0 + 0 ≤ 30 + 60 * (j + 1); omega) (by show 25000 + 400 * j + 400 + 0 + 0 ≤ 25000 + 400 * (j + 1); omega) ?_
    exact hend _ _ _ _ _ _ hF2 rfl
set_option maxRecDepth 100000 in
theorem lc_setVan {A : xS} {n : Nat} {L : List Nat} {D : Nat} {th : Nat → Nat} {j : Nat} (Γ : xC p s m meth c G cL_law 7 "LeftThingsLaw" (some .boolean)) (hfl : l.stackTraces = false) (hX : va_X b len xs s s.heap) (hbl : b < s.heap.size) (hbA : ¬ xA G b) (hl : len ≤ 2048) (hj : 4 * j + 4 ≤ len) (hF : fI A n L D) (hend : lEnd p l e s m args below meth c G Q b o ad ca out j) : xJ p l e Rm12 s m args below meth c G 7 Q (LPw G o ad ca out A n L D th) (30 + 60 * j) (25000 + 400 * j) 200 (lLv b ca o out j) [] := by
  refine x_aload_n Γ dL_law_200 rfl rfl ?_
  refine x_aload_n Γ dL_law_201 rfl rfl ?_
  refine x_iload Γ dL_law_202 rfl ?_
  refine x_iconst (v := 1) Γ dL_law_204 (by decide) ?_
  refine x_iadd Γ dL_law_205 ?_
  rw [show nI (4 * j) + 1 = nI (4 * j + 1) from nI_add (4 * j) 1]
  refine x_sld Γ hX hbl hbA rfl (by omega) hl dL_law_206 ?_
  refine x_aload_n Γ dL_law_207 rfl rfl ?_
  refine x_invSW (emb := embI) (rm := ({ frames := 9, cells := 60, slots := 400, locals := 365 } : Room)) Γ [.ref (ca 0), .int (xs (4 * j + 1)), .ref out] (fun w1 r w2 => r = kSetVan (xs (4 * j + 1)) ∧ wQ G ca th out (gSetVan A L (xs (4 * j + 1))).2.1 n (gSetVan A L (xs (4 * j + 1))).2.2 D (kSetVan (xs (4 * j + 1))) ((gSetVan A L (xs (4 * j + 1))).1) w1 w2) rfl (fun w1 h1 => by obtain ⟨g1, ⟨T, g2, g3⟩, f, g4, -⟩ := h1; exact tw_setVan g3 hfl hF.1 g2 hF.2.2.1 hF.2.2.2 g4) k_180 k_0 k_178 k_179 hd_L_setVan ⟨Nat.le_of_ble_eq_true rfl, Nat.le_of_ble_eq_true rfl⟩ ⟨by show 30 + 60 * j + 60 ≤ 601024; omega, by show 25000 + 400 * j + 400 ≤ 7293034; omega⟩ (Nat.le_of_ble_eq_true rfl) dL_law_208 (fun r => ?_)
  refine x_then (P2 := LQ G o ad ca out A L (gSetVan A L (xs (4 * j + 1))).2.1 n (gSetVan A L (xs (4 * j + 1))).2.2 D th (kSetVan (xs (4 * j + 1))) ((gSetVan A L (xs (4 * j + 1))).1)) (φ := r = kSetVan (xs (4 * j + 1))) (fun w2 h2 => by obtain ⟨w1, h1, h3, h4⟩ := h2; exact ⟨h3, LQ.wrap h1 h4⟩) (fun e1 => ?_)
  subst e1
  have hF2 : fI (gSetVan A L (xs (4 * j + 1))).2.1 n (gSetVan A L (xs (4 * j + 1))).2.2 D := st_setVan hF _
  refine x_istore Γ dL_law_211 rfl (by decide) ?_
  refine x_aload_n Γ dL_law_213 rfl rfl ?_
  refine x_aload_n Γ dL_law_214 rfl rfl ?_
  refine x_iload Γ dL_law_215 rfl ?_
  refine x_iconst (v := 1) Γ dL_law_217 (by decide) ?_
  refine x_iadd Γ dL_law_218 ?_
  rw [show nI (4 * j) + 1 = nI (4 * j + 1) from nI_add (4 * j) 1]
  refine x_sld Γ hX hbl hbA rfl (by omega) hl dL_law_219 ?_
  refine x_invV (emb := embI) (ci := 4) (rm := ({ frames := 3, cells := 0, slots := 0, locals := 140 } : Room)) Γ [.int (xs (4 * j + 1))] (fun w1 r w2 => r = (gSetVan A L (xs (4 * j + 1))).1 ∧ mP G o ad ((gSetVan A L (xs (4 * j + 1))).2.1) ((gSetVan A L (xs (4 * j + 1))).2.2) w1 w2) rfl (fun w1 h1 => tm_setVan h1.1 hF.1.1) (fun w1 h1 => h1.1.obj) rfl k_660 k_6 k_657 k_658 k_659 hd_X3_setVan ⟨Nat.le_of_ble_eq_true rfl, Nat.le_of_ble_eq_true rfl⟩ ⟨by show 30 + 60 * j + 60 + 0 ≤ 601024; omega, by show 25000 + 400 * j + 400 + 0 ≤ 7293034; omega⟩ (Nat.le_of_ble_eq_true rfl) dL_law_220 (fun r => ?_)
  refine x_then (P2 := LQ G o ad ca out ((gSetVan A L (xs (4 * j + 1))).2.1) ((gSetVan A L (xs (4 * j + 1))).2.2) ((gSetVan A L (xs (4 * j + 1))).2.1) n ((gSetVan A L (xs (4 * j + 1))).2.2) D th (kSetVan (xs (4 * j + 1))) ((gSetVan A L (xs (4 * j + 1))).1)) (φ := r = (gSetVan A L (xs (4 * j + 1))).1) (fun w2 h2 => by obtain ⟨w1, h1, h3, h4⟩ := h2; exact ⟨h3, h1.mdl h4⟩) (fun e2 => ?_)
  subst e2
  refine x_istore Γ dL_law_223 rfl (by decide) ?_
  refine x_aload_n Γ dL_law_225 rfl rfl ?_
  have h19 : (gSetVan A L (xs (4 * j + 1))).2.1 19 0 = kSetVan (xs (4 * j + 1)) := fin_19 (fun _ => rfl)
  refine x_invV (emb := embI) (ci := 4) (rm := ({ frames := 0, cells := 0, slots := 0, locals := 0 } : Room)) Γ [] (fun w1 r w2 => r = kSetVan (xs (4 * j + 1)) ∧ mP G o ad ((gSetVan A L (xs (4 * j + 1))).2.1) ((gSetVan A L (xs (4 * j + 1))).2.2) w1 w2) rfl (fun w1 h1 => by have h9 := t_thrown (l := l) h1.1; rw [h19] at h9; exact h9) (fun w1 h1 => h1.1.obj) rfl k_642 k_6 k_639 k_640 k_641 hd_X3_thrown ⟨Nat.le_of_ble_eq_true rfl, Nat.le_of_ble_eq_true rfl⟩ ⟨by show 30 + 60 * j + 60 + 0 + 0 ≤ 601024; omega, by show 25000 + 400 * j + 400 + 0 + 0 ≤ 7293034; omega⟩ (Nat.le_of_ble_eq_true rfl) dL_law_226 (fun r => ?_)
  refine x_then (P2 := LQ G o ad ca out ((gSetVan A L (xs (4 * j + 1))).2.1) ((gSetVan A L (xs (4 * j + 1))).2.2) ((gSetVan A L (xs (4 * j + 1))).2.1) n ((gSetVan A L (xs (4 * j + 1))).2.2) D th (kSetVan (xs (4 * j + 1))) ((gSetVan A L (xs (4 * j + 1))).1)) (φ := r = kSetVan (xs (4 * j + 1))) (fun w2 h2 => by obtain ⟨w1, h1, h3, h4⟩ := h2; exact ⟨h3, h1.mdl h4⟩) (fun e3 => ?_)
  subst e3
  refine x_iload Γ dL_law_229 rfl ?_
  refine x_icmp_eq (tgt := 236) Γ dL_law_231 (by decide) (fun c231 => ?_) (fun c231 => absurd (rfl) c231)
  refine x_iload Γ dL_law_236 rfl ?_
  refine x_if_ne (tgt := 253) Γ dL_law_238 (by decide) (fun c238 => ?_) (fun c238 => ?_)
  · refine x_goto (tgt := 1199) Γ dL_law_253 (by decide) ?_
    refine x_weak (P' := LPw G o ad ca out (gSetVan A L (xs (4 * j + 1))).2.1 n (gSetVan A L (xs (4 * j + 1))).2.2 D th) (fun w2 h2 => h2.any) ?_
    refine x_wide (k' := 30 + 60 * (j + 1)) (n' := 25000 + 400 * (j + 1)) (by show 30 + 60 * j + 60 + 0 + 0 ≤ 30 + 60 * (j + 1); omega) (by show 25000 + 400 * j + 400 + 0 + 0 ≤ 25000 + 400 * (j + 1); omega) ?_
    exact hend _ _ _ _ _ _ hF2 rfl
  · refine x_pin (fun w5 hw5 => ?_)
    obtain ⟨f5, hf5, hf6⟩ := hw5.2.2
    refine x_aload_n Γ dL_law_241 rfl rfl ?_
    refine x_iconst (v := 0) Γ dL_law_242 (by decide) ?_
    refine x_lald (N := 1) (f := f5) (x := (gSetVan A L (xs (4 * j + 1))).1.toInt64) Γ (xv_arr hf5) (by unfold vp_in; decide) (hf6 c238) dL_law_243 ?_
    refine x_iload Γ dL_law_244 rfl ?_
    refine x_i2l Γ dL_law_246 rfl ?_
    refine x_lcmp Γ dL_law_247 ?_
    rw [lg_same]
    refine x_if_eq (tgt := 253) Γ dL_law_248 (by decide) (fun c248 => ?_) (fun c248 => absurd (rfl) c248)
    refine x_goto (tgt := 1199) Γ dL_law_253 (by decide) ?_
    refine x_weak (P' := LPw G o ad ca out (gSetVan A L (xs (4 * j + 1))).2.1 n (gSetVan A L (xs (4 * j + 1))).2.2 D th) (fun w2 h2 => by rw [h2]; exact hw5.any) ?_
    refine x_wide (k' := 30 + 60 * (j + 1)) (n' := 25000 + 400 * (j + 1)) (by show 30 + 60 * j + 60 + 0 + 0 ≤ 30 + 60 * (j + 1); omega) (by show 25000 + 400 * j + 400 + 0 + 0 ≤ 25000 + 400 * (j + 1); omega) ?_
    exact hend _ _ _ _ _ _ hF2 rfl
set_option maxRecDepth 100000 in
theorem lc_leave {A : xS} {n : Nat} {L : List Nat} {D : Nat} {th : Nat → Nat} {j : Nat} (Γ : xC p s m meth c G cL_law 7 "LeftThingsLaw" (some .boolean)) (hfl : l.stackTraces = false) (hX : va_X b len xs s s.heap) (hbl : b < s.heap.size) (hbA : ¬ xA G b) (hl : len ≤ 2048) (hj : 4 * j + 4 ≤ len) (hF : fI A n L D) (hend : lEnd p l e s m args below meth c G Q b o ad ca out j) : xJ p l e Rm12 s m args below meth c G 7 Q (LPw G o ad ca out A n L D th) (30 + 60 * j) (25000 + 400 * j) 256 (lLv b ca o out j) [] := by
  refine x_aload_n Γ dL_law_256 rfl rfl ?_
  refine x_aload_n Γ dL_law_257 rfl rfl ?_
  refine x_iload Γ dL_law_258 rfl ?_
  refine x_iconst (v := 1) Γ dL_law_260 (by decide) ?_
  refine x_iadd Γ dL_law_261 ?_
  rw [show nI (4 * j) + 1 = nI (4 * j + 1) from nI_add (4 * j) 1]
  refine x_sld Γ hX hbl hbA rfl (by omega) hl dL_law_262 ?_
  refine x_aload_n Γ dL_law_263 rfl rfl ?_
  refine x_iload Γ dL_law_264 rfl ?_
  refine x_iconst (v := 2) Γ dL_law_266 (by decide) ?_
  refine x_iadd Γ dL_law_267 ?_
  rw [show nI (4 * j) + 2 = nI (4 * j + 2) from nI_add (4 * j) 2]
  refine x_sld Γ hX hbl hbA rfl (by omega) hl dL_law_268 ?_
  refine x_aload_n Γ dL_law_269 rfl rfl ?_
  refine x_iload Γ dL_law_270 rfl ?_
  refine x_iconst (v := 3) Γ dL_law_272 (by decide) ?_
  refine x_iadd Γ dL_law_273 ?_
  rw [show nI (4 * j) + 3 = nI (4 * j + 3) from nI_add (4 * j) 3]
  refine x_sld Γ hX hbl hbA rfl (by omega) hl dL_law_274 ?_
  refine x_aload_n Γ dL_law_275 rfl rfl ?_
  refine x_invSW (emb := embI) (rm := ({ frames := 9, cells := 60, slots := 400, locals := 365 } : Room)) Γ [.ref (ca 0), .int (xs (4 * j + 1)), .int (xs (4 * j + 2)), .int (xs (4 * j + 3)), .ref out] (fun w1 r w2 => r = kLeave A (xs (4 * j + 1)) (xs (4 * j + 2)) (xs (4 * j + 3)) ∧ ∃ th' n', (kLeave A (xs (4 * j + 1)) (xs (4 * j + 2)) (xs (4 * j + 3)) = 0 → n' = n + 1) ∧ (¬ kLeave A (xs (4 * j + 1)) (xs (4 * j + 2)) (xs (4 * j + 3)) = 0 → n' = n) ∧ wQ G ca th' out (gLeave A L (xs (4 * j + 1)) (xs (4 * j + 2)) (xs (4 * j + 3))).2.1 n' (gLeave A L (xs (4 * j + 1)) (xs (4 * j + 2)) (xs (4 * j + 3))).2.2 D (kLeave A (xs (4 * j + 1)) (xs (4 * j + 2)) (xs (4 * j + 3))) ((gLeave A L (xs (4 * j + 1)) (xs (4 * j + 2)) (xs (4 * j + 3))).1) w1 w2) rfl (fun w1 h1 => by obtain ⟨g1, ⟨T, g2, g3⟩, f, g4, -⟩ := h1; exact tw_leave g3 hfl hF.1 g2 hF.2.2.1 hF.2.2.2 g4) k_188 k_0 k_186 k_187 hd_L_leave ⟨Nat.le_of_ble_eq_true rfl, Nat.le_of_ble_eq_true rfl⟩ ⟨by show 30 + 60 * j + 60 ≤ 601024; omega, by show 25000 + 400 * j + 400 ≤ 7293034; omega⟩ (Nat.le_of_ble_eq_true rfl) dL_law_276 (fun r => ?_)
  refine x_then (P2 := fun w2 => (∃ th' n', (kLeave A (xs (4 * j + 1)) (xs (4 * j + 2)) (xs (4 * j + 3)) = 0 → n' = n + 1) ∧ (¬ kLeave A (xs (4 * j + 1)) (xs (4 * j + 2)) (xs (4 * j + 3)) = 0 → n' = n) ∧ LQ G o ad ca out A L (gLeave A L (xs (4 * j + 1)) (xs (4 * j + 2)) (xs (4 * j + 3))).2.1 n' (gLeave A L (xs (4 * j + 1)) (xs (4 * j + 2)) (xs (4 * j + 3))).2.2 D th' (kLeave A (xs (4 * j + 1)) (xs (4 * j + 2)) (xs (4 * j + 3))) ((gLeave A L (xs (4 * j + 1)) (xs (4 * j + 2)) (xs (4 * j + 3))).1) w2)) (φ := r = kLeave A (xs (4 * j + 1)) (xs (4 * j + 2)) (xs (4 * j + 3))) (fun w2 h2 => by obtain ⟨w1, h1, h3, th', n', h5, h6, h7⟩ := h2; exact ⟨h3, th', n', h5, h6, LQ.wrap h1 h7⟩) (fun e1 => ?_)
  subst e1
  refine x_any (F := fun th' w2 => ∃ n', (kLeave A (xs (4 * j + 1)) (xs (4 * j + 2)) (xs (4 * j + 3)) = 0 → n' = n + 1) ∧ (¬ kLeave A (xs (4 * j + 1)) (xs (4 * j + 2)) (xs (4 * j + 3)) = 0 → n' = n) ∧ LQ G o ad ca out A L (gLeave A L (xs (4 * j + 1)) (xs (4 * j + 2)) (xs (4 * j + 3))).2.1 n' (gLeave A L (xs (4 * j + 1)) (xs (4 * j + 2)) (xs (4 * j + 3))).2.2 D th' (kLeave A (xs (4 * j + 1)) (xs (4 * j + 2)) (xs (4 * j + 3))) ((gLeave A L (xs (4 * j + 1)) (xs (4 * j + 2)) (xs (4 * j + 3))).1) w2) (fun th' => ?_)
  refine x_any (F := fun n' w2 => (kLeave A (xs (4 * j + 1)) (xs (4 * j + 2)) (xs (4 * j + 3)) = 0 → n' = n + 1) ∧ (¬ kLeave A (xs (4 * j + 1)) (xs (4 * j + 2)) (xs (4 * j + 3)) = 0 → n' = n) ∧ LQ G o ad ca out A L (gLeave A L (xs (4 * j + 1)) (xs (4 * j + 2)) (xs (4 * j + 3))).2.1 n' (gLeave A L (xs (4 * j + 1)) (xs (4 * j + 2)) (xs (4 * j + 3))).2.2 D th' (kLeave A (xs (4 * j + 1)) (xs (4 * j + 2)) (xs (4 * j + 3))) ((gLeave A L (xs (4 * j + 1)) (xs (4 * j + 2)) (xs (4 * j + 3))).1) w2) (fun n' => ?_)
  refine x_then (P2 := LQ G o ad ca out A L (gLeave A L (xs (4 * j + 1)) (xs (4 * j + 2)) (xs (4 * j + 3))).2.1 n' (gLeave A L (xs (4 * j + 1)) (xs (4 * j + 2)) (xs (4 * j + 3))).2.2 D th' (kLeave A (xs (4 * j + 1)) (xs (4 * j + 2)) (xs (4 * j + 3))) ((gLeave A L (xs (4 * j + 1)) (xs (4 * j + 2)) (xs (4 * j + 3))).1)) (φ := (kLeave A (xs (4 * j + 1)) (xs (4 * j + 2)) (xs (4 * j + 3)) = 0 → n' = n + 1) ∧ (¬ kLeave A (xs (4 * j + 1)) (xs (4 * j + 2)) (xs (4 * j + 3)) = 0 → n' = n)) (fun w2 h2 => ⟨⟨h2.1, h2.2.1⟩, h2.2.2⟩) (fun hn' => ?_)
  have hF2 : fI (gLeave A L (xs (4 * j + 1)) (xs (4 * j + 2)) (xs (4 * j + 3))).2.1 n' (gLeave A L (xs (4 * j + 1)) (xs (4 * j + 2)) (xs (4 * j + 3))).2.2 D := by
    by_cases hk : kLeave A (xs (4 * j + 1)) (xs (4 * j + 2)) (xs (4 * j + 3)) = 0
    · rw [hn'.1 hk]; exact st_leave hF _ _ _ hk
    · rw [hn'.2 hk]; exact st_leave0 hF _ _ _ hk
  refine x_istore Γ dL_law_279 rfl (by decide) ?_
  refine x_aload_n Γ dL_law_281 rfl rfl ?_
  refine x_aload_n Γ dL_law_282 rfl rfl ?_
  refine x_iload Γ dL_law_283 rfl ?_
  refine x_iconst (v := 1) Γ dL_law_285 (by decide) ?_
  refine x_iadd Γ dL_law_286 ?_
  rw [show nI (4 * j) + 1 = nI (4 * j + 1) from nI_add (4 * j) 1]
  refine x_sld Γ hX hbl hbA rfl (by omega) hl dL_law_287 ?_
  refine x_aload_n Γ dL_law_288 rfl rfl ?_
  refine x_iload Γ dL_law_289 rfl ?_
  refine x_iconst (v := 2) Γ dL_law_291 (by decide) ?_
  refine x_iadd Γ dL_law_292 ?_
  rw [show nI (4 * j) + 2 = nI (4 * j + 2) from nI_add (4 * j) 2]
  refine x_sld Γ hX hbl hbA rfl (by omega) hl dL_law_293 ?_
  refine x_aload_n Γ dL_law_294 rfl rfl ?_
  refine x_iload Γ dL_law_295 rfl ?_
  refine x_iconst (v := 3) Γ dL_law_297 (by decide) ?_
  refine x_iadd Γ dL_law_298 ?_
  rw [show nI (4 * j) + 3 = nI (4 * j + 3) from nI_add (4 * j) 3]
  refine x_sld Γ hX hbl hbA rfl (by omega) hl dL_law_299 ?_
  refine x_invV (emb := embI) (ci := 4) (rm := ({ frames := 3, cells := 0, slots := 0, locals := 140 } : Room)) Γ [.int (xs (4 * j + 1)), .int (xs (4 * j + 2)), .int (xs (4 * j + 3))] (fun w1 r w2 => r = (gLeave A L (xs (4 * j + 1)) (xs (4 * j + 2)) (xs (4 * j + 3))).1 ∧ mP G o ad ((gLeave A L (xs (4 * j + 1)) (xs (4 * j + 2)) (xs (4 * j + 3))).2.1) ((gLeave A L (xs (4 * j + 1)) (xs (4 * j + 2)) (xs (4 * j + 3))).2.2) w1 w2) rfl (fun w1 h1 => tm_leave h1.1 hF.1.1) (fun w1 h1 => h1.1.obj) rfl k_664 k_6 k_661 k_662 k_663 hd_X3_leave ⟨Nat.le_of_ble_eq_true rfl, Nat.le_of_ble_eq_true rfl⟩ ⟨by show 30 + 60 * j + 60 + 0 ≤ 601024; omega, by show 25000 + 400 * j + 400 + 0 ≤ 7293034; omega⟩ (Nat.le_of_ble_eq_true rfl) dL_law_300 (fun r => ?_)
  refine x_then (P2 := LQ G o ad ca out ((gLeave A L (xs (4 * j + 1)) (xs (4 * j + 2)) (xs (4 * j + 3))).2.1) ((gLeave A L (xs (4 * j + 1)) (xs (4 * j + 2)) (xs (4 * j + 3))).2.2) ((gLeave A L (xs (4 * j + 1)) (xs (4 * j + 2)) (xs (4 * j + 3))).2.1) n' ((gLeave A L (xs (4 * j + 1)) (xs (4 * j + 2)) (xs (4 * j + 3))).2.2) D th' (kLeave A (xs (4 * j + 1)) (xs (4 * j + 2)) (xs (4 * j + 3))) ((gLeave A L (xs (4 * j + 1)) (xs (4 * j + 2)) (xs (4 * j + 3))).1)) (φ := r = (gLeave A L (xs (4 * j + 1)) (xs (4 * j + 2)) (xs (4 * j + 3))).1) (fun w2 h2 => by obtain ⟨w1, h1, h3, h4⟩ := h2; exact ⟨h3, h1.mdl h4⟩) (fun e2 => ?_)
  subst e2
  refine x_istore Γ dL_law_303 rfl (by decide) ?_
  refine x_aload_n Γ dL_law_305 rfl rfl ?_
  have h19 : (gLeave A L (xs (4 * j + 1)) (xs (4 * j + 2)) (xs (4 * j + 3))).2.1 19 0 = kLeave A (xs (4 * j + 1)) (xs (4 * j + 2)) (xs (4 * j + 3)) := fin_19 (fun _ => rfl)
  refine x_invV (emb := embI) (ci := 4) (rm := ({ frames := 0, cells := 0, slots := 0, locals := 0 } : Room)) Γ [] (fun w1 r w2 => r = kLeave A (xs (4 * j + 1)) (xs (4 * j + 2)) (xs (4 * j + 3)) ∧ mP G o ad ((gLeave A L (xs (4 * j + 1)) (xs (4 * j + 2)) (xs (4 * j + 3))).2.1) ((gLeave A L (xs (4 * j + 1)) (xs (4 * j + 2)) (xs (4 * j + 3))).2.2) w1 w2) rfl (fun w1 h1 => by have h9 := t_thrown (l := l) h1.1; rw [h19] at h9; exact h9) (fun w1 h1 => h1.1.obj) rfl k_642 k_6 k_639 k_640 k_641 hd_X3_thrown ⟨Nat.le_of_ble_eq_true rfl, Nat.le_of_ble_eq_true rfl⟩ ⟨by show 30 + 60 * j + 60 + 0 + 0 ≤ 601024; omega, by show 25000 + 400 * j + 400 + 0 + 0 ≤ 7293034; omega⟩ (Nat.le_of_ble_eq_true rfl) dL_law_306 (fun r => ?_)
  refine x_then (P2 := LQ G o ad ca out ((gLeave A L (xs (4 * j + 1)) (xs (4 * j + 2)) (xs (4 * j + 3))).2.1) ((gLeave A L (xs (4 * j + 1)) (xs (4 * j + 2)) (xs (4 * j + 3))).2.2) ((gLeave A L (xs (4 * j + 1)) (xs (4 * j + 2)) (xs (4 * j + 3))).2.1) n' ((gLeave A L (xs (4 * j + 1)) (xs (4 * j + 2)) (xs (4 * j + 3))).2.2) D th' (kLeave A (xs (4 * j + 1)) (xs (4 * j + 2)) (xs (4 * j + 3))) ((gLeave A L (xs (4 * j + 1)) (xs (4 * j + 2)) (xs (4 * j + 3))).1)) (φ := r = kLeave A (xs (4 * j + 1)) (xs (4 * j + 2)) (xs (4 * j + 3))) (fun w2 h2 => by obtain ⟨w1, h1, h3, h4⟩ := h2; exact ⟨h3, h1.mdl h4⟩) (fun e3 => ?_)
  subst e3
  refine x_iload Γ dL_law_309 rfl ?_
  refine x_icmp_eq (tgt := 316) Γ dL_law_311 (by decide) (fun c311 => ?_) (fun c311 => absurd (rfl) c311)
  refine x_iload Γ dL_law_316 rfl ?_
  refine x_if_ne (tgt := 333) Γ dL_law_318 (by decide) (fun c318 => ?_) (fun c318 => ?_)
  · refine x_goto (tgt := 1199) Γ dL_law_333 (by decide) ?_
    refine x_weak (P' := LPw G o ad ca out (gLeave A L (xs (4 * j + 1)) (xs (4 * j + 2)) (xs (4 * j + 3))).2.1 n' (gLeave A L (xs (4 * j + 1)) (xs (4 * j + 2)) (xs (4 * j + 3))).2.2 D th') (fun w2 h2 => h2.any) ?_
    refine x_wide (k' := 30 + 60 * (j + 1)) (n' := 25000 + 400 * (j + 1)) (by show 30 + 60 * j + 60 + 0 + 0 ≤ 30 + 60 * (j + 1); omega) (by show 25000 + 400 * j + 400 + 0 + 0 ≤ 25000 + 400 * (j + 1); omega) ?_
    exact hend _ _ _ _ _ _ hF2 rfl
  · refine x_pin (fun w5 hw5 => ?_)
    obtain ⟨f5, hf5, hf6⟩ := hw5.2.2
    refine x_aload_n Γ dL_law_321 rfl rfl ?_
    refine x_iconst (v := 0) Γ dL_law_322 (by decide) ?_
    refine x_lald (N := 1) (f := f5) (x := (gLeave A L (xs (4 * j + 1)) (xs (4 * j + 2)) (xs (4 * j + 3))).1.toInt64) Γ (xv_arr hf5) (by unfold vp_in; decide) (hf6 c318) dL_law_323 ?_
    refine x_iload Γ dL_law_324 rfl ?_
    refine x_i2l Γ dL_law_326 rfl ?_
    refine x_lcmp Γ dL_law_327 ?_
    rw [lg_same]
    refine x_if_eq (tgt := 333) Γ dL_law_328 (by decide) (fun c328 => ?_) (fun c328 => absurd (rfl) c328)
    refine x_goto (tgt := 1199) Γ dL_law_333 (by decide) ?_
    refine x_weak (P' := LPw G o ad ca out (gLeave A L (xs (4 * j + 1)) (xs (4 * j + 2)) (xs (4 * j + 3))).2.1 n' (gLeave A L (xs (4 * j + 1)) (xs (4 * j + 2)) (xs (4 * j + 3))).2.2 D th') (fun w2 h2 => by rw [h2]; exact hw5.any) ?_
    refine x_wide (k' := 30 + 60 * (j + 1)) (n' := 25000 + 400 * (j + 1)) (by show 30 + 60 * j + 60 + 0 + 0 ≤ 30 + 60 * (j + 1); omega) (by show 25000 + 400 * j + 400 + 0 + 0 ≤ 25000 + 400 * (j + 1); omega) ?_
    exact hend _ _ _ _ _ _ hF2 rfl
set_option maxRecDepth 100000 in
theorem lc_fetch {A : xS} {n : Nat} {L : List Nat} {D : Nat} {th : Nat → Nat} {j : Nat} (Γ : xC p s m meth c G cL_law 7 "LeftThingsLaw" (some .boolean)) (hfl : l.stackTraces = false) (hX : va_X b len xs s s.heap) (hbl : b < s.heap.size) (hbA : ¬ xA G b) (hl : len ≤ 2048) (hj : 4 * j + 4 ≤ len) (hF : fI A n L D) (hend : lEnd p l e s m args below meth c G Q b o ad ca out j) : xJ p l e Rm12 s m args below meth c G 7 Q (LPw G o ad ca out A n L D th) (30 + 60 * j) (25000 + 400 * j) 336 (lLv b ca o out j) [] := by
  refine x_aload_n Γ dL_law_336 rfl rfl ?_
  refine x_aload_n Γ dL_law_337 rfl rfl ?_
  refine x_iload Γ dL_law_338 rfl ?_
  refine x_iconst (v := 1) Γ dL_law_340 (by decide) ?_
  refine x_iadd Γ dL_law_341 ?_
  rw [show nI (4 * j) + 1 = nI (4 * j + 1) from nI_add (4 * j) 1]
  refine x_sld Γ hX hbl hbA rfl (by omega) hl dL_law_342 ?_
  refine x_aload_n Γ dL_law_343 rfl rfl ?_
  refine x_invSW (emb := embI) (rm := ({ frames := 9, cells := 60, slots := 400, locals := 365 } : Room)) Γ [.ref (ca 0), .int (xs (4 * j + 1)), .ref out] (fun w1 r w2 => r = kFetch A (xs (4 * j + 1)) ∧ wQ G ca th out (gFetch A L (xs (4 * j + 1))).2.1 n (gFetch A L (xs (4 * j + 1))).2.2 D (kFetch A (xs (4 * j + 1))) ((gFetch A L (xs (4 * j + 1))).1) w1 w2) rfl (fun w1 h1 => by obtain ⟨g1, ⟨T, g2, g3⟩, f, g4, -⟩ := h1; exact tw_fetch g3 hfl hF.1 g2 hF.2.2.1 hF.2.2.2 g4) k_366 k_0 k_364 k_365 hd_L_fetch ⟨Nat.le_of_ble_eq_true rfl, Nat.le_of_ble_eq_true rfl⟩ ⟨by show 30 + 60 * j + 60 ≤ 601024; omega, by show 25000 + 400 * j + 400 ≤ 7293034; omega⟩ (Nat.le_of_ble_eq_true rfl) dL_law_344 (fun r => ?_)
  refine x_then (P2 := LQ G o ad ca out A L (gFetch A L (xs (4 * j + 1))).2.1 n (gFetch A L (xs (4 * j + 1))).2.2 D th (kFetch A (xs (4 * j + 1))) ((gFetch A L (xs (4 * j + 1))).1)) (φ := r = kFetch A (xs (4 * j + 1))) (fun w2 h2 => by obtain ⟨w1, h1, h3, h4⟩ := h2; exact ⟨h3, LQ.wrap h1 h4⟩) (fun e1 => ?_)
  subst e1
  have hF2 : fI (gFetch A L (xs (4 * j + 1))).2.1 n (gFetch A L (xs (4 * j + 1))).2.2 D := st_fetch hF _
  refine x_istore Γ dL_law_347 rfl (by decide) ?_
  refine x_aload_n Γ dL_law_349 rfl rfl ?_
  refine x_aload_n Γ dL_law_350 rfl rfl ?_
  refine x_iload Γ dL_law_351 rfl ?_
  refine x_iconst (v := 1) Γ dL_law_353 (by decide) ?_
  refine x_iadd Γ dL_law_354 ?_
  rw [show nI (4 * j) + 1 = nI (4 * j + 1) from nI_add (4 * j) 1]
  refine x_sld Γ hX hbl hbA rfl (by omega) hl dL_law_355 ?_
  refine x_invV (emb := embI) (ci := 4) (rm := ({ frames := 3, cells := 0, slots := 0, locals := 140 } : Room)) Γ [.int (xs (4 * j + 1))] (fun w1 r w2 => r = (gFetch A L (xs (4 * j + 1))).1 ∧ mP G o ad ((gFetch A L (xs (4 * j + 1))).2.1) ((gFetch A L (xs (4 * j + 1))).2.2) w1 w2) rfl (fun w1 h1 => tm_fetch h1.1 hF.1.1 (fun q hq => (hF.1.2.1.2.2 q hq).1) hF.1.2.1.1) (fun w1 h1 => h1.1.obj) rfl k_672 k_6 k_669 k_670 k_671 hd_X3_fetch ⟨Nat.le_of_ble_eq_true rfl, Nat.le_of_ble_eq_true rfl⟩ ⟨by show 30 + 60 * j + 60 + 0 ≤ 601024; omega, by show 25000 + 400 * j + 400 + 0 ≤ 7293034; omega⟩ (Nat.le_of_ble_eq_true rfl) dL_law_356 (fun r => ?_)
  refine x_then (P2 := LQ G o ad ca out ((gFetch A L (xs (4 * j + 1))).2.1) ((gFetch A L (xs (4 * j + 1))).2.2) ((gFetch A L (xs (4 * j + 1))).2.1) n ((gFetch A L (xs (4 * j + 1))).2.2) D th (kFetch A (xs (4 * j + 1))) ((gFetch A L (xs (4 * j + 1))).1)) (φ := r = (gFetch A L (xs (4 * j + 1))).1) (fun w2 h2 => by obtain ⟨w1, h1, h3, h4⟩ := h2; exact ⟨h3, h1.mdl h4⟩) (fun e2 => ?_)
  subst e2
  refine x_istore Γ dL_law_359 rfl (by decide) ?_
  refine x_aload_n Γ dL_law_361 rfl rfl ?_
  have h19 : (gFetch A L (xs (4 * j + 1))).2.1 19 0 = kFetch A (xs (4 * j + 1)) := fin_19 (fun _ => rfl)
  refine x_invV (emb := embI) (ci := 4) (rm := ({ frames := 0, cells := 0, slots := 0, locals := 0 } : Room)) Γ [] (fun w1 r w2 => r = kFetch A (xs (4 * j + 1)) ∧ mP G o ad ((gFetch A L (xs (4 * j + 1))).2.1) ((gFetch A L (xs (4 * j + 1))).2.2) w1 w2) rfl (fun w1 h1 => by have h9 := t_thrown (l := l) h1.1; rw [h19] at h9; exact h9) (fun w1 h1 => h1.1.obj) rfl k_642 k_6 k_639 k_640 k_641 hd_X3_thrown ⟨Nat.le_of_ble_eq_true rfl, Nat.le_of_ble_eq_true rfl⟩ ⟨by show 30 + 60 * j + 60 + 0 + 0 ≤ 601024; omega, by show 25000 + 400 * j + 400 + 0 + 0 ≤ 7293034; omega⟩ (Nat.le_of_ble_eq_true rfl) dL_law_362 (fun r => ?_)
  refine x_then (P2 := LQ G o ad ca out ((gFetch A L (xs (4 * j + 1))).2.1) ((gFetch A L (xs (4 * j + 1))).2.2) ((gFetch A L (xs (4 * j + 1))).2.1) n ((gFetch A L (xs (4 * j + 1))).2.2) D th (kFetch A (xs (4 * j + 1))) ((gFetch A L (xs (4 * j + 1))).1)) (φ := r = kFetch A (xs (4 * j + 1))) (fun w2 h2 => by obtain ⟨w1, h1, h3, h4⟩ := h2; exact ⟨h3, h1.mdl h4⟩) (fun e3 => ?_)
  subst e3
  refine x_iload Γ dL_law_365 rfl ?_
  refine x_icmp_eq (tgt := 372) Γ dL_law_367 (by decide) (fun c367 => ?_) (fun c367 => absurd (rfl) c367)
  refine x_iload Γ dL_law_372 rfl ?_
  refine x_if_ne (tgt := 389) Γ dL_law_374 (by decide) (fun c374 => ?_) (fun c374 => ?_)
  · refine x_goto (tgt := 1199) Γ dL_law_389 (by decide) ?_
    refine x_weak (P' := LPw G o ad ca out (gFetch A L (xs (4 * j + 1))).2.1 n (gFetch A L (xs (4 * j + 1))).2.2 D th) (fun w2 h2 => h2.any) ?_
    refine x_wide (k' := 30 + 60 * (j + 1)) (n' := 25000 + 400 * (j + 1)) (by show 30 + 60 * j + 60 + 0 + 0 ≤ 30 + 60 * (j + 1); omega) (by show 25000 + 400 * j + 400 + 0 + 0 ≤ 25000 + 400 * (j + 1); omega) ?_
    exact hend _ _ _ _ _ _ hF2 rfl
  · refine x_pin (fun w5 hw5 => ?_)
    obtain ⟨f5, hf5, hf6⟩ := hw5.2.2
    refine x_aload_n Γ dL_law_377 rfl rfl ?_
    refine x_iconst (v := 0) Γ dL_law_378 (by decide) ?_
    refine x_lald (N := 1) (f := f5) (x := (gFetch A L (xs (4 * j + 1))).1.toInt64) Γ (xv_arr hf5) (by unfold vp_in; decide) (hf6 c374) dL_law_379 ?_
    refine x_iload Γ dL_law_380 rfl ?_
    refine x_i2l Γ dL_law_382 rfl ?_
    refine x_lcmp Γ dL_law_383 ?_
    rw [lg_same]
    refine x_if_eq (tgt := 389) Γ dL_law_384 (by decide) (fun c384 => ?_) (fun c384 => absurd (rfl) c384)
    refine x_goto (tgt := 1199) Γ dL_law_389 (by decide) ?_
    refine x_weak (P' := LPw G o ad ca out (gFetch A L (xs (4 * j + 1))).2.1 n (gFetch A L (xs (4 * j + 1))).2.2 D th) (fun w2 h2 => by rw [h2]; exact hw5.any) ?_
    refine x_wide (k' := 30 + 60 * (j + 1)) (n' := 25000 + 400 * (j + 1)) (by show 30 + 60 * j + 60 + 0 + 0 ≤ 30 + 60 * (j + 1); omega) (by show 25000 + 400 * j + 400 + 0 + 0 ≤ 25000 + 400 * (j + 1); omega) ?_
    exact hend _ _ _ _ _ _ hF2 rfl
set_option maxRecDepth 100000 in
theorem lc_want {A : xS} {n : Nat} {L : List Nat} {D : Nat} {th : Nat → Nat} {j : Nat} (Γ : xC p s m meth c G cL_law 7 "LeftThingsLaw" (some .boolean)) (hfl : l.stackTraces = false) (hX : va_X b len xs s s.heap) (hbl : b < s.heap.size) (hbA : ¬ xA G b) (hl : len ≤ 2048) (hj : 4 * j + 4 ≤ len) (hF : fI A n L D) (hend : lEnd p l e s m args below meth c G Q b o ad ca out j) : xJ p l e Rm12 s m args below meth c G 7 Q (LPw G o ad ca out A n L D th) (30 + 60 * j) (25000 + 400 * j) 392 (lLv b ca o out j) [] := by
  refine x_aload_n Γ dL_law_392 rfl rfl ?_
  refine x_aload_n Γ dL_law_393 rfl rfl ?_
  refine x_iload Γ dL_law_394 rfl ?_
  refine x_iconst (v := 1) Γ dL_law_396 (by decide) ?_
  refine x_iadd Γ dL_law_397 ?_
  rw [show nI (4 * j) + 1 = nI (4 * j + 1) from nI_add (4 * j) 1]
  refine x_sld Γ hX hbl hbA rfl (by omega) hl dL_law_398 ?_
  refine x_aload_n Γ dL_law_399 rfl rfl ?_
  refine x_iload Γ dL_law_400 rfl ?_
  refine x_iconst (v := 2) Γ dL_law_402 (by decide) ?_
  refine x_iadd Γ dL_law_403 ?_
  rw [show nI (4 * j) + 2 = nI (4 * j + 2) from nI_add (4 * j) 2]
  refine x_sld Γ hX hbl hbA rfl (by omega) hl dL_law_404 ?_
  refine x_aload_n Γ dL_law_405 rfl rfl ?_
  refine x_invSW (emb := embI) (rm := ({ frames := 9, cells := 60, slots := 400, locals := 365 } : Room)) Γ [.ref (ca 0), .int (xs (4 * j + 1)), .int (xs (4 * j + 2)), .ref out] (fun w1 r w2 => r = kWant A (xs (4 * j + 1)) (xs (4 * j + 2)) ∧ wQ G ca th out (gWant A L (xs (4 * j + 1)) (xs (4 * j + 2))).2.1 n (gWant A L (xs (4 * j + 1)) (xs (4 * j + 2))).2.2 D (kWant A (xs (4 * j + 1)) (xs (4 * j + 2))) ((gWant A L (xs (4 * j + 1)) (xs (4 * j + 2))).1) w1 w2) rfl (fun w1 h1 => by obtain ⟨g1, ⟨T, g2, g3⟩, f, g4, -⟩ := h1; exact tw_want g3 hfl hF.1 g2 hF.2.2.1 hF.2.2.2 g4) k_425 k_0 k_423 k_424 hd_L_want ⟨Nat.le_of_ble_eq_true rfl, Nat.le_of_ble_eq_true rfl⟩ ⟨by show 30 + 60 * j + 60 ≤ 601024; omega, by show 25000 + 400 * j + 400 ≤ 7293034; omega⟩ (Nat.le_of_ble_eq_true rfl) dL_law_406 (fun r => ?_)
  refine x_then (P2 := LQ G o ad ca out A L (gWant A L (xs (4 * j + 1)) (xs (4 * j + 2))).2.1 n (gWant A L (xs (4 * j + 1)) (xs (4 * j + 2))).2.2 D th (kWant A (xs (4 * j + 1)) (xs (4 * j + 2))) ((gWant A L (xs (4 * j + 1)) (xs (4 * j + 2))).1)) (φ := r = kWant A (xs (4 * j + 1)) (xs (4 * j + 2))) (fun w2 h2 => by obtain ⟨w1, h1, h3, h4⟩ := h2; exact ⟨h3, LQ.wrap h1 h4⟩) (fun e1 => ?_)
  subst e1
  have hF2 : fI (gWant A L (xs (4 * j + 1)) (xs (4 * j + 2))).2.1 n (gWant A L (xs (4 * j + 1)) (xs (4 * j + 2))).2.2 D := st_want hF _ _
  refine x_istore Γ dL_law_409 rfl (by decide) ?_
  refine x_aload_n Γ dL_law_411 rfl rfl ?_
  refine x_aload_n Γ dL_law_412 rfl rfl ?_
  refine x_iload Γ dL_law_413 rfl ?_
  refine x_iconst (v := 1) Γ dL_law_415 (by decide) ?_
  refine x_iadd Γ dL_law_416 ?_
  rw [show nI (4 * j) + 1 = nI (4 * j + 1) from nI_add (4 * j) 1]
  refine x_sld Γ hX hbl hbA rfl (by omega) hl dL_law_417 ?_
  refine x_aload_n Γ dL_law_418 rfl rfl ?_
  refine x_iload Γ dL_law_419 rfl ?_
  refine x_iconst (v := 2) Γ dL_law_421 (by decide) ?_
  refine x_iadd Γ dL_law_422 ?_
  rw [show nI (4 * j) + 2 = nI (4 * j + 2) from nI_add (4 * j) 2]
  refine x_sld Γ hX hbl hbA rfl (by omega) hl dL_law_423 ?_
  refine x_invV (emb := embI) (ci := 4) (rm := ({ frames := 3, cells := 0, slots := 0, locals := 140 } : Room)) Γ [.int (xs (4 * j + 1)), .int (xs (4 * j + 2))] (fun w1 r w2 => r = (gWant A L (xs (4 * j + 1)) (xs (4 * j + 2))).1 ∧ mP G o ad ((gWant A L (xs (4 * j + 1)) (xs (4 * j + 2))).2.1) ((gWant A L (xs (4 * j + 1)) (xs (4 * j + 2))).2.2) w1 w2) rfl (fun w1 h1 => tm_want h1.1 hF.1.1 hF.1.2.1) (fun w1 h1 => h1.1.obj) rfl k_688 k_6 k_685 k_686 k_687 hd_X3_want ⟨Nat.le_of_ble_eq_true rfl, Nat.le_of_ble_eq_true rfl⟩ ⟨by show 30 + 60 * j + 60 + 0 ≤ 601024; omega, by show 25000 + 400 * j + 400 + 0 ≤ 7293034; omega⟩ (Nat.le_of_ble_eq_true rfl) dL_law_424 (fun r => ?_)
  refine x_then (P2 := LQ G o ad ca out ((gWant A L (xs (4 * j + 1)) (xs (4 * j + 2))).2.1) ((gWant A L (xs (4 * j + 1)) (xs (4 * j + 2))).2.2) ((gWant A L (xs (4 * j + 1)) (xs (4 * j + 2))).2.1) n ((gWant A L (xs (4 * j + 1)) (xs (4 * j + 2))).2.2) D th (kWant A (xs (4 * j + 1)) (xs (4 * j + 2))) ((gWant A L (xs (4 * j + 1)) (xs (4 * j + 2))).1)) (φ := r = (gWant A L (xs (4 * j + 1)) (xs (4 * j + 2))).1) (fun w2 h2 => by obtain ⟨w1, h1, h3, h4⟩ := h2; exact ⟨h3, h1.mdl h4⟩) (fun e2 => ?_)
  subst e2
  refine x_istore Γ dL_law_427 rfl (by decide) ?_
  refine x_aload_n Γ dL_law_429 rfl rfl ?_
  have h19 : (gWant A L (xs (4 * j + 1)) (xs (4 * j + 2))).2.1 19 0 = kWant A (xs (4 * j + 1)) (xs (4 * j + 2)) := fin_19 (fun _ => rfl)
  refine x_invV (emb := embI) (ci := 4) (rm := ({ frames := 0, cells := 0, slots := 0, locals := 0 } : Room)) Γ [] (fun w1 r w2 => r = kWant A (xs (4 * j + 1)) (xs (4 * j + 2)) ∧ mP G o ad ((gWant A L (xs (4 * j + 1)) (xs (4 * j + 2))).2.1) ((gWant A L (xs (4 * j + 1)) (xs (4 * j + 2))).2.2) w1 w2) rfl (fun w1 h1 => by have h9 := t_thrown (l := l) h1.1; rw [h19] at h9; exact h9) (fun w1 h1 => h1.1.obj) rfl k_642 k_6 k_639 k_640 k_641 hd_X3_thrown ⟨Nat.le_of_ble_eq_true rfl, Nat.le_of_ble_eq_true rfl⟩ ⟨by show 30 + 60 * j + 60 + 0 + 0 ≤ 601024; omega, by show 25000 + 400 * j + 400 + 0 + 0 ≤ 7293034; omega⟩ (Nat.le_of_ble_eq_true rfl) dL_law_430 (fun r => ?_)
  refine x_then (P2 := LQ G o ad ca out ((gWant A L (xs (4 * j + 1)) (xs (4 * j + 2))).2.1) ((gWant A L (xs (4 * j + 1)) (xs (4 * j + 2))).2.2) ((gWant A L (xs (4 * j + 1)) (xs (4 * j + 2))).2.1) n ((gWant A L (xs (4 * j + 1)) (xs (4 * j + 2))).2.2) D th (kWant A (xs (4 * j + 1)) (xs (4 * j + 2))) ((gWant A L (xs (4 * j + 1)) (xs (4 * j + 2))).1)) (φ := r = kWant A (xs (4 * j + 1)) (xs (4 * j + 2))) (fun w2 h2 => by obtain ⟨w1, h1, h3, h4⟩ := h2; exact ⟨h3, h1.mdl h4⟩) (fun e3 => ?_)
  subst e3
  refine x_iload Γ dL_law_433 rfl ?_
  refine x_icmp_eq (tgt := 440) Γ dL_law_435 (by decide) (fun c435 => ?_) (fun c435 => absurd (rfl) c435)
  refine x_iload Γ dL_law_440 rfl ?_
  refine x_if_ne (tgt := 457) Γ dL_law_442 (by decide) (fun c442 => ?_) (fun c442 => ?_)
  · refine x_goto (tgt := 1199) Γ dL_law_457 (by decide) ?_
    refine x_weak (P' := LPw G o ad ca out (gWant A L (xs (4 * j + 1)) (xs (4 * j + 2))).2.1 n (gWant A L (xs (4 * j + 1)) (xs (4 * j + 2))).2.2 D th) (fun w2 h2 => h2.any) ?_
    refine x_wide (k' := 30 + 60 * (j + 1)) (n' := 25000 + 400 * (j + 1)) (by show 30 + 60 * j + 60 + 0 + 0 ≤ 30 + 60 * (j + 1); omega) (by show 25000 + 400 * j + 400 + 0 + 0 ≤ 25000 + 400 * (j + 1); omega) ?_
    exact hend _ _ _ _ _ _ hF2 rfl
  · refine x_pin (fun w5 hw5 => ?_)
    obtain ⟨f5, hf5, hf6⟩ := hw5.2.2
    refine x_aload_n Γ dL_law_445 rfl rfl ?_
    refine x_iconst (v := 0) Γ dL_law_446 (by decide) ?_
    refine x_lald (N := 1) (f := f5) (x := (gWant A L (xs (4 * j + 1)) (xs (4 * j + 2))).1.toInt64) Γ (xv_arr hf5) (by unfold vp_in; decide) (hf6 c442) dL_law_447 ?_
    refine x_iload Γ dL_law_448 rfl ?_
    refine x_i2l Γ dL_law_450 rfl ?_
    refine x_lcmp Γ dL_law_451 ?_
    rw [lg_same]
    refine x_if_eq (tgt := 457) Γ dL_law_452 (by decide) (fun c452 => ?_) (fun c452 => absurd (rfl) c452)
    refine x_goto (tgt := 1199) Γ dL_law_457 (by decide) ?_
    refine x_weak (P' := LPw G o ad ca out (gWant A L (xs (4 * j + 1)) (xs (4 * j + 2))).2.1 n (gWant A L (xs (4 * j + 1)) (xs (4 * j + 2))).2.2 D th) (fun w2 h2 => by rw [h2]; exact hw5.any) ?_
    refine x_wide (k' := 30 + 60 * (j + 1)) (n' := 25000 + 400 * (j + 1)) (by show 30 + 60 * j + 60 + 0 + 0 ≤ 30 + 60 * (j + 1); omega) (by show 25000 + 400 * j + 400 + 0 + 0 ≤ 25000 + 400 * (j + 1); omega) ?_
    exact hend _ _ _ _ _ _ hF2 rfl
set_option maxRecDepth 100000 in
theorem lc_value {A : xS} {n : Nat} {L : List Nat} {D : Nat} {th : Nat → Nat} {j : Nat} (Γ : xC p s m meth c G cL_law 7 "LeftThingsLaw" (some .boolean)) (hfl : l.stackTraces = false) (hX : va_X b len xs s s.heap) (hbl : b < s.heap.size) (hbA : ¬ xA G b) (hl : len ≤ 2048) (hj : 4 * j + 4 ≤ len) (hF : fI A n L D) (hend : lEnd p l e s m args below meth c G Q b o ad ca out j) : xJ p l e Rm12 s m args below meth c G 7 Q (LPw G o ad ca out A n L D th) (30 + 60 * j) (25000 + 400 * j) 460 (lLv b ca o out j) [] := by
  refine x_aload_n Γ dL_law_460 rfl rfl ?_
  refine x_aload_n Γ dL_law_461 rfl rfl ?_
  refine x_iload Γ dL_law_462 rfl ?_
  refine x_iconst (v := 1) Γ dL_law_464 (by decide) ?_
  refine x_iadd Γ dL_law_465 ?_
  rw [show nI (4 * j) + 1 = nI (4 * j + 1) from nI_add (4 * j) 1]
  refine x_sld Γ hX hbl hbA rfl (by omega) hl dL_law_466 ?_
  refine x_aload_n Γ dL_law_467 rfl rfl ?_
  refine x_iload Γ dL_law_468 rfl ?_
  refine x_iconst (v := 2) Γ dL_law_470 (by decide) ?_
  refine x_iadd Γ dL_law_471 ?_
  rw [show nI (4 * j) + 2 = nI (4 * j + 2) from nI_add (4 * j) 2]
  refine x_sld Γ hX hbl hbA rfl (by omega) hl dL_law_472 ?_
  refine x_aload_n Γ dL_law_473 rfl rfl ?_
  refine x_invSW (emb := embI) (rm := ({ frames := 9, cells := 60, slots := 400, locals := 365 } : Room)) Γ [.ref (ca 0), .int (xs (4 * j + 1)), .int (xs (4 * j + 2)), .ref out] (fun w1 r w2 => r = kValue A (xs (4 * j + 1)) (xs (4 * j + 2)) ∧ wQ G ca th out (gValue A L (xs (4 * j + 1)) (xs (4 * j + 2))).2.1 n (gValue A L (xs (4 * j + 1)) (xs (4 * j + 2))).2.2 D (kValue A (xs (4 * j + 1)) (xs (4 * j + 2))) ((gValue A L (xs (4 * j + 1)) (xs (4 * j + 2))).1) w1 w2) rfl (fun w1 h1 => by obtain ⟨g1, ⟨T, g2, g3⟩, f, g4, -⟩ := h1; exact tw_value g3 hfl hF.1 g2 hF.2.2.1 hF.2.2.2 g4) k_434 k_0 k_432 k_433 hd_L_value ⟨Nat.le_of_ble_eq_true rfl, Nat.le_of_ble_eq_true rfl⟩ ⟨by show 30 + 60 * j + 60 ≤ 601024; omega, by show 25000 + 400 * j + 400 ≤ 7293034; omega⟩ (Nat.le_of_ble_eq_true rfl) dL_law_474 (fun r => ?_)
  refine x_then (P2 := LQ G o ad ca out A L (gValue A L (xs (4 * j + 1)) (xs (4 * j + 2))).2.1 n (gValue A L (xs (4 * j + 1)) (xs (4 * j + 2))).2.2 D th (kValue A (xs (4 * j + 1)) (xs (4 * j + 2))) ((gValue A L (xs (4 * j + 1)) (xs (4 * j + 2))).1)) (φ := r = kValue A (xs (4 * j + 1)) (xs (4 * j + 2))) (fun w2 h2 => by obtain ⟨w1, h1, h3, h4⟩ := h2; exact ⟨h3, LQ.wrap h1 h4⟩) (fun e1 => ?_)
  subst e1
  have hF2 : fI (gValue A L (xs (4 * j + 1)) (xs (4 * j + 2))).2.1 n (gValue A L (xs (4 * j + 1)) (xs (4 * j + 2))).2.2 D := st_value hF _ _
  refine x_istore Γ dL_law_477 rfl (by decide) ?_
  refine x_aload_n Γ dL_law_479 rfl rfl ?_
  refine x_aload_n Γ dL_law_480 rfl rfl ?_
  refine x_iload Γ dL_law_481 rfl ?_
  refine x_iconst (v := 1) Γ dL_law_483 (by decide) ?_
  refine x_iadd Γ dL_law_484 ?_
  rw [show nI (4 * j) + 1 = nI (4 * j + 1) from nI_add (4 * j) 1]
  refine x_sld Γ hX hbl hbA rfl (by omega) hl dL_law_485 ?_
  refine x_aload_n Γ dL_law_486 rfl rfl ?_
  refine x_iload Γ dL_law_487 rfl ?_
  refine x_iconst (v := 2) Γ dL_law_489 (by decide) ?_
  refine x_iadd Γ dL_law_490 ?_
  rw [show nI (4 * j) + 2 = nI (4 * j + 2) from nI_add (4 * j) 2]
  refine x_sld Γ hX hbl hbA rfl (by omega) hl dL_law_491 ?_
  refine x_invV (emb := embI) (ci := 4) (rm := ({ frames := 3, cells := 0, slots := 0, locals := 140 } : Room)) Γ [.int (xs (4 * j + 1)), .int (xs (4 * j + 2))] (fun w1 r w2 => r = (gValue A L (xs (4 * j + 1)) (xs (4 * j + 2))).1 ∧ mP G o ad ((gValue A L (xs (4 * j + 1)) (xs (4 * j + 2))).2.1) ((gValue A L (xs (4 * j + 1)) (xs (4 * j + 2))).2.2) w1 w2) rfl (fun w1 h1 => tm_value h1.1 hF.1.1) (fun w1 h1 => h1.1.obj) rfl k_692 k_6 k_689 k_690 k_691 hd_X3_value ⟨Nat.le_of_ble_eq_true rfl, Nat.le_of_ble_eq_true rfl⟩ ⟨by show 30 + 60 * j + 60 + 0 ≤ 601024; omega, by show 25000 + 400 * j + 400 + 0 ≤ 7293034; omega⟩ (Nat.le_of_ble_eq_true rfl) dL_law_492 (fun r => ?_)
  refine x_then (P2 := LQ G o ad ca out ((gValue A L (xs (4 * j + 1)) (xs (4 * j + 2))).2.1) ((gValue A L (xs (4 * j + 1)) (xs (4 * j + 2))).2.2) ((gValue A L (xs (4 * j + 1)) (xs (4 * j + 2))).2.1) n ((gValue A L (xs (4 * j + 1)) (xs (4 * j + 2))).2.2) D th (kValue A (xs (4 * j + 1)) (xs (4 * j + 2))) ((gValue A L (xs (4 * j + 1)) (xs (4 * j + 2))).1)) (φ := r = (gValue A L (xs (4 * j + 1)) (xs (4 * j + 2))).1) (fun w2 h2 => by obtain ⟨w1, h1, h3, h4⟩ := h2; exact ⟨h3, h1.mdl h4⟩) (fun e2 => ?_)
  subst e2
  refine x_istore Γ dL_law_495 rfl (by decide) ?_
  refine x_aload_n Γ dL_law_497 rfl rfl ?_
  have h19 : (gValue A L (xs (4 * j + 1)) (xs (4 * j + 2))).2.1 19 0 = kValue A (xs (4 * j + 1)) (xs (4 * j + 2)) := fin_19 (fun _ => rfl)
  refine x_invV (emb := embI) (ci := 4) (rm := ({ frames := 0, cells := 0, slots := 0, locals := 0 } : Room)) Γ [] (fun w1 r w2 => r = kValue A (xs (4 * j + 1)) (xs (4 * j + 2)) ∧ mP G o ad ((gValue A L (xs (4 * j + 1)) (xs (4 * j + 2))).2.1) ((gValue A L (xs (4 * j + 1)) (xs (4 * j + 2))).2.2) w1 w2) rfl (fun w1 h1 => by have h9 := t_thrown (l := l) h1.1; rw [h19] at h9; exact h9) (fun w1 h1 => h1.1.obj) rfl k_642 k_6 k_639 k_640 k_641 hd_X3_thrown ⟨Nat.le_of_ble_eq_true rfl, Nat.le_of_ble_eq_true rfl⟩ ⟨by show 30 + 60 * j + 60 + 0 + 0 ≤ 601024; omega, by show 25000 + 400 * j + 400 + 0 + 0 ≤ 7293034; omega⟩ (Nat.le_of_ble_eq_true rfl) dL_law_498 (fun r => ?_)
  refine x_then (P2 := LQ G o ad ca out ((gValue A L (xs (4 * j + 1)) (xs (4 * j + 2))).2.1) ((gValue A L (xs (4 * j + 1)) (xs (4 * j + 2))).2.2) ((gValue A L (xs (4 * j + 1)) (xs (4 * j + 2))).2.1) n ((gValue A L (xs (4 * j + 1)) (xs (4 * j + 2))).2.2) D th (kValue A (xs (4 * j + 1)) (xs (4 * j + 2))) ((gValue A L (xs (4 * j + 1)) (xs (4 * j + 2))).1)) (φ := r = kValue A (xs (4 * j + 1)) (xs (4 * j + 2))) (fun w2 h2 => by obtain ⟨w1, h1, h3, h4⟩ := h2; exact ⟨h3, h1.mdl h4⟩) (fun e3 => ?_)
  subst e3
  refine x_iload Γ dL_law_501 rfl ?_
  refine x_icmp_eq (tgt := 508) Γ dL_law_503 (by decide) (fun c503 => ?_) (fun c503 => absurd (rfl) c503)
  refine x_iload Γ dL_law_508 rfl ?_
  refine x_if_ne (tgt := 525) Γ dL_law_510 (by decide) (fun c510 => ?_) (fun c510 => ?_)
  · refine x_goto (tgt := 1199) Γ dL_law_525 (by decide) ?_
    refine x_weak (P' := LPw G o ad ca out (gValue A L (xs (4 * j + 1)) (xs (4 * j + 2))).2.1 n (gValue A L (xs (4 * j + 1)) (xs (4 * j + 2))).2.2 D th) (fun w2 h2 => h2.any) ?_
    refine x_wide (k' := 30 + 60 * (j + 1)) (n' := 25000 + 400 * (j + 1)) (by show 30 + 60 * j + 60 + 0 + 0 ≤ 30 + 60 * (j + 1); omega) (by show 25000 + 400 * j + 400 + 0 + 0 ≤ 25000 + 400 * (j + 1); omega) ?_
    exact hend _ _ _ _ _ _ hF2 rfl
  · refine x_pin (fun w5 hw5 => ?_)
    obtain ⟨f5, hf5, hf6⟩ := hw5.2.2
    refine x_aload_n Γ dL_law_513 rfl rfl ?_
    refine x_iconst (v := 0) Γ dL_law_514 (by decide) ?_
    refine x_lald (N := 1) (f := f5) (x := (gValue A L (xs (4 * j + 1)) (xs (4 * j + 2))).1.toInt64) Γ (xv_arr hf5) (by unfold vp_in; decide) (hf6 c510) dL_law_515 ?_
    refine x_iload Γ dL_law_516 rfl ?_
    refine x_i2l Γ dL_law_518 rfl ?_
    refine x_lcmp Γ dL_law_519 ?_
    rw [lg_same]
    refine x_if_eq (tgt := 525) Γ dL_law_520 (by decide) (fun c520 => ?_) (fun c520 => absurd (rfl) c520)
    refine x_goto (tgt := 1199) Γ dL_law_525 (by decide) ?_
    refine x_weak (P' := LPw G o ad ca out (gValue A L (xs (4 * j + 1)) (xs (4 * j + 2))).2.1 n (gValue A L (xs (4 * j + 1)) (xs (4 * j + 2))).2.2 D th) (fun w2 h2 => by rw [h2]; exact hw5.any) ?_
    refine x_wide (k' := 30 + 60 * (j + 1)) (n' := 25000 + 400 * (j + 1)) (by show 30 + 60 * j + 60 + 0 + 0 ≤ 30 + 60 * (j + 1); omega) (by show 25000 + 400 * j + 400 + 0 + 0 ≤ 25000 + 400 * (j + 1); omega) ?_
    exact hend _ _ _ _ _ _ hF2 rfl
set_option maxRecDepth 100000 in
theorem lc_lend {A : xS} {n : Nat} {L : List Nat} {D : Nat} {th : Nat → Nat} {j : Nat} (Γ : xC p s m meth c G cL_law 7 "LeftThingsLaw" (some .boolean)) (hfl : l.stackTraces = false) (hX : va_X b len xs s s.heap) (hbl : b < s.heap.size) (hbA : ¬ xA G b) (hl : len ≤ 2048) (hj : 4 * j + 4 ≤ len) (hF : fI A n L D) (hend : lEnd p l e s m args below meth c G Q b o ad ca out j) : xJ p l e Rm12 s m args below meth c G 7 Q (LPw G o ad ca out A n L D th) (30 + 60 * j) (25000 + 400 * j) 528 (lLv b ca o out j) [] := by
  refine x_aload_n Γ dL_law_528 rfl rfl ?_
  refine x_aload_n Γ dL_law_529 rfl rfl ?_
  refine x_iload Γ dL_law_530 rfl ?_
  refine x_iconst (v := 1) Γ dL_law_532 (by decide) ?_
  refine x_iadd Γ dL_law_533 ?_
  rw [show nI (4 * j) + 1 = nI (4 * j + 1) from nI_add (4 * j) 1]
  refine x_sld Γ hX hbl hbA rfl (by omega) hl dL_law_534 ?_
  refine x_aload_n Γ dL_law_535 rfl rfl ?_
  refine x_iload Γ dL_law_536 rfl ?_
  refine x_iconst (v := 2) Γ dL_law_538 (by decide) ?_
  refine x_iadd Γ dL_law_539 ?_
  rw [show nI (4 * j) + 2 = nI (4 * j + 2) from nI_add (4 * j) 2]
  refine x_sld Γ hX hbl hbA rfl (by omega) hl dL_law_540 ?_
  refine x_aload_n Γ dL_law_541 rfl rfl ?_
  refine x_iload Γ dL_law_542 rfl ?_
  refine x_iconst (v := 3) Γ dL_law_544 (by decide) ?_
  refine x_iadd Γ dL_law_545 ?_
  rw [show nI (4 * j) + 3 = nI (4 * j + 3) from nI_add (4 * j) 3]
  refine x_sld Γ hX hbl hbA rfl (by omega) hl dL_law_546 ?_
  refine x_invSW (emb := embI) (rm := ({ frames := 9, cells := 60, slots := 400, locals := 365 } : Room)) Γ [.ref (ca 0), .int (xs (4 * j + 1)), .int (xs (4 * j + 2)), .int (xs (4 * j + 3))] (fun w1 r w2 => r = kLend A (xs (4 * j + 1)) (xs (4 * j + 2)) (xs (4 * j + 3)) ∧ wQ G ca th out (gLend A L (xs (4 * j + 1)) (xs (4 * j + 2)) (xs (4 * j + 3))).2.1 n (gLend A L (xs (4 * j + 1)) (xs (4 * j + 2)) (xs (4 * j + 3))).2.2 D (1) (0) w1 w2) rfl (fun w1 h1 => by obtain ⟨g1, ⟨T, g2, g3⟩, f, g4, -⟩ := h1; exact tw_lend g3 hfl hF.1 g2 hF.2.2.1 hF.2.2.2 g4) k_443 k_0 k_441 k_442 hd_L_lend ⟨Nat.le_of_ble_eq_true rfl, Nat.le_of_ble_eq_true rfl⟩ ⟨by show 30 + 60 * j + 60 ≤ 601024; omega, by show 25000 + 400 * j + 400 ≤ 7293034; omega⟩ (Nat.le_of_ble_eq_true rfl) dL_law_547 (fun r => ?_)
  refine x_then (P2 := LQ G o ad ca out A L (gLend A L (xs (4 * j + 1)) (xs (4 * j + 2)) (xs (4 * j + 3))).2.1 n (gLend A L (xs (4 * j + 1)) (xs (4 * j + 2)) (xs (4 * j + 3))).2.2 D th (1) (0)) (φ := r = kLend A (xs (4 * j + 1)) (xs (4 * j + 2)) (xs (4 * j + 3))) (fun w2 h2 => by obtain ⟨w1, h1, h3, h4⟩ := h2; exact ⟨h3, LQ.wrap h1 h4⟩) (fun e1 => ?_)
  subst e1
  have hF2 : fI (gLend A L (xs (4 * j + 1)) (xs (4 * j + 2)) (xs (4 * j + 3))).2.1 n (gLend A L (xs (4 * j + 1)) (xs (4 * j + 2)) (xs (4 * j + 3))).2.2 D := st_lend hF _ _ _
  refine x_istore Γ dL_law_550 rfl (by decide) ?_
  refine x_aload_n Γ dL_law_552 rfl rfl ?_
  refine x_aload_n Γ dL_law_553 rfl rfl ?_
  refine x_iload Γ dL_law_554 rfl ?_
  refine x_iconst (v := 1) Γ dL_law_556 (by decide) ?_
  refine x_iadd Γ dL_law_557 ?_
  rw [show nI (4 * j) + 1 = nI (4 * j + 1) from nI_add (4 * j) 1]
  refine x_sld Γ hX hbl hbA rfl (by omega) hl dL_law_558 ?_
  refine x_aload_n Γ dL_law_559 rfl rfl ?_
  refine x_iload Γ dL_law_560 rfl ?_
  refine x_iconst (v := 2) Γ dL_law_562 (by decide) ?_
  refine x_iadd Γ dL_law_563 ?_
  rw [show nI (4 * j) + 2 = nI (4 * j + 2) from nI_add (4 * j) 2]
  refine x_sld Γ hX hbl hbA rfl (by omega) hl dL_law_564 ?_
  refine x_aload_n Γ dL_law_565 rfl rfl ?_
  refine x_iload Γ dL_law_566 rfl ?_
  refine x_iconst (v := 3) Γ dL_law_568 (by decide) ?_
  refine x_iadd Γ dL_law_569 ?_
  rw [show nI (4 * j) + 3 = nI (4 * j + 3) from nI_add (4 * j) 3]
  refine x_sld Γ hX hbl hbA rfl (by omega) hl dL_law_570 ?_
  refine x_invV (emb := embV) (ci := 4) (rm := ({ frames := 3, cells := 0, slots := 0, locals := 140 } : Room)) Γ [.int (xs (4 * j + 1)), .int (xs (4 * j + 2)), .int (xs (4 * j + 3))] (fun w1 _ w2 => mP G o ad (gLend A L (xs (4 * j + 1)) (xs (4 * j + 2)) (xs (4 * j + 3))).2.1 (gLend A L (xs (4 * j + 1)) (xs (4 * j + 2)) (xs (4 * j + 3))).2.2 w1 w2) rfl (fun w1 h1 => tm_lend h1.1 hF.1.1) (fun w1 h1 => h1.1.obj) rfl k_696 k_6 k_693 k_694 k_695 hd_X3_lend ⟨Nat.le_of_ble_eq_true rfl, Nat.le_of_ble_eq_true rfl⟩ ⟨by show 30 + 60 * j + 60 + 0 ≤ 601024; omega, by show 25000 + 400 * j + 400 + 0 ≤ 7293034; omega⟩ (Nat.le_of_ble_eq_true rfl) dL_law_571 (fun _ => ?_)
  refine x_weak (P' := LQ G o ad ca out (gLend A L (xs (4 * j + 1)) (xs (4 * j + 2)) (xs (4 * j + 3))).2.1 (gLend A L (xs (4 * j + 1)) (xs (4 * j + 2)) (xs (4 * j + 3))).2.2 (gLend A L (xs (4 * j + 1)) (xs (4 * j + 2)) (xs (4 * j + 3))).2.1 n (gLend A L (xs (4 * j + 1)) (xs (4 * j + 2)) (xs (4 * j + 3))).2.2 D th (1) (0)) (fun w2 h2 => by obtain ⟨w1, h1, h4⟩ := h2; exact h1.mdl h4) ?_
  refine x_aload_n Γ dL_law_574 rfl rfl ?_
  have h19 : (gLend A L (xs (4 * j + 1)) (xs (4 * j + 2)) (xs (4 * j + 3))).2.1 19 0 = kLend A (xs (4 * j + 1)) (xs (4 * j + 2)) (xs (4 * j + 3)) := fin_19 (fun _ => rfl)
  refine x_invV (emb := embI) (ci := 4) (rm := ({ frames := 0, cells := 0, slots := 0, locals := 0 } : Room)) Γ [] (fun w1 r w2 => r = kLend A (xs (4 * j + 1)) (xs (4 * j + 2)) (xs (4 * j + 3)) ∧ mP G o ad ((gLend A L (xs (4 * j + 1)) (xs (4 * j + 2)) (xs (4 * j + 3))).2.1) ((gLend A L (xs (4 * j + 1)) (xs (4 * j + 2)) (xs (4 * j + 3))).2.2) w1 w2) rfl (fun w1 h1 => by have h9 := t_thrown (l := l) h1.1; rw [h19] at h9; exact h9) (fun w1 h1 => h1.1.obj) rfl k_642 k_6 k_639 k_640 k_641 hd_X3_thrown ⟨Nat.le_of_ble_eq_true rfl, Nat.le_of_ble_eq_true rfl⟩ ⟨by show 30 + 60 * j + 60 + 0 + 0 ≤ 601024; omega, by show 25000 + 400 * j + 400 + 0 + 0 ≤ 7293034; omega⟩ (Nat.le_of_ble_eq_true rfl) dL_law_575 (fun r => ?_)
  refine x_then (P2 := LQ G o ad ca out ((gLend A L (xs (4 * j + 1)) (xs (4 * j + 2)) (xs (4 * j + 3))).2.1) ((gLend A L (xs (4 * j + 1)) (xs (4 * j + 2)) (xs (4 * j + 3))).2.2) ((gLend A L (xs (4 * j + 1)) (xs (4 * j + 2)) (xs (4 * j + 3))).2.1) n ((gLend A L (xs (4 * j + 1)) (xs (4 * j + 2)) (xs (4 * j + 3))).2.2) D th (1) (0)) (φ := r = kLend A (xs (4 * j + 1)) (xs (4 * j + 2)) (xs (4 * j + 3))) (fun w2 h2 => by obtain ⟨w1, h1, h3, h4⟩ := h2; exact ⟨h3, h1.mdl h4⟩) (fun e3 => ?_)
  subst e3
  refine x_iload Γ dL_law_578 rfl ?_
  refine x_icmp_eq (tgt := 585) Γ dL_law_580 (by decide) (fun c580 => ?_) (fun c580 => absurd (rfl) c580)
  refine x_goto (tgt := 1199) Γ dL_law_585 (by decide) ?_
  refine x_weak (P' := LPw G o ad ca out (gLend A L (xs (4 * j + 1)) (xs (4 * j + 2)) (xs (4 * j + 3))).2.1 n (gLend A L (xs (4 * j + 1)) (xs (4 * j + 2)) (xs (4 * j + 3))).2.2 D th) (fun w2 h2 => h2.any) ?_
  refine x_wide (k' := 30 + 60 * (j + 1)) (n' := 25000 + 400 * (j + 1)) (by show 30 + 60 * j + 60 + 0 + 0 ≤ 30 + 60 * (j + 1); omega) (by show 25000 + 400 * j + 400 + 0 + 0 ≤ 25000 + 400 * (j + 1); omega) ?_
  exact hend _ _ _ _ _ _ hF2 rfl
set_option maxRecDepth 100000 in
theorem lc_repay {A : xS} {n : Nat} {L : List Nat} {D : Nat} {th : Nat → Nat} {j : Nat} (Γ : xC p s m meth c G cL_law 7 "LeftThingsLaw" (some .boolean)) (hfl : l.stackTraces = false) (hX : va_X b len xs s s.heap) (hbl : b < s.heap.size) (hbA : ¬ xA G b) (hl : len ≤ 2048) (hj : 4 * j + 4 ≤ len) (hF : fI A n L D) (hend : lEnd p l e s m args below meth c G Q b o ad ca out j) : xJ p l e Rm12 s m args below meth c G 7 Q (LPw G o ad ca out A n L D th) (30 + 60 * j) (25000 + 400 * j) 588 (lLv b ca o out j) [] := by
  refine x_aload_n Γ dL_law_588 rfl rfl ?_
  refine x_aload_n Γ dL_law_589 rfl rfl ?_
  refine x_iload Γ dL_law_590 rfl ?_
  refine x_iconst (v := 1) Γ dL_law_592 (by decide) ?_
  refine x_iadd Γ dL_law_593 ?_
  rw [show nI (4 * j) + 1 = nI (4 * j + 1) from nI_add (4 * j) 1]
  refine x_sld Γ hX hbl hbA rfl (by omega) hl dL_law_594 ?_
  refine x_aload_n Γ dL_law_595 rfl rfl ?_
  refine x_invSW (emb := embI) (rm := ({ frames := 9, cells := 60, slots := 400, locals := 365 } : Room)) Γ [.ref (ca 0), .int (xs (4 * j + 1)), .ref out] (fun w1 r w2 => r = kRepay A (xs (4 * j + 1)) ∧ wQ G ca th out (gRepay A L (xs (4 * j + 1))).2.1 n (gRepay A L (xs (4 * j + 1))).2.2 D (kRepay A (xs (4 * j + 1))) ((gRepay A L (xs (4 * j + 1))).1) w1 w2) rfl (fun w1 h1 => by obtain ⟨g1, ⟨T, g2, g3⟩, f, g4, -⟩ := h1; exact tw_repay g3 hfl hF.1 g2 hF.2.2.1 hF.2.2.2 g4) k_460 k_0 k_458 k_459 hd_L_repay ⟨Nat.le_of_ble_eq_true rfl, Nat.le_of_ble_eq_true rfl⟩ ⟨by show 30 + 60 * j + 60 ≤ 601024; omega, by show 25000 + 400 * j + 400 ≤ 7293034; omega⟩ (Nat.le_of_ble_eq_true rfl) dL_law_596 (fun r => ?_)
  refine x_then (P2 := LQ G o ad ca out A L (gRepay A L (xs (4 * j + 1))).2.1 n (gRepay A L (xs (4 * j + 1))).2.2 D th (kRepay A (xs (4 * j + 1))) ((gRepay A L (xs (4 * j + 1))).1)) (φ := r = kRepay A (xs (4 * j + 1))) (fun w2 h2 => by obtain ⟨w1, h1, h3, h4⟩ := h2; exact ⟨h3, LQ.wrap h1 h4⟩) (fun e1 => ?_)
  subst e1
  have hF2 : fI (gRepay A L (xs (4 * j + 1))).2.1 n (gRepay A L (xs (4 * j + 1))).2.2 D := st_repay hF _
  refine x_istore Γ dL_law_599 rfl (by decide) ?_
  refine x_aload_n Γ dL_law_601 rfl rfl ?_
  refine x_aload_n Γ dL_law_602 rfl rfl ?_
  refine x_iload Γ dL_law_603 rfl ?_
  refine x_iconst (v := 1) Γ dL_law_605 (by decide) ?_
  refine x_iadd Γ dL_law_606 ?_
  rw [show nI (4 * j) + 1 = nI (4 * j + 1) from nI_add (4 * j) 1]
  refine x_sld Γ hX hbl hbA rfl (by omega) hl dL_law_607 ?_
  refine x_invV (emb := embI) (ci := 4) (rm := ({ frames := 3, cells := 0, slots := 0, locals := 140 } : Room)) Γ [.int (xs (4 * j + 1))] (fun w1 r w2 => r = (gRepay A L (xs (4 * j + 1))).1 ∧ mP G o ad ((gRepay A L (xs (4 * j + 1))).2.1) ((gRepay A L (xs (4 * j + 1))).2.2) w1 w2) rfl (fun w1 h1 => tm_repay h1.1 hF.1.1) (fun w1 h1 => h1.1.obj) rfl k_700 k_6 k_697 k_698 k_699 hd_X3_repay ⟨Nat.le_of_ble_eq_true rfl, Nat.le_of_ble_eq_true rfl⟩ ⟨by show 30 + 60 * j + 60 + 0 ≤ 601024; omega, by show 25000 + 400 * j + 400 + 0 ≤ 7293034; omega⟩ (Nat.le_of_ble_eq_true rfl) dL_law_608 (fun r => ?_)
  refine x_then (P2 := LQ G o ad ca out ((gRepay A L (xs (4 * j + 1))).2.1) ((gRepay A L (xs (4 * j + 1))).2.2) ((gRepay A L (xs (4 * j + 1))).2.1) n ((gRepay A L (xs (4 * j + 1))).2.2) D th (kRepay A (xs (4 * j + 1))) ((gRepay A L (xs (4 * j + 1))).1)) (φ := r = (gRepay A L (xs (4 * j + 1))).1) (fun w2 h2 => by obtain ⟨w1, h1, h3, h4⟩ := h2; exact ⟨h3, h1.mdl h4⟩) (fun e2 => ?_)
  subst e2
  refine x_istore Γ dL_law_611 rfl (by decide) ?_
  refine x_aload_n Γ dL_law_613 rfl rfl ?_
  have h19 : (gRepay A L (xs (4 * j + 1))).2.1 19 0 = kRepay A (xs (4 * j + 1)) := fin_19 (fun _ => rfl)
  refine x_invV (emb := embI) (ci := 4) (rm := ({ frames := 0, cells := 0, slots := 0, locals := 0 } : Room)) Γ [] (fun w1 r w2 => r = kRepay A (xs (4 * j + 1)) ∧ mP G o ad ((gRepay A L (xs (4 * j + 1))).2.1) ((gRepay A L (xs (4 * j + 1))).2.2) w1 w2) rfl (fun w1 h1 => by have h9 := t_thrown (l := l) h1.1; rw [h19] at h9; exact h9) (fun w1 h1 => h1.1.obj) rfl k_642 k_6 k_639 k_640 k_641 hd_X3_thrown ⟨Nat.le_of_ble_eq_true rfl, Nat.le_of_ble_eq_true rfl⟩ ⟨by show 30 + 60 * j + 60 + 0 + 0 ≤ 601024; omega, by show 25000 + 400 * j + 400 + 0 + 0 ≤ 7293034; omega⟩ (Nat.le_of_ble_eq_true rfl) dL_law_614 (fun r => ?_)
  refine x_then (P2 := LQ G o ad ca out ((gRepay A L (xs (4 * j + 1))).2.1) ((gRepay A L (xs (4 * j + 1))).2.2) ((gRepay A L (xs (4 * j + 1))).2.1) n ((gRepay A L (xs (4 * j + 1))).2.2) D th (kRepay A (xs (4 * j + 1))) ((gRepay A L (xs (4 * j + 1))).1)) (φ := r = kRepay A (xs (4 * j + 1))) (fun w2 h2 => by obtain ⟨w1, h1, h3, h4⟩ := h2; exact ⟨h3, h1.mdl h4⟩) (fun e3 => ?_)
  subst e3
  refine x_iload Γ dL_law_617 rfl ?_
  refine x_icmp_eq (tgt := 624) Γ dL_law_619 (by decide) (fun c619 => ?_) (fun c619 => absurd (rfl) c619)
  refine x_iload Γ dL_law_624 rfl ?_
  refine x_if_ne (tgt := 641) Γ dL_law_626 (by decide) (fun c626 => ?_) (fun c626 => ?_)
  · refine x_goto (tgt := 1199) Γ dL_law_641 (by decide) ?_
    refine x_weak (P' := LPw G o ad ca out (gRepay A L (xs (4 * j + 1))).2.1 n (gRepay A L (xs (4 * j + 1))).2.2 D th) (fun w2 h2 => h2.any) ?_
    refine x_wide (k' := 30 + 60 * (j + 1)) (n' := 25000 + 400 * (j + 1)) (by show 30 + 60 * j + 60 + 0 + 0 ≤ 30 + 60 * (j + 1); omega) (by show 25000 + 400 * j + 400 + 0 + 0 ≤ 25000 + 400 * (j + 1); omega) ?_
    exact hend _ _ _ _ _ _ hF2 rfl
  · refine x_pin (fun w5 hw5 => ?_)
    obtain ⟨f5, hf5, hf6⟩ := hw5.2.2
    refine x_aload_n Γ dL_law_629 rfl rfl ?_
    refine x_iconst (v := 0) Γ dL_law_630 (by decide) ?_
    refine x_lald (N := 1) (f := f5) (x := (gRepay A L (xs (4 * j + 1))).1.toInt64) Γ (xv_arr hf5) (by unfold vp_in; decide) (hf6 c626) dL_law_631 ?_
    refine x_iload Γ dL_law_632 rfl ?_
    refine x_i2l Γ dL_law_634 rfl ?_
    refine x_lcmp Γ dL_law_635 ?_
    rw [lg_same]
    refine x_if_eq (tgt := 641) Γ dL_law_636 (by decide) (fun c636 => ?_) (fun c636 => absurd (rfl) c636)
    refine x_goto (tgt := 1199) Γ dL_law_641 (by decide) ?_
    refine x_weak (P' := LPw G o ad ca out (gRepay A L (xs (4 * j + 1))).2.1 n (gRepay A L (xs (4 * j + 1))).2.2 D th) (fun w2 h2 => by rw [h2]; exact hw5.any) ?_
    refine x_wide (k' := 30 + 60 * (j + 1)) (n' := 25000 + 400 * (j + 1)) (by show 30 + 60 * j + 60 + 0 + 0 ≤ 30 + 60 * (j + 1); omega) (by show 25000 + 400 * j + 400 + 0 + 0 ≤ 25000 + 400 * (j + 1); omega) ?_
    exact hend _ _ _ _ _ _ hF2 rfl
set_option maxRecDepth 100000 in
theorem lc_doubt {A : xS} {n : Nat} {L : List Nat} {D : Nat} {th : Nat → Nat} {j : Nat} (Γ : xC p s m meth c G cL_law 7 "LeftThingsLaw" (some .boolean)) (hfl : l.stackTraces = false) (hX : va_X b len xs s s.heap) (hbl : b < s.heap.size) (hbA : ¬ xA G b) (hl : len ≤ 2048) (hj : 4 * j + 4 ≤ len) (hF : fI A n L D) (hend : lEnd p l e s m args below meth c G Q b o ad ca out j) : xJ p l e Rm12 s m args below meth c G 7 Q (LPw G o ad ca out A n L D th) (30 + 60 * j) (25000 + 400 * j) 644 (lLv b ca o out j) [] := by
  refine x_aload_n Γ dL_law_644 rfl rfl ?_
  refine x_aload_n Γ dL_law_645 rfl rfl ?_
  refine x_iload Γ dL_law_646 rfl ?_
  refine x_iconst (v := 1) Γ dL_law_648 (by decide) ?_
  refine x_iadd Γ dL_law_649 ?_
  rw [show nI (4 * j) + 1 = nI (4 * j + 1) from nI_add (4 * j) 1]
  refine x_sld Γ hX hbl hbA rfl (by omega) hl dL_law_650 ?_
  refine x_aload_n Γ dL_law_651 rfl rfl ?_
  refine x_invSW (emb := embI) (rm := ({ frames := 9, cells := 60, slots := 400, locals := 365 } : Room)) Γ [.ref (ca 0), .int (xs (4 * j + 1)), .ref out] (fun w1 r w2 => r = kDoubt A (xs (4 * j + 1)) ∧ wQ G ca th out (gDoubt A L (xs (4 * j + 1))).2.1 n (gDoubt A L (xs (4 * j + 1))).2.2 D (kDoubt A (xs (4 * j + 1))) ((gDoubt A L (xs (4 * j + 1))).1) w1 w2) rfl (fun w1 h1 => by obtain ⟨g1, ⟨T, g2, g3⟩, f, g4, -⟩ := h1; exact tw_doubt g3 hfl hF.1 g2 hF.2.2.1 hF.2.2.2 g4) k_472 k_0 k_470 k_471 hd_L_doubt ⟨Nat.le_of_ble_eq_true rfl, Nat.le_of_ble_eq_true rfl⟩ ⟨by show 30 + 60 * j + 60 ≤ 601024; omega, by show 25000 + 400 * j + 400 ≤ 7293034; omega⟩ (Nat.le_of_ble_eq_true rfl) dL_law_652 (fun r => ?_)
  refine x_then (P2 := LQ G o ad ca out A L (gDoubt A L (xs (4 * j + 1))).2.1 n (gDoubt A L (xs (4 * j + 1))).2.2 D th (kDoubt A (xs (4 * j + 1))) ((gDoubt A L (xs (4 * j + 1))).1)) (φ := r = kDoubt A (xs (4 * j + 1))) (fun w2 h2 => by obtain ⟨w1, h1, h3, h4⟩ := h2; exact ⟨h3, LQ.wrap h1 h4⟩) (fun e1 => ?_)
  subst e1
  have hF2 : fI (gDoubt A L (xs (4 * j + 1))).2.1 n (gDoubt A L (xs (4 * j + 1))).2.2 D := st_doubt hF _
  refine x_istore Γ dL_law_655 rfl (by decide) ?_
  refine x_aload_n Γ dL_law_657 rfl rfl ?_
  refine x_aload_n Γ dL_law_658 rfl rfl ?_
  refine x_iload Γ dL_law_659 rfl ?_
  refine x_iconst (v := 1) Γ dL_law_661 (by decide) ?_
  refine x_iadd Γ dL_law_662 ?_
  rw [show nI (4 * j) + 1 = nI (4 * j + 1) from nI_add (4 * j) 1]
  refine x_sld Γ hX hbl hbA rfl (by omega) hl dL_law_663 ?_
  refine x_invV (emb := embI) (ci := 4) (rm := ({ frames := 3, cells := 0, slots := 0, locals := 140 } : Room)) Γ [.int (xs (4 * j + 1))] (fun w1 r w2 => r = (gDoubt A L (xs (4 * j + 1))).1 ∧ mP G o ad ((gDoubt A L (xs (4 * j + 1))).2.1) ((gDoubt A L (xs (4 * j + 1))).2.2) w1 w2) rfl (fun w1 h1 => tm_doubt h1.1 hF.1.1) (fun w1 h1 => h1.1.obj) rfl k_704 k_6 k_701 k_702 k_703 hd_X3_doubt ⟨Nat.le_of_ble_eq_true rfl, Nat.le_of_ble_eq_true rfl⟩ ⟨by show 30 + 60 * j + 60 + 0 ≤ 601024; omega, by show 25000 + 400 * j + 400 + 0 ≤ 7293034; omega⟩ (Nat.le_of_ble_eq_true rfl) dL_law_664 (fun r => ?_)
  refine x_then (P2 := LQ G o ad ca out ((gDoubt A L (xs (4 * j + 1))).2.1) ((gDoubt A L (xs (4 * j + 1))).2.2) ((gDoubt A L (xs (4 * j + 1))).2.1) n ((gDoubt A L (xs (4 * j + 1))).2.2) D th (kDoubt A (xs (4 * j + 1))) ((gDoubt A L (xs (4 * j + 1))).1)) (φ := r = (gDoubt A L (xs (4 * j + 1))).1) (fun w2 h2 => by obtain ⟨w1, h1, h3, h4⟩ := h2; exact ⟨h3, h1.mdl h4⟩) (fun e2 => ?_)
  subst e2
  refine x_istore Γ dL_law_667 rfl (by decide) ?_
  refine x_aload_n Γ dL_law_669 rfl rfl ?_
  have h19 : (gDoubt A L (xs (4 * j + 1))).2.1 19 0 = kDoubt A (xs (4 * j + 1)) := fin_19 (fun _ => rfl)
  refine x_invV (emb := embI) (ci := 4) (rm := ({ frames := 0, cells := 0, slots := 0, locals := 0 } : Room)) Γ [] (fun w1 r w2 => r = kDoubt A (xs (4 * j + 1)) ∧ mP G o ad ((gDoubt A L (xs (4 * j + 1))).2.1) ((gDoubt A L (xs (4 * j + 1))).2.2) w1 w2) rfl (fun w1 h1 => by have h9 := t_thrown (l := l) h1.1; rw [h19] at h9; exact h9) (fun w1 h1 => h1.1.obj) rfl k_642 k_6 k_639 k_640 k_641 hd_X3_thrown ⟨Nat.le_of_ble_eq_true rfl, Nat.le_of_ble_eq_true rfl⟩ ⟨by show 30 + 60 * j + 60 + 0 + 0 ≤ 601024; omega, by show 25000 + 400 * j + 400 + 0 + 0 ≤ 7293034; omega⟩ (Nat.le_of_ble_eq_true rfl) dL_law_670 (fun r => ?_)
  refine x_then (P2 := LQ G o ad ca out ((gDoubt A L (xs (4 * j + 1))).2.1) ((gDoubt A L (xs (4 * j + 1))).2.2) ((gDoubt A L (xs (4 * j + 1))).2.1) n ((gDoubt A L (xs (4 * j + 1))).2.2) D th (kDoubt A (xs (4 * j + 1))) ((gDoubt A L (xs (4 * j + 1))).1)) (φ := r = kDoubt A (xs (4 * j + 1))) (fun w2 h2 => by obtain ⟨w1, h1, h3, h4⟩ := h2; exact ⟨h3, h1.mdl h4⟩) (fun e3 => ?_)
  subst e3
  refine x_iload Γ dL_law_673 rfl ?_
  refine x_icmp_eq (tgt := 680) Γ dL_law_675 (by decide) (fun c675 => ?_) (fun c675 => absurd (rfl) c675)
  refine x_iload Γ dL_law_680 rfl ?_
  refine x_if_ne (tgt := 697) Γ dL_law_682 (by decide) (fun c682 => ?_) (fun c682 => ?_)
  · refine x_goto (tgt := 1199) Γ dL_law_697 (by decide) ?_
    refine x_weak (P' := LPw G o ad ca out (gDoubt A L (xs (4 * j + 1))).2.1 n (gDoubt A L (xs (4 * j + 1))).2.2 D th) (fun w2 h2 => h2.any) ?_
    refine x_wide (k' := 30 + 60 * (j + 1)) (n' := 25000 + 400 * (j + 1)) (by show 30 + 60 * j + 60 + 0 + 0 ≤ 30 + 60 * (j + 1); omega) (by show 25000 + 400 * j + 400 + 0 + 0 ≤ 25000 + 400 * (j + 1); omega) ?_
    exact hend _ _ _ _ _ _ hF2 rfl
  · refine x_pin (fun w5 hw5 => ?_)
    obtain ⟨f5, hf5, hf6⟩ := hw5.2.2
    refine x_aload_n Γ dL_law_685 rfl rfl ?_
    refine x_iconst (v := 0) Γ dL_law_686 (by decide) ?_
    refine x_lald (N := 1) (f := f5) (x := (gDoubt A L (xs (4 * j + 1))).1.toInt64) Γ (xv_arr hf5) (by unfold vp_in; decide) (hf6 c682) dL_law_687 ?_
    refine x_iload Γ dL_law_688 rfl ?_
    refine x_i2l Γ dL_law_690 rfl ?_
    refine x_lcmp Γ dL_law_691 ?_
    rw [lg_same]
    refine x_if_eq (tgt := 697) Γ dL_law_692 (by decide) (fun c692 => ?_) (fun c692 => absurd (rfl) c692)
    refine x_goto (tgt := 1199) Γ dL_law_697 (by decide) ?_
    refine x_weak (P' := LPw G o ad ca out (gDoubt A L (xs (4 * j + 1))).2.1 n (gDoubt A L (xs (4 * j + 1))).2.2 D th) (fun w2 h2 => by rw [h2]; exact hw5.any) ?_
    refine x_wide (k' := 30 + 60 * (j + 1)) (n' := 25000 + 400 * (j + 1)) (by show 30 + 60 * j + 60 + 0 + 0 ≤ 30 + 60 * (j + 1); omega) (by show 25000 + 400 * j + 400 + 0 + 0 ≤ 25000 + 400 * (j + 1); omega) ?_
    exact hend _ _ _ _ _ _ hF2 rfl
set_option maxRecDepth 100000 in
theorem lc_pass {A : xS} {n : Nat} {L : List Nat} {D : Nat} {th : Nat → Nat} {j : Nat} (Γ : xC p s m meth c G cL_law 7 "LeftThingsLaw" (some .boolean)) (hfl : l.stackTraces = false) (hX : va_X b len xs s s.heap) (hbl : b < s.heap.size) (hbA : ¬ xA G b) (hl : len ≤ 2048) (hj : 4 * j + 4 ≤ len) (hF : fI A n L D) (hend : lEnd p l e s m args below meth c G Q b o ad ca out j) : xJ p l e Rm12 s m args below meth c G 7 Q (LPw G o ad ca out A n L D th) (30 + 60 * j) (25000 + 400 * j) 700 (lLv b ca o out j) [] := by
  refine x_aload_n Γ dL_law_700 rfl rfl ?_
  refine x_aload_n Γ dL_law_701 rfl rfl ?_
  refine x_iload Γ dL_law_702 rfl ?_
  refine x_iconst (v := 1) Γ dL_law_704 (by decide) ?_
  refine x_iadd Γ dL_law_705 ?_
  rw [show nI (4 * j) + 1 = nI (4 * j + 1) from nI_add (4 * j) 1]
  refine x_sld Γ hX hbl hbA rfl (by omega) hl dL_law_706 ?_
  refine x_aload_n Γ dL_law_707 rfl rfl ?_
  refine x_invSW (emb := embI) (rm := ({ frames := 9, cells := 60, slots := 400, locals := 365 } : Room)) Γ [.ref (ca 0), .int (xs (4 * j + 1)), .ref out] (fun w1 r w2 => r = kPass A (xs (4 * j + 1)) ∧ ∃ D', (kPass A (xs (4 * j + 1)) = 0 → D' = D + ix (xs (4 * j + 1))) ∧ (¬ kPass A (xs (4 * j + 1)) = 0 → D' = D) ∧ wQ G ca th out (gPass A L (xs (4 * j + 1))).2.1 n (gPass A L (xs (4 * j + 1))).2.2 D' (kPass A (xs (4 * j + 1))) ((gPass A L (xs (4 * j + 1))).1) w1 w2) rfl (fun w1 h1 => by obtain ⟨g1, ⟨T, g2, g3⟩, f, g4, -⟩ := h1; exact tw_pass g3 hfl hF.1 g2 hF.2.2.1 hF.2.2.2 hF.2.1 g4) k_484 k_0 k_482 k_483 hd_L_pass ⟨Nat.le_of_ble_eq_true rfl, Nat.le_of_ble_eq_true rfl⟩ ⟨by show 30 + 60 * j + 60 ≤ 601024; omega, by show 25000 + 400 * j + 400 ≤ 7293034; omega⟩ (Nat.le_of_ble_eq_true rfl) dL_law_708 (fun r => ?_)
  refine x_then (P2 := fun w2 => (∃ D', (kPass A (xs (4 * j + 1)) = 0 → D' = D + ix (xs (4 * j + 1))) ∧ (¬ kPass A (xs (4 * j + 1)) = 0 → D' = D) ∧ LQ G o ad ca out A L (gPass A L (xs (4 * j + 1))).2.1 n (gPass A L (xs (4 * j + 1))).2.2 D' th (kPass A (xs (4 * j + 1))) ((gPass A L (xs (4 * j + 1))).1) w2)) (φ := r = kPass A (xs (4 * j + 1))) (fun w2 h2 => by obtain ⟨w1, h1, h3, D', h5, h6, h7⟩ := h2; exact ⟨h3, D', h5, h6, LQ.wrap h1 h7⟩) (fun e1 => ?_)
  subst e1
  refine x_any (F := fun D' w2 => (kPass A (xs (4 * j + 1)) = 0 → D' = D + ix (xs (4 * j + 1))) ∧ (¬ kPass A (xs (4 * j + 1)) = 0 → D' = D) ∧ LQ G o ad ca out A L (gPass A L (xs (4 * j + 1))).2.1 n (gPass A L (xs (4 * j + 1))).2.2 D' th (kPass A (xs (4 * j + 1))) ((gPass A L (xs (4 * j + 1))).1) w2) (fun D' => ?_)
  refine x_then (P2 := LQ G o ad ca out A L (gPass A L (xs (4 * j + 1))).2.1 n (gPass A L (xs (4 * j + 1))).2.2 D' th (kPass A (xs (4 * j + 1))) ((gPass A L (xs (4 * j + 1))).1)) (φ := (kPass A (xs (4 * j + 1)) = 0 → D' = D + ix (xs (4 * j + 1))) ∧ (¬ kPass A (xs (4 * j + 1)) = 0 → D' = D)) (fun w2 h2 => ⟨⟨h2.1, h2.2.1⟩, h2.2.2⟩) (fun hn' => ?_)
  have hF2 : fI (gPass A L (xs (4 * j + 1))).2.1 n (gPass A L (xs (4 * j + 1))).2.2 D' := by
    by_cases hk : kPass A (xs (4 * j + 1)) = 0
    · rw [hn'.1 hk]; exact st_pass hF _ hk
    · rw [hn'.2 hk]; exact st_pass0 hF _ hk
  refine x_istore Γ dL_law_711 rfl (by decide) ?_
  refine x_aload_n Γ dL_law_713 rfl rfl ?_
  refine x_aload_n Γ dL_law_714 rfl rfl ?_
  refine x_iload Γ dL_law_715 rfl ?_
  refine x_iconst (v := 1) Γ dL_law_717 (by decide) ?_
  refine x_iadd Γ dL_law_718 ?_
  rw [show nI (4 * j) + 1 = nI (4 * j + 1) from nI_add (4 * j) 1]
  refine x_sld Γ hX hbl hbA rfl (by omega) hl dL_law_719 ?_
  refine x_invV (emb := embI) (ci := 4) (rm := ({ frames := 3, cells := 0, slots := 0, locals := 140 } : Room)) Γ [.int (xs (4 * j + 1))] (fun w1 r w2 => r = (gPass A L (xs (4 * j + 1))).1 ∧ mP G o ad ((gPass A L (xs (4 * j + 1))).2.1) ((gPass A L (xs (4 * j + 1))).2.2) w1 w2) rfl (fun w1 h1 => tm_pass h1.1 hF.1.1 hF.1.2.1) (fun w1 h1 => h1.1.obj) rfl k_708 k_6 k_705 k_706 k_707 hd_X3_pass ⟨Nat.le_of_ble_eq_true rfl, Nat.le_of_ble_eq_true rfl⟩ ⟨by show 30 + 60 * j + 60 + 0 ≤ 601024; omega, by show 25000 + 400 * j + 400 + 0 ≤ 7293034; omega⟩ (Nat.le_of_ble_eq_true rfl) dL_law_720 (fun r => ?_)
  refine x_then (P2 := LQ G o ad ca out ((gPass A L (xs (4 * j + 1))).2.1) ((gPass A L (xs (4 * j + 1))).2.2) ((gPass A L (xs (4 * j + 1))).2.1) n ((gPass A L (xs (4 * j + 1))).2.2) D' th (kPass A (xs (4 * j + 1))) ((gPass A L (xs (4 * j + 1))).1)) (φ := r = (gPass A L (xs (4 * j + 1))).1) (fun w2 h2 => by obtain ⟨w1, h1, h3, h4⟩ := h2; exact ⟨h3, h1.mdl h4⟩) (fun e2 => ?_)
  subst e2
  refine x_istore Γ dL_law_723 rfl (by decide) ?_
  refine x_aload_n Γ dL_law_725 rfl rfl ?_
  have h19 : (gPass A L (xs (4 * j + 1))).2.1 19 0 = kPass A (xs (4 * j + 1)) := pass_19 hF _
  refine x_invV (emb := embI) (ci := 4) (rm := ({ frames := 0, cells := 0, slots := 0, locals := 0 } : Room)) Γ [] (fun w1 r w2 => r = kPass A (xs (4 * j + 1)) ∧ mP G o ad ((gPass A L (xs (4 * j + 1))).2.1) ((gPass A L (xs (4 * j + 1))).2.2) w1 w2) rfl (fun w1 h1 => by have h9 := t_thrown (l := l) h1.1; rw [h19] at h9; exact h9) (fun w1 h1 => h1.1.obj) rfl k_642 k_6 k_639 k_640 k_641 hd_X3_thrown ⟨Nat.le_of_ble_eq_true rfl, Nat.le_of_ble_eq_true rfl⟩ ⟨by show 30 + 60 * j + 60 + 0 + 0 ≤ 601024; omega, by show 25000 + 400 * j + 400 + 0 + 0 ≤ 7293034; omega⟩ (Nat.le_of_ble_eq_true rfl) dL_law_726 (fun r => ?_)
  refine x_then (P2 := LQ G o ad ca out ((gPass A L (xs (4 * j + 1))).2.1) ((gPass A L (xs (4 * j + 1))).2.2) ((gPass A L (xs (4 * j + 1))).2.1) n ((gPass A L (xs (4 * j + 1))).2.2) D' th (kPass A (xs (4 * j + 1))) ((gPass A L (xs (4 * j + 1))).1)) (φ := r = kPass A (xs (4 * j + 1))) (fun w2 h2 => by obtain ⟨w1, h1, h3, h4⟩ := h2; exact ⟨h3, h1.mdl h4⟩) (fun e3 => ?_)
  subst e3
  refine x_iload Γ dL_law_729 rfl ?_
  refine x_icmp_eq (tgt := 736) Γ dL_law_731 (by decide) (fun c731 => ?_) (fun c731 => absurd (rfl) c731)
  refine x_iload Γ dL_law_736 rfl ?_
  refine x_if_ne (tgt := 753) Γ dL_law_738 (by decide) (fun c738 => ?_) (fun c738 => ?_)
  · refine x_goto (tgt := 1199) Γ dL_law_753 (by decide) ?_
    refine x_weak (P' := LPw G o ad ca out (gPass A L (xs (4 * j + 1))).2.1 n (gPass A L (xs (4 * j + 1))).2.2 D' th) (fun w2 h2 => h2.any) ?_
    refine x_wide (k' := 30 + 60 * (j + 1)) (n' := 25000 + 400 * (j + 1)) (by show 30 + 60 * j + 60 + 0 + 0 ≤ 30 + 60 * (j + 1); omega) (by show 25000 + 400 * j + 400 + 0 + 0 ≤ 25000 + 400 * (j + 1); omega) ?_
    exact hend _ _ _ _ _ _ hF2 rfl
  · refine x_pin (fun w5 hw5 => ?_)
    obtain ⟨f5, hf5, hf6⟩ := hw5.2.2
    refine x_aload_n Γ dL_law_741 rfl rfl ?_
    refine x_iconst (v := 0) Γ dL_law_742 (by decide) ?_
    refine x_lald (N := 1) (f := f5) (x := (gPass A L (xs (4 * j + 1))).1.toInt64) Γ (xv_arr hf5) (by unfold vp_in; decide) (hf6 c738) dL_law_743 ?_
    refine x_iload Γ dL_law_744 rfl ?_
    refine x_i2l Γ dL_law_746 rfl ?_
    refine x_lcmp Γ dL_law_747 ?_
    rw [lg_same]
    refine x_if_eq (tgt := 753) Γ dL_law_748 (by decide) (fun c748 => ?_) (fun c748 => absurd (rfl) c748)
    refine x_goto (tgt := 1199) Γ dL_law_753 (by decide) ?_
    refine x_weak (P' := LPw G o ad ca out (gPass A L (xs (4 * j + 1))).2.1 n (gPass A L (xs (4 * j + 1))).2.2 D' th) (fun w2 h2 => by rw [h2]; exact hw5.any) ?_
    refine x_wide (k' := 30 + 60 * (j + 1)) (n' := 25000 + 400 * (j + 1)) (by show 30 + 60 * j + 60 + 0 + 0 ≤ 30 + 60 * (j + 1); omega) (by show 25000 + 400 * j + 400 + 0 + 0 ≤ 25000 + 400 * (j + 1); omega) ?_
    exact hend _ _ _ _ _ _ hF2 rfl
set_option maxRecDepth 100000 in
theorem lc_day {A : xS} {n : Nat} {L : List Nat} {D : Nat} {th : Nat → Nat} {j : Nat} (Γ : xC p s m meth c G cL_law 7 "LeftThingsLaw" (some .boolean)) (hfl : l.stackTraces = false) (hX : va_X b len xs s s.heap) (hbl : b < s.heap.size) (hbA : ¬ xA G b) (hl : len ≤ 2048) (hj : 4 * j + 4 ≤ len) (hF : fI A n L D) (hend : lEnd p l e s m args below meth c G Q b o ad ca out j) : xJ p l e Rm12 s m args below meth c G 7 Q (LPw G o ad ca out A n L D th) (30 + 60 * j) (25000 + 400 * j) 756 (lLv b ca o out j) [] := by
  refine x_aload_n Γ dL_law_756 rfl rfl ?_
  refine x_invV (emb := embI) (ci := 3) (rm := ({ frames := 1, cells := 0, slots := 0, locals := 40 } : Room)) Γ [] (fun w1 r w2 => r = (g0 4 A L).1 ∧ cQ G ca th (g0 4 A L).2.1 n (g0 4 A L).2.2 D w1 w2) rfl (fun w1 h1 => by obtain ⟨g1, ⟨T, g2, g3⟩, f, g4⟩ := h1; exact tc_day g3 hF.1 g2 hF.2.2.1 hF.2.2.2) (fun w1 h1 => by obtain ⟨g1, ⟨T, g2, g3⟩, f, g4⟩ := h1; exact ⟨_, _, g3.1⟩) rfl k_83 k_1 k_80 k_81 k_82 hd_X2_day ⟨Nat.le_of_ble_eq_true rfl, Nat.le_of_ble_eq_true rfl⟩ ⟨by show 30 + 60 * j + 0 ≤ 601024; omega, by show 25000 + 400 * j + 0 ≤ 7293034; omega⟩ (Nat.le_of_ble_eq_true rfl) dL_law_757 (fun r => ?_)
  refine x_then (P2 := LQ G o ad ca out A L (g0 4 A L).2.1 n (g0 4 A L).2.2 D th 1 0) (φ := r = (g0 4 A L).1) (fun w2 h2 => by obtain ⟨w1, h1, h3, h4⟩ := h2; obtain ⟨g1, -, f, g4, -⟩ := h1; exact ⟨h3, g1.kp (h4.2.mono (by intro k hk; omega)), h4.1, f, h4.2 _ _ _ g4 (by omega), fun z => absurd z (by decide)⟩) (fun e1 => ?_)
  subst e1
  refine x_aload_n Γ dL_law_760 rfl rfl ?_
  refine x_invV (emb := embI) (ci := 4) (rm := ({ frames := 0, cells := 0, slots := 0, locals := 0 } : Room)) Γ [] (fun w1 r w2 => r = (g0 4 A L).1 ∧ mP G o ad ((g0 4 A L).2.1) ((g0 4 A L).2.2) w1 w2) rfl (fun w1 h1 => tm_day h1.1) (fun w1 h1 => h1.1.obj) rfl k_724 k_6 k_721 k_722 k_723 hd_X3_day ⟨Nat.le_of_ble_eq_true rfl, Nat.le_of_ble_eq_true rfl⟩ ⟨by show 30 + 60 * j + 0 + 0 ≤ 601024; omega, by show 25000 + 400 * j + 0 + 0 ≤ 7293034; omega⟩ (Nat.le_of_ble_eq_true rfl) dL_law_761 (fun r => ?_)
  refine x_then (P2 := LQ G o ad ca out ((g0 4 A L).2.1) ((g0 4 A L).2.2) ((g0 4 A L).2.1) n ((g0 4 A L).2.2) D th (1) (0)) (φ := r = (g0 4 A L).1) (fun w2 h2 => by obtain ⟨w1, h1, h3, h4⟩ := h2; exact ⟨h3, h1.mdl h4⟩) (fun e2 => ?_)
  subst e2
  refine x_icmp_eq (tgt := 1199) Γ dL_law_764 (by decide) (fun c764 => ?_) (fun c764 => absurd (rfl) c764)
  refine x_wide (k' := 30 + 60 * (j + 1)) (n' := 25000 + 400 * (j + 1)) (by show 30 + 60 * j + 0 + 0 ≤ 30 + 60 * (j + 1); omega) (by show 25000 + 400 * j + 0 + 0 ≤ 25000 + 400 * (j + 1); omega) ?_
  exact hend _ n _ D th _ (fI_thr hF 0) rfl
set_option maxRecDepth 100000 in
theorem lc_things {A : xS} {n : Nat} {L : List Nat} {D : Nat} {th : Nat → Nat} {j : Nat} (Γ : xC p s m meth c G cL_law 7 "LeftThingsLaw" (some .boolean)) (hfl : l.stackTraces = false) (hX : va_X b len xs s s.heap) (hbl : b < s.heap.size) (hbA : ¬ xA G b) (hl : len ≤ 2048) (hj : 4 * j + 4 ≤ len) (hF : fI A n L D) (hend : lEnd p l e s m args below meth c G Q b o ad ca out j) : xJ p l e Rm12 s m args below meth c G 7 Q (LPw G o ad ca out A n L D th) (30 + 60 * j) (25000 + 400 * j) 769 (lLv b ca o out j) [] := by
  refine x_aload_n Γ dL_law_769 rfl rfl ?_
  refine x_invV (emb := embI) (ci := 3) (rm := ({ frames := 1, cells := 0, slots := 0, locals := 40 } : Room)) Γ [] (fun w1 r w2 => r = (g0 5 A L).1 ∧ cQ G ca th (g0 5 A L).2.1 n (g0 5 A L).2.2 D w1 w2) rfl (fun w1 h1 => by obtain ⟨g1, ⟨T, g2, g3⟩, f, g4⟩ := h1; exact tc_things g3 hF.1 g2 hF.2.2.1 hF.2.2.2) (fun w1 h1 => by obtain ⟨g1, ⟨T, g2, g3⟩, f, g4⟩ := h1; exact ⟨_, _, g3.1⟩) rfl k_87 k_1 k_84 k_85 k_86 hd_X2_things ⟨Nat.le_of_ble_eq_true rfl, Nat.le_of_ble_eq_true rfl⟩ ⟨by show 30 + 60 * j + 0 ≤ 601024; omega, by show 25000 + 400 * j + 0 ≤ 7293034; omega⟩ (Nat.le_of_ble_eq_true rfl) dL_law_770 (fun r => ?_)
  refine x_then (P2 := LQ G o ad ca out A L (g0 5 A L).2.1 n (g0 5 A L).2.2 D th 1 0) (φ := r = (g0 5 A L).1) (fun w2 h2 => by obtain ⟨w1, h1, h3, h4⟩ := h2; obtain ⟨g1, -, f, g4, -⟩ := h1; exact ⟨h3, g1.kp (h4.2.mono (by intro k hk; omega)), h4.1, f, h4.2 _ _ _ g4 (by omega), fun z => absurd z (by decide)⟩) (fun e1 => ?_)
  subst e1
  refine x_aload_n Γ dL_law_773 rfl rfl ?_
  refine x_invV (emb := embI) (ci := 4) (rm := ({ frames := 0, cells := 0, slots := 0, locals := 0 } : Room)) Γ [] (fun w1 r w2 => r = (g0 5 A L).1 ∧ mP G o ad ((g0 5 A L).2.1) ((g0 5 A L).2.2) w1 w2) rfl (fun w1 h1 => tm_things h1.1) (fun w1 h1 => h1.1.obj) rfl k_728 k_6 k_725 k_726 k_727 hd_X3_things ⟨Nat.le_of_ble_eq_true rfl, Nat.le_of_ble_eq_true rfl⟩ ⟨by show 30 + 60 * j + 0 + 0 ≤ 601024; omega, by show 25000 + 400 * j + 0 + 0 ≤ 7293034; omega⟩ (Nat.le_of_ble_eq_true rfl) dL_law_774 (fun r => ?_)
  refine x_then (P2 := LQ G o ad ca out ((g0 5 A L).2.1) ((g0 5 A L).2.2) ((g0 5 A L).2.1) n ((g0 5 A L).2.2) D th (1) (0)) (φ := r = (g0 5 A L).1) (fun w2 h2 => by obtain ⟨w1, h1, h3, h4⟩ := h2; exact ⟨h3, h1.mdl h4⟩) (fun e2 => ?_)
  subst e2
  refine x_icmp_eq (tgt := 1199) Γ dL_law_777 (by decide) (fun c777 => ?_) (fun c777 => absurd (rfl) c777)
  refine x_wide (k' := 30 + 60 * (j + 1)) (n' := 25000 + 400 * (j + 1)) (by show 30 + 60 * j + 0 + 0 ≤ 30 + 60 * (j + 1); omega) (by show 25000 + 400 * j + 0 + 0 ≤ 25000 + 400 * (j + 1); omega) ?_
  exact hend _ n _ D th _ (fI_thr hF 0) rfl
set_option maxRecDepth 100000 in
theorem lc_where {A : xS} {n : Nat} {L : List Nat} {D : Nat} {th : Nat → Nat} {j : Nat} (Γ : xC p s m meth c G cL_law 7 "LeftThingsLaw" (some .boolean)) (hfl : l.stackTraces = false) (hX : va_X b len xs s s.heap) (hbl : b < s.heap.size) (hbA : ¬ xA G b) (hl : len ≤ 2048) (hj : 4 * j + 4 ≤ len) (hF : fI A n L D) (hend : lEnd p l e s m args below meth c G Q b o ad ca out j) : xJ p l e Rm12 s m args below meth c G 7 Q (LPw G o ad ca out A n L D th) (30 + 60 * j) (25000 + 400 * j) 782 (lLv b ca o out j) [] := by
  refine x_aload_n Γ dL_law_782 rfl rfl ?_
  refine x_aload_n Γ dL_law_783 rfl rfl ?_
  refine x_iload Γ dL_law_784 rfl ?_
  refine x_iconst (v := 1) Γ dL_law_786 (by decide) ?_
  refine x_iadd Γ dL_law_787 ?_
  rw [show nI (4 * j) + 1 = nI (4 * j + 1) from nI_add (4 * j) 1]
  refine x_sld Γ hX hbl hbA rfl (by omega) hl dL_law_788 ?_
  refine x_aload_n Γ dL_law_789 rfl rfl ?_
  refine x_invSW (emb := embI) (rm := ({ frames := 9, cells := 60, slots := 400, locals := 365 } : Room)) Γ [.ref (ca 0), .int (xs (4 * j + 1)), .ref out] (fun w1 r w2 => r = kT1 A (xs (4 * j + 1)) ∧ wQ G ca th out (gT1 9 A L (xs (4 * j + 1))).2.1 n (gT1 9 A L (xs (4 * j + 1))).2.2 D (kT1 A (xs (4 * j + 1))) ((gT1 9 A L (xs (4 * j + 1))).1) w1 w2) rfl (fun w1 h1 => by obtain ⟨g1, ⟨T, g2, g3⟩, f, g4, -⟩ := h1; exact tw_where g3 hfl hF.1 g2 hF.2.2.1 hF.2.2.2 g4) k_518 k_0 k_516 k_517 hd_L_where ⟨Nat.le_of_ble_eq_true rfl, Nat.le_of_ble_eq_true rfl⟩ ⟨by show 30 + 60 * j + 60 ≤ 601024; omega, by show 25000 + 400 * j + 400 ≤ 7293034; omega⟩ (Nat.le_of_ble_eq_true rfl) dL_law_790 (fun r => ?_)
  refine x_then (P2 := LQ G o ad ca out A L (gT1 9 A L (xs (4 * j + 1))).2.1 n (gT1 9 A L (xs (4 * j + 1))).2.2 D th (kT1 A (xs (4 * j + 1))) ((gT1 9 A L (xs (4 * j + 1))).1)) (φ := r = kT1 A (xs (4 * j + 1))) (fun w2 h2 => by obtain ⟨w1, h1, h3, h4⟩ := h2; exact ⟨h3, LQ.wrap h1 h4⟩) (fun e1 => ?_)
  subst e1
  have hF2 : fI (gT1 9 A L (xs (4 * j + 1))).2.1 n (gT1 9 A L (xs (4 * j + 1))).2.2 D := st_T1 _ hF _
  refine x_istore Γ dL_law_793 rfl (by decide) ?_
  refine x_aload_n Γ dL_law_795 rfl rfl ?_
  refine x_aload_n Γ dL_law_796 rfl rfl ?_
  refine x_iload Γ dL_law_797 rfl ?_
  refine x_iconst (v := 1) Γ dL_law_799 (by decide) ?_
  refine x_iadd Γ dL_law_800 ?_
  rw [show nI (4 * j) + 1 = nI (4 * j + 1) from nI_add (4 * j) 1]
  refine x_sld Γ hX hbl hbA rfl (by omega) hl dL_law_801 ?_
  refine x_invV (emb := embI) (ci := 4) (rm := ({ frames := 3, cells := 0, slots := 0, locals := 140 } : Room)) Γ [.int (xs (4 * j + 1))] (fun w1 r w2 => r = (gT1 9 A L (xs (4 * j + 1))).1 ∧ mP G o ad ((gT1 9 A L (xs (4 * j + 1))).2.1) ((gT1 9 A L (xs (4 * j + 1))).2.2) w1 w2) rfl (fun w1 h1 => tm_where h1.1 hF.1.1) (fun w1 h1 => h1.1.obj) rfl k_732 k_6 k_729 k_730 k_731 hd_X3_where ⟨Nat.le_of_ble_eq_true rfl, Nat.le_of_ble_eq_true rfl⟩ ⟨by show 30 + 60 * j + 60 + 0 ≤ 601024; omega, by show 25000 + 400 * j + 400 + 0 ≤ 7293034; omega⟩ (Nat.le_of_ble_eq_true rfl) dL_law_802 (fun r => ?_)
  refine x_then (P2 := LQ G o ad ca out ((gT1 9 A L (xs (4 * j + 1))).2.1) ((gT1 9 A L (xs (4 * j + 1))).2.2) ((gT1 9 A L (xs (4 * j + 1))).2.1) n ((gT1 9 A L (xs (4 * j + 1))).2.2) D th (kT1 A (xs (4 * j + 1))) ((gT1 9 A L (xs (4 * j + 1))).1)) (φ := r = (gT1 9 A L (xs (4 * j + 1))).1) (fun w2 h2 => by obtain ⟨w1, h1, h3, h4⟩ := h2; exact ⟨h3, h1.mdl h4⟩) (fun e2 => ?_)
  subst e2
  refine x_istore Γ dL_law_805 rfl (by decide) ?_
  refine x_aload_n Γ dL_law_807 rfl rfl ?_
  have h19 : (gT1 9 A L (xs (4 * j + 1))).2.1 19 0 = kT1 A (xs (4 * j + 1)) := fin_19 (fun _ => rfl)
  refine x_invV (emb := embI) (ci := 4) (rm := ({ frames := 0, cells := 0, slots := 0, locals := 0 } : Room)) Γ [] (fun w1 r w2 => r = kT1 A (xs (4 * j + 1)) ∧ mP G o ad ((gT1 9 A L (xs (4 * j + 1))).2.1) ((gT1 9 A L (xs (4 * j + 1))).2.2) w1 w2) rfl (fun w1 h1 => by have h9 := t_thrown (l := l) h1.1; rw [h19] at h9; exact h9) (fun w1 h1 => h1.1.obj) rfl k_642 k_6 k_639 k_640 k_641 hd_X3_thrown ⟨Nat.le_of_ble_eq_true rfl, Nat.le_of_ble_eq_true rfl⟩ ⟨by show 30 + 60 * j + 60 + 0 + 0 ≤ 601024; omega, by show 25000 + 400 * j + 400 + 0 + 0 ≤ 7293034; omega⟩ (Nat.le_of_ble_eq_true rfl) dL_law_808 (fun r => ?_)
  refine x_then (P2 := LQ G o ad ca out ((gT1 9 A L (xs (4 * j + 1))).2.1) ((gT1 9 A L (xs (4 * j + 1))).2.2) ((gT1 9 A L (xs (4 * j + 1))).2.1) n ((gT1 9 A L (xs (4 * j + 1))).2.2) D th (kT1 A (xs (4 * j + 1))) ((gT1 9 A L (xs (4 * j + 1))).1)) (φ := r = kT1 A (xs (4 * j + 1))) (fun w2 h2 => by obtain ⟨w1, h1, h3, h4⟩ := h2; exact ⟨h3, h1.mdl h4⟩) (fun e3 => ?_)
  subst e3
  refine x_iload Γ dL_law_811 rfl ?_
  refine x_icmp_eq (tgt := 818) Γ dL_law_813 (by decide) (fun c813 => ?_) (fun c813 => absurd (rfl) c813)
  refine x_iload Γ dL_law_818 rfl ?_
  refine x_if_ne (tgt := 835) Γ dL_law_820 (by decide) (fun c820 => ?_) (fun c820 => ?_)
  · refine x_goto (tgt := 1199) Γ dL_law_835 (by decide) ?_
    refine x_weak (P' := LPw G o ad ca out (gT1 9 A L (xs (4 * j + 1))).2.1 n (gT1 9 A L (xs (4 * j + 1))).2.2 D th) (fun w2 h2 => h2.any) ?_
    refine x_wide (k' := 30 + 60 * (j + 1)) (n' := 25000 + 400 * (j + 1)) (by show 30 + 60 * j + 60 + 0 + 0 ≤ 30 + 60 * (j + 1); omega) (by show 25000 + 400 * j + 400 + 0 + 0 ≤ 25000 + 400 * (j + 1); omega) ?_
    exact hend _ _ _ _ _ _ hF2 rfl
  · refine x_pin (fun w5 hw5 => ?_)
    obtain ⟨f5, hf5, hf6⟩ := hw5.2.2
    refine x_aload_n Γ dL_law_823 rfl rfl ?_
    refine x_iconst (v := 0) Γ dL_law_824 (by decide) ?_
    refine x_lald (N := 1) (f := f5) (x := (gT1 9 A L (xs (4 * j + 1))).1.toInt64) Γ (xv_arr hf5) (by unfold vp_in; decide) (hf6 c820) dL_law_825 ?_
    refine x_iload Γ dL_law_826 rfl ?_
    refine x_i2l Γ dL_law_828 rfl ?_
    refine x_lcmp Γ dL_law_829 ?_
    rw [lg_same]
    refine x_if_eq (tgt := 835) Γ dL_law_830 (by decide) (fun c830 => ?_) (fun c830 => absurd (rfl) c830)
    refine x_goto (tgt := 1199) Γ dL_law_835 (by decide) ?_
    refine x_weak (P' := LPw G o ad ca out (gT1 9 A L (xs (4 * j + 1))).2.1 n (gT1 9 A L (xs (4 * j + 1))).2.2 D th) (fun w2 h2 => by rw [h2]; exact hw5.any) ?_
    refine x_wide (k' := 30 + 60 * (j + 1)) (n' := 25000 + 400 * (j + 1)) (by show 30 + 60 * j + 60 + 0 + 0 ≤ 30 + 60 * (j + 1); omega) (by show 25000 + 400 * j + 400 + 0 + 0 ≤ 25000 + 400 * (j + 1); omega) ?_
    exact hend _ _ _ _ _ _ hF2 rfl
set_option maxRecDepth 100000 in
theorem lc_whereOn {A : xS} {n : Nat} {L : List Nat} {D : Nat} {th : Nat → Nat} {j : Nat} (Γ : xC p s m meth c G cL_law 7 "LeftThingsLaw" (some .boolean)) (hfl : l.stackTraces = false) (hX : va_X b len xs s s.heap) (hbl : b < s.heap.size) (hbA : ¬ xA G b) (hl : len ≤ 2048) (hj : 4 * j + 4 ≤ len) (hF : fI A n L D) (hend : lEnd p l e s m args below meth c G Q b o ad ca out j) : xJ p l e Rm12 s m args below meth c G 7 Q (LPw G o ad ca out A n L D th) (30 + 60 * j) (25000 + 400 * j) 838 (lLv b ca o out j) [] := by
  refine x_aload_n Γ dL_law_838 rfl rfl ?_
  refine x_aload_n Γ dL_law_839 rfl rfl ?_
  refine x_iload Γ dL_law_840 rfl ?_
  refine x_iconst (v := 1) Γ dL_law_842 (by decide) ?_
  refine x_iadd Γ dL_law_843 ?_
  rw [show nI (4 * j) + 1 = nI (4 * j + 1) from nI_add (4 * j) 1]
  refine x_sld Γ hX hbl hbA rfl (by omega) hl dL_law_844 ?_
  refine x_aload_n Γ dL_law_845 rfl rfl ?_
  refine x_iload Γ dL_law_846 rfl ?_
  refine x_iconst (v := 2) Γ dL_law_848 (by decide) ?_
  refine x_iadd Γ dL_law_849 ?_
  rw [show nI (4 * j) + 2 = nI (4 * j + 2) from nI_add (4 * j) 2]
  refine x_sld Γ hX hbl hbA rfl (by omega) hl dL_law_850 ?_
  refine x_aload_n Γ dL_law_851 rfl rfl ?_
  refine x_invSW (emb := embI) (rm := ({ frames := 9, cells := 60, slots := 400, locals := 365 } : Room)) Γ [.ref (ca 0), .int (xs (4 * j + 1)), .int (xs (4 * j + 2)), .ref out] (fun w1 r w2 => r = kWhereOn A (xs (4 * j + 1)) (xs (4 * j + 2)) ∧ wQ G ca th out (gWhereOn A L (xs (4 * j + 1)) (xs (4 * j + 2))).2.1 n (gWhereOn A L (xs (4 * j + 1)) (xs (4 * j + 2))).2.2 D (kWhereOn A (xs (4 * j + 1)) (xs (4 * j + 2))) ((gWhereOn A L (xs (4 * j + 1)) (xs (4 * j + 2))).1) w1 w2) rfl (fun w1 h1 => by obtain ⟨g1, ⟨T, g2, g3⟩, f, g4, -⟩ := h1; exact tw_whereOn g3 hfl hF.1 g2 hF.2.2.1 hF.2.2.2 g4) k_525 k_0 k_523 k_524 hd_L_whereOn ⟨Nat.le_of_ble_eq_true rfl, Nat.le_of_ble_eq_true rfl⟩ ⟨by show 30 + 60 * j + 60 ≤ 601024; omega, by show 25000 + 400 * j + 400 ≤ 7293034; omega⟩ (Nat.le_of_ble_eq_true rfl) dL_law_852 (fun r => ?_)
  refine x_then (P2 := LQ G o ad ca out A L (gWhereOn A L (xs (4 * j + 1)) (xs (4 * j + 2))).2.1 n (gWhereOn A L (xs (4 * j + 1)) (xs (4 * j + 2))).2.2 D th (kWhereOn A (xs (4 * j + 1)) (xs (4 * j + 2))) ((gWhereOn A L (xs (4 * j + 1)) (xs (4 * j + 2))).1)) (φ := r = kWhereOn A (xs (4 * j + 1)) (xs (4 * j + 2))) (fun w2 h2 => by obtain ⟨w1, h1, h3, h4⟩ := h2; exact ⟨h3, LQ.wrap h1 h4⟩) (fun e1 => ?_)
  subst e1
  have hF2 : fI (gWhereOn A L (xs (4 * j + 1)) (xs (4 * j + 2))).2.1 n (gWhereOn A L (xs (4 * j + 1)) (xs (4 * j + 2))).2.2 D := st_whereOn hF _ _
  refine x_istore Γ dL_law_855 rfl (by decide) ?_
  refine x_aload_n Γ dL_law_857 rfl rfl ?_
  refine x_aload_n Γ dL_law_858 rfl rfl ?_
  refine x_iload Γ dL_law_859 rfl ?_
  refine x_iconst (v := 1) Γ dL_law_861 (by decide) ?_
  refine x_iadd Γ dL_law_862 ?_
  rw [show nI (4 * j) + 1 = nI (4 * j + 1) from nI_add (4 * j) 1]
  refine x_sld Γ hX hbl hbA rfl (by omega) hl dL_law_863 ?_
  refine x_aload_n Γ dL_law_864 rfl rfl ?_
  refine x_iload Γ dL_law_865 rfl ?_
  refine x_iconst (v := 2) Γ dL_law_867 (by decide) ?_
  refine x_iadd Γ dL_law_868 ?_
  rw [show nI (4 * j) + 2 = nI (4 * j + 2) from nI_add (4 * j) 2]
  refine x_sld Γ hX hbl hbA rfl (by omega) hl dL_law_869 ?_
  refine x_invV (emb := embI) (ci := 4) (rm := ({ frames := 3, cells := 0, slots := 0, locals := 140 } : Room)) Γ [.int (xs (4 * j + 1)), .int (xs (4 * j + 2))] (fun w1 r w2 => r = (gWhereOn A L (xs (4 * j + 1)) (xs (4 * j + 2))).1 ∧ mP G o ad ((gWhereOn A L (xs (4 * j + 1)) (xs (4 * j + 2))).2.1) ((gWhereOn A L (xs (4 * j + 1)) (xs (4 * j + 2))).2.2) w1 w2) rfl (fun w1 h1 => tm_whereOn h1.1 hF.1.1) (fun w1 h1 => h1.1.obj) rfl k_736 k_6 k_733 k_734 k_735 hd_X3_whereOn ⟨Nat.le_of_ble_eq_true rfl, Nat.le_of_ble_eq_true rfl⟩ ⟨by show 30 + 60 * j + 60 + 0 ≤ 601024; omega, by show 25000 + 400 * j + 400 + 0 ≤ 7293034; omega⟩ (Nat.le_of_ble_eq_true rfl) dL_law_870 (fun r => ?_)
  refine x_then (P2 := LQ G o ad ca out ((gWhereOn A L (xs (4 * j + 1)) (xs (4 * j + 2))).2.1) ((gWhereOn A L (xs (4 * j + 1)) (xs (4 * j + 2))).2.2) ((gWhereOn A L (xs (4 * j + 1)) (xs (4 * j + 2))).2.1) n ((gWhereOn A L (xs (4 * j + 1)) (xs (4 * j + 2))).2.2) D th (kWhereOn A (xs (4 * j + 1)) (xs (4 * j + 2))) ((gWhereOn A L (xs (4 * j + 1)) (xs (4 * j + 2))).1)) (φ := r = (gWhereOn A L (xs (4 * j + 1)) (xs (4 * j + 2))).1) (fun w2 h2 => by obtain ⟨w1, h1, h3, h4⟩ := h2; exact ⟨h3, h1.mdl h4⟩) (fun e2 => ?_)
  subst e2
  refine x_istore Γ dL_law_873 rfl (by decide) ?_
  refine x_aload_n Γ dL_law_875 rfl rfl ?_
  have h19 : (gWhereOn A L (xs (4 * j + 1)) (xs (4 * j + 2))).2.1 19 0 = kWhereOn A (xs (4 * j + 1)) (xs (4 * j + 2)) := fin_19 (fun _ => rfl)
  refine x_invV (emb := embI) (ci := 4) (rm := ({ frames := 0, cells := 0, slots := 0, locals := 0 } : Room)) Γ [] (fun w1 r w2 => r = kWhereOn A (xs (4 * j + 1)) (xs (4 * j + 2)) ∧ mP G o ad ((gWhereOn A L (xs (4 * j + 1)) (xs (4 * j + 2))).2.1) ((gWhereOn A L (xs (4 * j + 1)) (xs (4 * j + 2))).2.2) w1 w2) rfl (fun w1 h1 => by have h9 := t_thrown (l := l) h1.1; rw [h19] at h9; exact h9) (fun w1 h1 => h1.1.obj) rfl k_642 k_6 k_639 k_640 k_641 hd_X3_thrown ⟨Nat.le_of_ble_eq_true rfl, Nat.le_of_ble_eq_true rfl⟩ ⟨by show 30 + 60 * j + 60 + 0 + 0 ≤ 601024; omega, by show 25000 + 400 * j + 400 + 0 + 0 ≤ 7293034; omega⟩ (Nat.le_of_ble_eq_true rfl) dL_law_876 (fun r => ?_)
  refine x_then (P2 := LQ G o ad ca out ((gWhereOn A L (xs (4 * j + 1)) (xs (4 * j + 2))).2.1) ((gWhereOn A L (xs (4 * j + 1)) (xs (4 * j + 2))).2.2) ((gWhereOn A L (xs (4 * j + 1)) (xs (4 * j + 2))).2.1) n ((gWhereOn A L (xs (4 * j + 1)) (xs (4 * j + 2))).2.2) D th (kWhereOn A (xs (4 * j + 1)) (xs (4 * j + 2))) ((gWhereOn A L (xs (4 * j + 1)) (xs (4 * j + 2))).1)) (φ := r = kWhereOn A (xs (4 * j + 1)) (xs (4 * j + 2))) (fun w2 h2 => by obtain ⟨w1, h1, h3, h4⟩ := h2; exact ⟨h3, h1.mdl h4⟩) (fun e3 => ?_)
  subst e3
  refine x_iload Γ dL_law_879 rfl ?_
  refine x_icmp_eq (tgt := 886) Γ dL_law_881 (by decide) (fun c881 => ?_) (fun c881 => absurd (rfl) c881)
  refine x_iload Γ dL_law_886 rfl ?_
  refine x_if_ne (tgt := 903) Γ dL_law_888 (by decide) (fun c888 => ?_) (fun c888 => ?_)
  · refine x_goto (tgt := 1199) Γ dL_law_903 (by decide) ?_
    refine x_weak (P' := LPw G o ad ca out (gWhereOn A L (xs (4 * j + 1)) (xs (4 * j + 2))).2.1 n (gWhereOn A L (xs (4 * j + 1)) (xs (4 * j + 2))).2.2 D th) (fun w2 h2 => h2.any) ?_
    refine x_wide (k' := 30 + 60 * (j + 1)) (n' := 25000 + 400 * (j + 1)) (by show 30 + 60 * j + 60 + 0 + 0 ≤ 30 + 60 * (j + 1); omega) (by show 25000 + 400 * j + 400 + 0 + 0 ≤ 25000 + 400 * (j + 1); omega) ?_
    exact hend _ _ _ _ _ _ hF2 rfl
  · refine x_pin (fun w5 hw5 => ?_)
    obtain ⟨f5, hf5, hf6⟩ := hw5.2.2
    refine x_aload_n Γ dL_law_891 rfl rfl ?_
    refine x_iconst (v := 0) Γ dL_law_892 (by decide) ?_
    refine x_lald (N := 1) (f := f5) (x := (gWhereOn A L (xs (4 * j + 1)) (xs (4 * j + 2))).1.toInt64) Γ (xv_arr hf5) (by unfold vp_in; decide) (hf6 c888) dL_law_893 ?_
    refine x_iload Γ dL_law_894 rfl ?_
    refine x_i2l Γ dL_law_896 rfl ?_
    refine x_lcmp Γ dL_law_897 ?_
    rw [lg_same]
    refine x_if_eq (tgt := 903) Γ dL_law_898 (by decide) (fun c898 => ?_) (fun c898 => absurd (rfl) c898)
    refine x_goto (tgt := 1199) Γ dL_law_903 (by decide) ?_
    refine x_weak (P' := LPw G o ad ca out (gWhereOn A L (xs (4 * j + 1)) (xs (4 * j + 2))).2.1 n (gWhereOn A L (xs (4 * j + 1)) (xs (4 * j + 2))).2.2 D th) (fun w2 h2 => by rw [h2]; exact hw5.any) ?_
    refine x_wide (k' := 30 + 60 * (j + 1)) (n' := 25000 + 400 * (j + 1)) (by show 30 + 60 * j + 60 + 0 + 0 ≤ 30 + 60 * (j + 1); omega) (by show 25000 + 400 * j + 400 + 0 + 0 ≤ 25000 + 400 * (j + 1); omega) ?_
    exact hend _ _ _ _ _ _ hF2 rfl
set_option maxRecDepth 100000 in
theorem lc_load {A : xS} {n : Nat} {L : List Nat} {D : Nat} {th : Nat → Nat} {j : Nat} (Γ : xC p s m meth c G cL_law 7 "LeftThingsLaw" (some .boolean)) (hfl : l.stackTraces = false) (hX : va_X b len xs s s.heap) (hbl : b < s.heap.size) (hbA : ¬ xA G b) (hl : len ≤ 2048) (hj : 4 * j + 4 ≤ len) (hF : fI A n L D) (hend : lEnd p l e s m args below meth c G Q b o ad ca out j) : xJ p l e Rm12 s m args below meth c G 7 Q (LPw G o ad ca out A n L D th) (30 + 60 * j) (25000 + 400 * j) 906 (lLv b ca o out j) [] := by
  refine x_aload_n Γ dL_law_906 rfl rfl ?_
  refine x_aload_n Γ dL_law_907 rfl rfl ?_
  refine x_iload Γ dL_law_908 rfl ?_
  refine x_iconst (v := 1) Γ dL_law_910 (by decide) ?_
  refine x_iadd Γ dL_law_911 ?_
  rw [show nI (4 * j) + 1 = nI (4 * j + 1) from nI_add (4 * j) 1]
  refine x_sld Γ hX hbl hbA rfl (by omega) hl dL_law_912 ?_
  refine x_aload_n Γ dL_law_913 rfl rfl ?_
  refine x_invSW (emb := embI) (rm := ({ frames := 9, cells := 60, slots := 400, locals := 365 } : Room)) Γ [.ref (ca 0), .int (xs (4 * j + 1)), .ref out] (fun w1 r w2 => r = kLoad (xs (4 * j + 1)) ∧ wQ G ca th out (gLoad A L (xs (4 * j + 1))).2.1 n (gLoad A L (xs (4 * j + 1))).2.2 D (kLoad (xs (4 * j + 1))) ((gLoad A L (xs (4 * j + 1))).1) w1 w2) rfl (fun w1 h1 => by obtain ⟨g1, ⟨T, g2, g3⟩, f, g4, -⟩ := h1; exact tw_load g3 hfl hF.1 g2 hF.2.2.1 hF.2.2.2 g4) k_537 k_0 k_535 k_536 hd_L_load ⟨Nat.le_of_ble_eq_true rfl, Nat.le_of_ble_eq_true rfl⟩ ⟨by show 30 + 60 * j + 60 ≤ 601024; omega, by show 25000 + 400 * j + 400 ≤ 7293034; omega⟩ (Nat.le_of_ble_eq_true rfl) dL_law_914 (fun r => ?_)
  refine x_then (P2 := LQ G o ad ca out A L (gLoad A L (xs (4 * j + 1))).2.1 n (gLoad A L (xs (4 * j + 1))).2.2 D th (kLoad (xs (4 * j + 1))) ((gLoad A L (xs (4 * j + 1))).1)) (φ := r = kLoad (xs (4 * j + 1))) (fun w2 h2 => by obtain ⟨w1, h1, h3, h4⟩ := h2; exact ⟨h3, LQ.wrap h1 h4⟩) (fun e1 => ?_)
  subst e1
  have hF2 : fI (gLoad A L (xs (4 * j + 1))).2.1 n (gLoad A L (xs (4 * j + 1))).2.2 D := st_load hF _
  refine x_istore Γ dL_law_917 rfl (by decide) ?_
  refine x_aload_n Γ dL_law_919 rfl rfl ?_
  refine x_aload_n Γ dL_law_920 rfl rfl ?_
  refine x_iload Γ dL_law_921 rfl ?_
  refine x_iconst (v := 1) Γ dL_law_923 (by decide) ?_
  refine x_iadd Γ dL_law_924 ?_
  rw [show nI (4 * j) + 1 = nI (4 * j + 1) from nI_add (4 * j) 1]
  refine x_sld Γ hX hbl hbA rfl (by omega) hl dL_law_925 ?_
  refine x_invV (emb := embI) (ci := 4) (rm := ({ frames := 3, cells := 0, slots := 0, locals := 140 } : Room)) Γ [.int (xs (4 * j + 1))] (fun w1 r w2 => r = (gLoad A L (xs (4 * j + 1))).1 ∧ mP G o ad ((gLoad A L (xs (4 * j + 1))).2.1) ((gLoad A L (xs (4 * j + 1))).2.2) w1 w2) rfl (fun w1 h1 => tm_load h1.1 hF.1.1) (fun w1 h1 => h1.1.obj) rfl k_740 k_6 k_737 k_738 k_739 hd_X3_load ⟨Nat.le_of_ble_eq_true rfl, Nat.le_of_ble_eq_true rfl⟩ ⟨by show 30 + 60 * j + 60 + 0 ≤ 601024; omega, by show 25000 + 400 * j + 400 + 0 ≤ 7293034; omega⟩ (Nat.le_of_ble_eq_true rfl) dL_law_926 (fun r => ?_)
  refine x_then (P2 := LQ G o ad ca out ((gLoad A L (xs (4 * j + 1))).2.1) ((gLoad A L (xs (4 * j + 1))).2.2) ((gLoad A L (xs (4 * j + 1))).2.1) n ((gLoad A L (xs (4 * j + 1))).2.2) D th (kLoad (xs (4 * j + 1))) ((gLoad A L (xs (4 * j + 1))).1)) (φ := r = (gLoad A L (xs (4 * j + 1))).1) (fun w2 h2 => by obtain ⟨w1, h1, h3, h4⟩ := h2; exact ⟨h3, h1.mdl h4⟩) (fun e2 => ?_)
  subst e2
  refine x_istore Γ dL_law_929 rfl (by decide) ?_
  refine x_aload_n Γ dL_law_931 rfl rfl ?_
  have h19 : (gLoad A L (xs (4 * j + 1))).2.1 19 0 = kLoad (xs (4 * j + 1)) := fin_19 (fun _ => rfl)
  refine x_invV (emb := embI) (ci := 4) (rm := ({ frames := 0, cells := 0, slots := 0, locals := 0 } : Room)) Γ [] (fun w1 r w2 => r = kLoad (xs (4 * j + 1)) ∧ mP G o ad ((gLoad A L (xs (4 * j + 1))).2.1) ((gLoad A L (xs (4 * j + 1))).2.2) w1 w2) rfl (fun w1 h1 => by have h9 := t_thrown (l := l) h1.1; rw [h19] at h9; exact h9) (fun w1 h1 => h1.1.obj) rfl k_642 k_6 k_639 k_640 k_641 hd_X3_thrown ⟨Nat.le_of_ble_eq_true rfl, Nat.le_of_ble_eq_true rfl⟩ ⟨by show 30 + 60 * j + 60 + 0 + 0 ≤ 601024; omega, by show 25000 + 400 * j + 400 + 0 + 0 ≤ 7293034; omega⟩ (Nat.le_of_ble_eq_true rfl) dL_law_932 (fun r => ?_)
  refine x_then (P2 := LQ G o ad ca out ((gLoad A L (xs (4 * j + 1))).2.1) ((gLoad A L (xs (4 * j + 1))).2.2) ((gLoad A L (xs (4 * j + 1))).2.1) n ((gLoad A L (xs (4 * j + 1))).2.2) D th (kLoad (xs (4 * j + 1))) ((gLoad A L (xs (4 * j + 1))).1)) (φ := r = kLoad (xs (4 * j + 1))) (fun w2 h2 => by obtain ⟨w1, h1, h3, h4⟩ := h2; exact ⟨h3, h1.mdl h4⟩) (fun e3 => ?_)
  subst e3
  refine x_iload Γ dL_law_935 rfl ?_
  refine x_icmp_eq (tgt := 942) Γ dL_law_937 (by decide) (fun c937 => ?_) (fun c937 => absurd (rfl) c937)
  refine x_iload Γ dL_law_942 rfl ?_
  refine x_if_ne (tgt := 959) Γ dL_law_944 (by decide) (fun c944 => ?_) (fun c944 => ?_)
  · refine x_goto (tgt := 1199) Γ dL_law_959 (by decide) ?_
    refine x_weak (P' := LPw G o ad ca out (gLoad A L (xs (4 * j + 1))).2.1 n (gLoad A L (xs (4 * j + 1))).2.2 D th) (fun w2 h2 => h2.any) ?_
    refine x_wide (k' := 30 + 60 * (j + 1)) (n' := 25000 + 400 * (j + 1)) (by show 30 + 60 * j + 60 + 0 + 0 ≤ 30 + 60 * (j + 1); omega) (by show 25000 + 400 * j + 400 + 0 + 0 ≤ 25000 + 400 * (j + 1); omega) ?_
    exact hend _ _ _ _ _ _ hF2 rfl
  · refine x_pin (fun w5 hw5 => ?_)
    obtain ⟨f5, hf5, hf6⟩ := hw5.2.2
    refine x_aload_n Γ dL_law_947 rfl rfl ?_
    refine x_iconst (v := 0) Γ dL_law_948 (by decide) ?_
    refine x_lald (N := 1) (f := f5) (x := (gLoad A L (xs (4 * j + 1))).1.toInt64) Γ (xv_arr hf5) (by unfold vp_in; decide) (hf6 c944) dL_law_949 ?_
    refine x_iload Γ dL_law_950 rfl ?_
    refine x_i2l Γ dL_law_952 rfl ?_
    refine x_lcmp Γ dL_law_953 ?_
    rw [lg_same]
    refine x_if_eq (tgt := 959) Γ dL_law_954 (by decide) (fun c954 => ?_) (fun c954 => absurd (rfl) c954)
    refine x_goto (tgt := 1199) Γ dL_law_959 (by decide) ?_
    refine x_weak (P' := LPw G o ad ca out (gLoad A L (xs (4 * j + 1))).2.1 n (gLoad A L (xs (4 * j + 1))).2.2 D th) (fun w2 h2 => by rw [h2]; exact hw5.any) ?_
    refine x_wide (k' := 30 + 60 * (j + 1)) (n' := 25000 + 400 * (j + 1)) (by show 30 + 60 * j + 60 + 0 + 0 ≤ 30 + 60 * (j + 1); omega) (by show 25000 + 400 * j + 400 + 0 + 0 ≤ 25000 + 400 * (j + 1); omega) ?_
    exact hend _ _ _ _ _ _ hF2 rfl
set_option maxRecDepth 100000 in
theorem lc_fees {A : xS} {n : Nat} {L : List Nat} {D : Nat} {th : Nat → Nat} {j : Nat} (Γ : xC p s m meth c G cL_law 7 "LeftThingsLaw" (some .boolean)) (hfl : l.stackTraces = false) (hX : va_X b len xs s s.heap) (hbl : b < s.heap.size) (hbA : ¬ xA G b) (hl : len ≤ 2048) (hj : 4 * j + 4 ≤ len) (hF : fI A n L D) (hend : lEnd p l e s m args below meth c G Q b o ad ca out j) : xJ p l e Rm12 s m args below meth c G 7 Q (LPw G o ad ca out A n L D th) (30 + 60 * j) (25000 + 400 * j) 962 (lLv b ca o out j) [] := by
  refine x_aload_n Γ dL_law_962 rfl rfl ?_
  refine x_aload_n Γ dL_law_963 rfl rfl ?_
  refine x_iload Γ dL_law_964 rfl ?_
  refine x_iconst (v := 1) Γ dL_law_966 (by decide) ?_
  refine x_iadd Γ dL_law_967 ?_
  rw [show nI (4 * j) + 1 = nI (4 * j + 1) from nI_add (4 * j) 1]
  refine x_sld Γ hX hbl hbA rfl (by omega) hl dL_law_968 ?_
  refine x_aload_n Γ dL_law_969 rfl rfl ?_
  refine x_invSW (emb := embI) (rm := ({ frames := 9, cells := 60, slots := 400, locals := 365 } : Room)) Γ [.ref (ca 0), .int (xs (4 * j + 1)), .ref out] (fun w1 r w2 => r = kT1 A (xs (4 * j + 1)) ∧ wQ G ca th out (gT1 11 A L (xs (4 * j + 1))).2.1 n (gT1 11 A L (xs (4 * j + 1))).2.2 D (kT1 A (xs (4 * j + 1))) ((gT1 11 A L (xs (4 * j + 1))).1) w1 w2) rfl (fun w1 h1 => by obtain ⟨g1, ⟨T, g2, g3⟩, f, g4, -⟩ := h1; exact tw_fees g3 hfl hF.1 g2 hF.2.2.1 hF.2.2.2 g4) k_544 k_0 k_542 k_543 hd_L_fees ⟨Nat.le_of_ble_eq_true rfl, Nat.le_of_ble_eq_true rfl⟩ ⟨by show 30 + 60 * j + 60 ≤ 601024; omega, by show 25000 + 400 * j + 400 ≤ 7293034; omega⟩ (Nat.le_of_ble_eq_true rfl) dL_law_970 (fun r => ?_)
  refine x_then (P2 := LQ G o ad ca out A L (gT1 11 A L (xs (4 * j + 1))).2.1 n (gT1 11 A L (xs (4 * j + 1))).2.2 D th (kT1 A (xs (4 * j + 1))) ((gT1 11 A L (xs (4 * j + 1))).1)) (φ := r = kT1 A (xs (4 * j + 1))) (fun w2 h2 => by obtain ⟨w1, h1, h3, h4⟩ := h2; exact ⟨h3, LQ.wrap h1 h4⟩) (fun e1 => ?_)
  subst e1
  have hF2 : fI (gT1 11 A L (xs (4 * j + 1))).2.1 n (gT1 11 A L (xs (4 * j + 1))).2.2 D := st_T1 _ hF _
  refine x_istore Γ dL_law_973 rfl (by decide) ?_
  refine x_aload_n Γ dL_law_975 rfl rfl ?_
  refine x_aload_n Γ dL_law_976 rfl rfl ?_
  refine x_iload Γ dL_law_977 rfl ?_
  refine x_iconst (v := 1) Γ dL_law_979 (by decide) ?_
  refine x_iadd Γ dL_law_980 ?_
  rw [show nI (4 * j) + 1 = nI (4 * j + 1) from nI_add (4 * j) 1]
  refine x_sld Γ hX hbl hbA rfl (by omega) hl dL_law_981 ?_
  refine x_invV (emb := embI) (ci := 4) (rm := ({ frames := 3, cells := 0, slots := 0, locals := 140 } : Room)) Γ [.int (xs (4 * j + 1))] (fun w1 r w2 => r = (gT1 11 A L (xs (4 * j + 1))).1 ∧ mP G o ad ((gT1 11 A L (xs (4 * j + 1))).2.1) ((gT1 11 A L (xs (4 * j + 1))).2.2) w1 w2) rfl (fun w1 h1 => tm_fees h1.1 hF.1.1) (fun w1 h1 => h1.1.obj) rfl k_744 k_6 k_741 k_742 k_743 hd_X3_fees ⟨Nat.le_of_ble_eq_true rfl, Nat.le_of_ble_eq_true rfl⟩ ⟨by show 30 + 60 * j + 60 + 0 ≤ 601024; omega, by show 25000 + 400 * j + 400 + 0 ≤ 7293034; omega⟩ (Nat.le_of_ble_eq_true rfl) dL_law_982 (fun r => ?_)
  refine x_then (P2 := LQ G o ad ca out ((gT1 11 A L (xs (4 * j + 1))).2.1) ((gT1 11 A L (xs (4 * j + 1))).2.2) ((gT1 11 A L (xs (4 * j + 1))).2.1) n ((gT1 11 A L (xs (4 * j + 1))).2.2) D th (kT1 A (xs (4 * j + 1))) ((gT1 11 A L (xs (4 * j + 1))).1)) (φ := r = (gT1 11 A L (xs (4 * j + 1))).1) (fun w2 h2 => by obtain ⟨w1, h1, h3, h4⟩ := h2; exact ⟨h3, h1.mdl h4⟩) (fun e2 => ?_)
  subst e2
  refine x_istore Γ dL_law_985 rfl (by decide) ?_
  refine x_aload_n Γ dL_law_987 rfl rfl ?_
  have h19 : (gT1 11 A L (xs (4 * j + 1))).2.1 19 0 = kT1 A (xs (4 * j + 1)) := fin_19 (fun _ => rfl)
  refine x_invV (emb := embI) (ci := 4) (rm := ({ frames := 0, cells := 0, slots := 0, locals := 0 } : Room)) Γ [] (fun w1 r w2 => r = kT1 A (xs (4 * j + 1)) ∧ mP G o ad ((gT1 11 A L (xs (4 * j + 1))).2.1) ((gT1 11 A L (xs (4 * j + 1))).2.2) w1 w2) rfl (fun w1 h1 => by have h9 := t_thrown (l := l) h1.1; rw [h19] at h9; exact h9) (fun w1 h1 => h1.1.obj) rfl k_642 k_6 k_639 k_640 k_641 hd_X3_thrown ⟨Nat.le_of_ble_eq_true rfl, Nat.le_of_ble_eq_true rfl⟩ ⟨by show 30 + 60 * j + 60 + 0 + 0 ≤ 601024; omega, by show 25000 + 400 * j + 400 + 0 + 0 ≤ 7293034; omega⟩ (Nat.le_of_ble_eq_true rfl) dL_law_988 (fun r => ?_)
  refine x_then (P2 := LQ G o ad ca out ((gT1 11 A L (xs (4 * j + 1))).2.1) ((gT1 11 A L (xs (4 * j + 1))).2.2) ((gT1 11 A L (xs (4 * j + 1))).2.1) n ((gT1 11 A L (xs (4 * j + 1))).2.2) D th (kT1 A (xs (4 * j + 1))) ((gT1 11 A L (xs (4 * j + 1))).1)) (φ := r = kT1 A (xs (4 * j + 1))) (fun w2 h2 => by obtain ⟨w1, h1, h3, h4⟩ := h2; exact ⟨h3, h1.mdl h4⟩) (fun e3 => ?_)
  subst e3
  refine x_iload Γ dL_law_991 rfl ?_
  refine x_icmp_eq (tgt := 998) Γ dL_law_993 (by decide) (fun c993 => ?_) (fun c993 => absurd (rfl) c993)
  refine x_iload Γ dL_law_998 rfl ?_
  refine x_if_ne (tgt := 1015) Γ dL_law_1000 (by decide) (fun c1000 => ?_) (fun c1000 => ?_)
  · refine x_goto (tgt := 1199) Γ dL_law_1015 (by decide) ?_
    refine x_weak (P' := LPw G o ad ca out (gT1 11 A L (xs (4 * j + 1))).2.1 n (gT1 11 A L (xs (4 * j + 1))).2.2 D th) (fun w2 h2 => h2.any) ?_
    refine x_wide (k' := 30 + 60 * (j + 1)) (n' := 25000 + 400 * (j + 1)) (by show 30 + 60 * j + 60 + 0 + 0 ≤ 30 + 60 * (j + 1); omega) (by show 25000 + 400 * j + 400 + 0 + 0 ≤ 25000 + 400 * (j + 1); omega) ?_
    exact hend _ _ _ _ _ _ hF2 rfl
  · refine x_pin (fun w5 hw5 => ?_)
    obtain ⟨f5, hf5, hf6⟩ := hw5.2.2
    refine x_aload_n Γ dL_law_1003 rfl rfl ?_
    refine x_iconst (v := 0) Γ dL_law_1004 (by decide) ?_
    refine x_lald (N := 1) (f := f5) (x := (gT1 11 A L (xs (4 * j + 1))).1.toInt64) Γ (xv_arr hf5) (by unfold vp_in; decide) (hf6 c1000) dL_law_1005 ?_
    refine x_iload Γ dL_law_1006 rfl ?_
    refine x_i2l Γ dL_law_1008 rfl ?_
    refine x_lcmp Γ dL_law_1009 ?_
    rw [lg_same]
    refine x_if_eq (tgt := 1015) Γ dL_law_1010 (by decide) (fun c1010 => ?_) (fun c1010 => absurd (rfl) c1010)
    refine x_goto (tgt := 1199) Γ dL_law_1015 (by decide) ?_
    refine x_weak (P' := LPw G o ad ca out (gT1 11 A L (xs (4 * j + 1))).2.1 n (gT1 11 A L (xs (4 * j + 1))).2.2 D th) (fun w2 h2 => by rw [h2]; exact hw5.any) ?_
    refine x_wide (k' := 30 + 60 * (j + 1)) (n' := 25000 + 400 * (j + 1)) (by show 30 + 60 * j + 60 + 0 + 0 ≤ 30 + 60 * (j + 1); omega) (by show 25000 + 400 * j + 400 + 0 + 0 ≤ 25000 + 400 * (j + 1); omega) ?_
    exact hend _ _ _ _ _ _ hF2 rfl
set_option maxRecDepth 100000 in
theorem lc_loan {A : xS} {n : Nat} {L : List Nat} {D : Nat} {th : Nat → Nat} {j : Nat} (Γ : xC p s m meth c G cL_law 7 "LeftThingsLaw" (some .boolean)) (hfl : l.stackTraces = false) (hX : va_X b len xs s s.heap) (hbl : b < s.heap.size) (hbA : ¬ xA G b) (hl : len ≤ 2048) (hj : 4 * j + 4 ≤ len) (hF : fI A n L D) (hend : lEnd p l e s m args below meth c G Q b o ad ca out j) : xJ p l e Rm12 s m args below meth c G 7 Q (LPw G o ad ca out A n L D th) (30 + 60 * j) (25000 + 400 * j) 1018 (lLv b ca o out j) [] := by
  refine x_aload_n Γ dL_law_1018 rfl rfl ?_
  refine x_aload_n Γ dL_law_1019 rfl rfl ?_
  refine x_iload Γ dL_law_1020 rfl ?_
  refine x_iconst (v := 1) Γ dL_law_1022 (by decide) ?_
  refine x_iadd Γ dL_law_1023 ?_
  rw [show nI (4 * j) + 1 = nI (4 * j + 1) from nI_add (4 * j) 1]
  refine x_sld Γ hX hbl hbA rfl (by omega) hl dL_law_1024 ?_
  refine x_aload_n Γ dL_law_1025 rfl rfl ?_
  refine x_invSW (emb := embI) (rm := ({ frames := 9, cells := 60, slots := 400, locals := 365 } : Room)) Γ [.ref (ca 0), .int (xs (4 * j + 1)), .ref out] (fun w1 r w2 => r = kT1 A (xs (4 * j + 1)) ∧ wQ G ca th out (gT1 12 A L (xs (4 * j + 1))).2.1 n (gT1 12 A L (xs (4 * j + 1))).2.2 D (kT1 A (xs (4 * j + 1))) ((gT1 12 A L (xs (4 * j + 1))).1) w1 w2) rfl (fun w1 h1 => by obtain ⟨g1, ⟨T, g2, g3⟩, f, g4, -⟩ := h1; exact tw_loan g3 hfl hF.1 g2 hF.2.2.1 hF.2.2.2 g4) k_551 k_0 k_549 k_550 hd_L_loan ⟨Nat.le_of_ble_eq_true rfl, Nat.le_of_ble_eq_true rfl⟩ ⟨by show 30 + 60 * j + 60 ≤ 601024; omega, by show 25000 + 400 * j + 400 ≤ 7293034; omega⟩ (Nat.le_of_ble_eq_true rfl) dL_law_1026 (fun r => ?_)
  refine x_then (P2 := LQ G o ad ca out A L (gT1 12 A L (xs (4 * j + 1))).2.1 n (gT1 12 A L (xs (4 * j + 1))).2.2 D th (kT1 A (xs (4 * j + 1))) ((gT1 12 A L (xs (4 * j + 1))).1)) (φ := r = kT1 A (xs (4 * j + 1))) (fun w2 h2 => by obtain ⟨w1, h1, h3, h4⟩ := h2; exact ⟨h3, LQ.wrap h1 h4⟩) (fun e1 => ?_)
  subst e1
  have hF2 : fI (gT1 12 A L (xs (4 * j + 1))).2.1 n (gT1 12 A L (xs (4 * j + 1))).2.2 D := st_T1 _ hF _
  refine x_istore Γ dL_law_1029 rfl (by decide) ?_
  refine x_aload_n Γ dL_law_1031 rfl rfl ?_
  refine x_aload_n Γ dL_law_1032 rfl rfl ?_
  refine x_iload Γ dL_law_1033 rfl ?_
  refine x_iconst (v := 1) Γ dL_law_1035 (by decide) ?_
  refine x_iadd Γ dL_law_1036 ?_
  rw [show nI (4 * j) + 1 = nI (4 * j + 1) from nI_add (4 * j) 1]
  refine x_sld Γ hX hbl hbA rfl (by omega) hl dL_law_1037 ?_
  refine x_invV (emb := embI) (ci := 4) (rm := ({ frames := 3, cells := 0, slots := 0, locals := 140 } : Room)) Γ [.int (xs (4 * j + 1))] (fun w1 r w2 => r = (gT1 12 A L (xs (4 * j + 1))).1 ∧ mP G o ad ((gT1 12 A L (xs (4 * j + 1))).2.1) ((gT1 12 A L (xs (4 * j + 1))).2.2) w1 w2) rfl (fun w1 h1 => tm_loan h1.1 hF.1.1) (fun w1 h1 => h1.1.obj) rfl k_748 k_6 k_745 k_746 k_747 hd_X3_loan ⟨Nat.le_of_ble_eq_true rfl, Nat.le_of_ble_eq_true rfl⟩ ⟨by show 30 + 60 * j + 60 + 0 ≤ 601024; omega, by show 25000 + 400 * j + 400 + 0 ≤ 7293034; omega⟩ (Nat.le_of_ble_eq_true rfl) dL_law_1038 (fun r => ?_)
  refine x_then (P2 := LQ G o ad ca out ((gT1 12 A L (xs (4 * j + 1))).2.1) ((gT1 12 A L (xs (4 * j + 1))).2.2) ((gT1 12 A L (xs (4 * j + 1))).2.1) n ((gT1 12 A L (xs (4 * j + 1))).2.2) D th (kT1 A (xs (4 * j + 1))) ((gT1 12 A L (xs (4 * j + 1))).1)) (φ := r = (gT1 12 A L (xs (4 * j + 1))).1) (fun w2 h2 => by obtain ⟨w1, h1, h3, h4⟩ := h2; exact ⟨h3, h1.mdl h4⟩) (fun e2 => ?_)
  subst e2
  refine x_istore Γ dL_law_1041 rfl (by decide) ?_
  refine x_aload_n Γ dL_law_1043 rfl rfl ?_
  have h19 : (gT1 12 A L (xs (4 * j + 1))).2.1 19 0 = kT1 A (xs (4 * j + 1)) := fin_19 (fun _ => rfl)
  refine x_invV (emb := embI) (ci := 4) (rm := ({ frames := 0, cells := 0, slots := 0, locals := 0 } : Room)) Γ [] (fun w1 r w2 => r = kT1 A (xs (4 * j + 1)) ∧ mP G o ad ((gT1 12 A L (xs (4 * j + 1))).2.1) ((gT1 12 A L (xs (4 * j + 1))).2.2) w1 w2) rfl (fun w1 h1 => by have h9 := t_thrown (l := l) h1.1; rw [h19] at h9; exact h9) (fun w1 h1 => h1.1.obj) rfl k_642 k_6 k_639 k_640 k_641 hd_X3_thrown ⟨Nat.le_of_ble_eq_true rfl, Nat.le_of_ble_eq_true rfl⟩ ⟨by show 30 + 60 * j + 60 + 0 + 0 ≤ 601024; omega, by show 25000 + 400 * j + 400 + 0 + 0 ≤ 7293034; omega⟩ (Nat.le_of_ble_eq_true rfl) dL_law_1044 (fun r => ?_)
  refine x_then (P2 := LQ G o ad ca out ((gT1 12 A L (xs (4 * j + 1))).2.1) ((gT1 12 A L (xs (4 * j + 1))).2.2) ((gT1 12 A L (xs (4 * j + 1))).2.1) n ((gT1 12 A L (xs (4 * j + 1))).2.2) D th (kT1 A (xs (4 * j + 1))) ((gT1 12 A L (xs (4 * j + 1))).1)) (φ := r = kT1 A (xs (4 * j + 1))) (fun w2 h2 => by obtain ⟨w1, h1, h3, h4⟩ := h2; exact ⟨h3, h1.mdl h4⟩) (fun e3 => ?_)
  subst e3
  refine x_iload Γ dL_law_1047 rfl ?_
  refine x_icmp_eq (tgt := 1054) Γ dL_law_1049 (by decide) (fun c1049 => ?_) (fun c1049 => absurd (rfl) c1049)
  refine x_iload Γ dL_law_1054 rfl ?_
  refine x_if_ne (tgt := 1071) Γ dL_law_1056 (by decide) (fun c1056 => ?_) (fun c1056 => ?_)
  · refine x_goto (tgt := 1199) Γ dL_law_1071 (by decide) ?_
    refine x_weak (P' := LPw G o ad ca out (gT1 12 A L (xs (4 * j + 1))).2.1 n (gT1 12 A L (xs (4 * j + 1))).2.2 D th) (fun w2 h2 => h2.any) ?_
    refine x_wide (k' := 30 + 60 * (j + 1)) (n' := 25000 + 400 * (j + 1)) (by show 30 + 60 * j + 60 + 0 + 0 ≤ 30 + 60 * (j + 1); omega) (by show 25000 + 400 * j + 400 + 0 + 0 ≤ 25000 + 400 * (j + 1); omega) ?_
    exact hend _ _ _ _ _ _ hF2 rfl
  · refine x_pin (fun w5 hw5 => ?_)
    obtain ⟨f5, hf5, hf6⟩ := hw5.2.2
    refine x_aload_n Γ dL_law_1059 rfl rfl ?_
    refine x_iconst (v := 0) Γ dL_law_1060 (by decide) ?_
    refine x_lald (N := 1) (f := f5) (x := (gT1 12 A L (xs (4 * j + 1))).1.toInt64) Γ (xv_arr hf5) (by unfold vp_in; decide) (hf6 c1056) dL_law_1061 ?_
    refine x_iload Γ dL_law_1062 rfl ?_
    refine x_i2l Γ dL_law_1064 rfl ?_
    refine x_lcmp Γ dL_law_1065 ?_
    rw [lg_same]
    refine x_if_eq (tgt := 1071) Γ dL_law_1066 (by decide) (fun c1066 => ?_) (fun c1066 => absurd (rfl) c1066)
    refine x_goto (tgt := 1199) Γ dL_law_1071 (by decide) ?_
    refine x_weak (P' := LPw G o ad ca out (gT1 12 A L (xs (4 * j + 1))).2.1 n (gT1 12 A L (xs (4 * j + 1))).2.2 D th) (fun w2 h2 => by rw [h2]; exact hw5.any) ?_
    refine x_wide (k' := 30 + 60 * (j + 1)) (n' := 25000 + 400 * (j + 1)) (by show 30 + 60 * j + 60 + 0 + 0 ≤ 30 + 60 * (j + 1); omega) (by show 25000 + 400 * j + 400 + 0 + 0 ≤ 25000 + 400 * (j + 1); omega) ?_
    exact hend _ _ _ _ _ _ hF2 rfl
set_option maxRecDepth 100000 in
theorem lc_purse {A : xS} {n : Nat} {L : List Nat} {D : Nat} {th : Nat → Nat} {j : Nat} (Γ : xC p s m meth c G cL_law 7 "LeftThingsLaw" (some .boolean)) (hfl : l.stackTraces = false) (hX : va_X b len xs s s.heap) (hbl : b < s.heap.size) (hbA : ¬ xA G b) (hl : len ≤ 2048) (hj : 4 * j + 4 ≤ len) (hF : fI A n L D) (hend : lEnd p l e s m args below meth c G Q b o ad ca out j) : xJ p l e Rm12 s m args below meth c G 7 Q (LPw G o ad ca out A n L D th) (30 + 60 * j) (25000 + 400 * j) 1074 (lLv b ca o out j) [] := by
  refine x_aload_n Γ dL_law_1074 rfl rfl ?_
  refine x_aload_n Γ dL_law_1075 rfl rfl ?_
  refine x_iload Γ dL_law_1076 rfl ?_
  refine x_iconst (v := 1) Γ dL_law_1078 (by decide) ?_
  refine x_iadd Γ dL_law_1079 ?_
  rw [show nI (4 * j) + 1 = nI (4 * j + 1) from nI_add (4 * j) 1]
  refine x_sld Γ hX hbl hbA rfl (by omega) hl dL_law_1080 ?_
  refine x_aload_n Γ dL_law_1081 rfl rfl ?_
  refine x_invSW (emb := embI) (rm := ({ frames := 9, cells := 60, slots := 400, locals := 365 } : Room)) Γ [.ref (ca 0), .int (xs (4 * j + 1)), .ref out] (fun w1 r w2 => r = kPurse (xs (4 * j + 1)) ∧ wQ G ca th out (gPurse A L (xs (4 * j + 1))).2.1 n (gPurse A L (xs (4 * j + 1))).2.2 D (kPurse (xs (4 * j + 1))) ((gPurse A L (xs (4 * j + 1))).1) w1 w2) rfl (fun w1 h1 => by obtain ⟨g1, ⟨T, g2, g3⟩, f, g4, -⟩ := h1; exact tw_purse g3 hfl hF.1 g2 hF.2.2.1 hF.2.2.2 g4) k_558 k_0 k_556 k_557 hd_L_purse ⟨Nat.le_of_ble_eq_true rfl, Nat.le_of_ble_eq_true rfl⟩ ⟨by show 30 + 60 * j + 60 ≤ 601024; omega, by show 25000 + 400 * j + 400 ≤ 7293034; omega⟩ (Nat.le_of_ble_eq_true rfl) dL_law_1082 (fun r => ?_)
  refine x_then (P2 := LQ G o ad ca out A L (gPurse A L (xs (4 * j + 1))).2.1 n (gPurse A L (xs (4 * j + 1))).2.2 D th (kPurse (xs (4 * j + 1))) ((gPurse A L (xs (4 * j + 1))).1)) (φ := r = kPurse (xs (4 * j + 1))) (fun w2 h2 => by obtain ⟨w1, h1, h3, h4⟩ := h2; exact ⟨h3, LQ.wrap h1 h4⟩) (fun e1 => ?_)
  subst e1
  have hF2 : fI (gPurse A L (xs (4 * j + 1))).2.1 n (gPurse A L (xs (4 * j + 1))).2.2 D := st_purse hF _
  refine x_istore Γ dL_law_1085 rfl (by decide) ?_
  refine x_aload_n Γ dL_law_1087 rfl rfl ?_
  refine x_aload_n Γ dL_law_1088 rfl rfl ?_
  refine x_iload Γ dL_law_1089 rfl ?_
  refine x_iconst (v := 1) Γ dL_law_1091 (by decide) ?_
  refine x_iadd Γ dL_law_1092 ?_
  rw [show nI (4 * j) + 1 = nI (4 * j + 1) from nI_add (4 * j) 1]
  refine x_sld Γ hX hbl hbA rfl (by omega) hl dL_law_1093 ?_
  refine x_invV (emb := embI) (ci := 4) (rm := ({ frames := 3, cells := 0, slots := 0, locals := 140 } : Room)) Γ [.int (xs (4 * j + 1))] (fun w1 r w2 => r = (gPurse A L (xs (4 * j + 1))).1 ∧ mP G o ad ((gPurse A L (xs (4 * j + 1))).2.1) ((gPurse A L (xs (4 * j + 1))).2.2) w1 w2) rfl (fun w1 h1 => tm_purse h1.1 hF.1.1) (fun w1 h1 => h1.1.obj) rfl k_752 k_6 k_749 k_750 k_751 hd_X3_purse ⟨Nat.le_of_ble_eq_true rfl, Nat.le_of_ble_eq_true rfl⟩ ⟨by show 30 + 60 * j + 60 + 0 ≤ 601024; omega, by show 25000 + 400 * j + 400 + 0 ≤ 7293034; omega⟩ (Nat.le_of_ble_eq_true rfl) dL_law_1094 (fun r => ?_)
  refine x_then (P2 := LQ G o ad ca out ((gPurse A L (xs (4 * j + 1))).2.1) ((gPurse A L (xs (4 * j + 1))).2.2) ((gPurse A L (xs (4 * j + 1))).2.1) n ((gPurse A L (xs (4 * j + 1))).2.2) D th (kPurse (xs (4 * j + 1))) ((gPurse A L (xs (4 * j + 1))).1)) (φ := r = (gPurse A L (xs (4 * j + 1))).1) (fun w2 h2 => by obtain ⟨w1, h1, h3, h4⟩ := h2; exact ⟨h3, h1.mdl h4⟩) (fun e2 => ?_)
  subst e2
  refine x_istore Γ dL_law_1097 rfl (by decide) ?_
  refine x_aload_n Γ dL_law_1099 rfl rfl ?_
  have h19 : (gPurse A L (xs (4 * j + 1))).2.1 19 0 = kPurse (xs (4 * j + 1)) := fin_19 (fun _ => rfl)
  refine x_invV (emb := embI) (ci := 4) (rm := ({ frames := 0, cells := 0, slots := 0, locals := 0 } : Room)) Γ [] (fun w1 r w2 => r = kPurse (xs (4 * j + 1)) ∧ mP G o ad ((gPurse A L (xs (4 * j + 1))).2.1) ((gPurse A L (xs (4 * j + 1))).2.2) w1 w2) rfl (fun w1 h1 => by have h9 := t_thrown (l := l) h1.1; rw [h19] at h9; exact h9) (fun w1 h1 => h1.1.obj) rfl k_642 k_6 k_639 k_640 k_641 hd_X3_thrown ⟨Nat.le_of_ble_eq_true rfl, Nat.le_of_ble_eq_true rfl⟩ ⟨by show 30 + 60 * j + 60 + 0 + 0 ≤ 601024; omega, by show 25000 + 400 * j + 400 + 0 + 0 ≤ 7293034; omega⟩ (Nat.le_of_ble_eq_true rfl) dL_law_1100 (fun r => ?_)
  refine x_then (P2 := LQ G o ad ca out ((gPurse A L (xs (4 * j + 1))).2.1) ((gPurse A L (xs (4 * j + 1))).2.2) ((gPurse A L (xs (4 * j + 1))).2.1) n ((gPurse A L (xs (4 * j + 1))).2.2) D th (kPurse (xs (4 * j + 1))) ((gPurse A L (xs (4 * j + 1))).1)) (φ := r = kPurse (xs (4 * j + 1))) (fun w2 h2 => by obtain ⟨w1, h1, h3, h4⟩ := h2; exact ⟨h3, h1.mdl h4⟩) (fun e3 => ?_)
  subst e3
  refine x_iload Γ dL_law_1103 rfl ?_
  refine x_icmp_eq (tgt := 1110) Γ dL_law_1105 (by decide) (fun c1105 => ?_) (fun c1105 => absurd (rfl) c1105)
  refine x_iload Γ dL_law_1110 rfl ?_
  refine x_if_ne (tgt := 1127) Γ dL_law_1112 (by decide) (fun c1112 => ?_) (fun c1112 => ?_)
  · refine x_goto (tgt := 1199) Γ dL_law_1127 (by decide) ?_
    refine x_weak (P' := LPw G o ad ca out (gPurse A L (xs (4 * j + 1))).2.1 n (gPurse A L (xs (4 * j + 1))).2.2 D th) (fun w2 h2 => h2.any) ?_
    refine x_wide (k' := 30 + 60 * (j + 1)) (n' := 25000 + 400 * (j + 1)) (by show 30 + 60 * j + 60 + 0 + 0 ≤ 30 + 60 * (j + 1); omega) (by show 25000 + 400 * j + 400 + 0 + 0 ≤ 25000 + 400 * (j + 1); omega) ?_
    exact hend _ _ _ _ _ _ hF2 rfl
  · refine x_pin (fun w5 hw5 => ?_)
    obtain ⟨f5, hf5, hf6⟩ := hw5.2.2
    refine x_aload_n Γ dL_law_1115 rfl rfl ?_
    refine x_iconst (v := 0) Γ dL_law_1116 (by decide) ?_
    refine x_lald (N := 1) (f := f5) (x := (gPurse A L (xs (4 * j + 1))).1.toInt64) Γ (xv_arr hf5) (by unfold vp_in; decide) (hf6 c1112) dL_law_1117 ?_
    refine x_iload Γ dL_law_1118 rfl ?_
    refine x_i2l Γ dL_law_1120 rfl ?_
    refine x_lcmp Γ dL_law_1121 ?_
    rw [lg_same]
    refine x_if_eq (tgt := 1127) Γ dL_law_1122 (by decide) (fun c1122 => ?_) (fun c1122 => absurd (rfl) c1122)
    refine x_goto (tgt := 1199) Γ dL_law_1127 (by decide) ?_
    refine x_weak (P' := LPw G o ad ca out (gPurse A L (xs (4 * j + 1))).2.1 n (gPurse A L (xs (4 * j + 1))).2.2 D th) (fun w2 h2 => by rw [h2]; exact hw5.any) ?_
    refine x_wide (k' := 30 + 60 * (j + 1)) (n' := 25000 + 400 * (j + 1)) (by show 30 + 60 * j + 60 + 0 + 0 ≤ 30 + 60 * (j + 1); omega) (by show 25000 + 400 * j + 400 + 0 + 0 ≤ 25000 + 400 * (j + 1); omega) ?_
    exact hend _ _ _ _ _ _ hF2 rfl
set_option maxRecDepth 100000 in
theorem lc_taken {A : xS} {n : Nat} {L : List Nat} {D : Nat} {th : Nat → Nat} {j : Nat} (Γ : xC p s m meth c G cL_law 7 "LeftThingsLaw" (some .boolean)) (hfl : l.stackTraces = false) (hX : va_X b len xs s s.heap) (hbl : b < s.heap.size) (hbA : ¬ xA G b) (hl : len ≤ 2048) (hj : 4 * j + 4 ≤ len) (hF : fI A n L D) (hend : lEnd p l e s m args below meth c G Q b o ad ca out j) : xJ p l e Rm12 s m args below meth c G 7 Q (LPw G o ad ca out A n L D th) (30 + 60 * j) (25000 + 400 * j) 1130 (lLv b ca o out j) [] := by
  refine x_aload_n Γ dL_law_1130 rfl rfl ?_
  refine x_invV (emb := embI) (ci := 3) (rm := ({ frames := 1, cells := 0, slots := 0, locals := 40 } : Room)) Γ [] (fun w1 r w2 => r = (g0 3 A L).1 ∧ cQ G ca th (g0 3 A L).2.1 n (g0 3 A L).2.2 D w1 w2) rfl (fun w1 h1 => by obtain ⟨g1, ⟨T, g2, g3⟩, f, g4⟩ := h1; exact tc_taken g3 hF.1 g2 hF.2.2.1 hF.2.2.2) (fun w1 h1 => by obtain ⟨g1, ⟨T, g2, g3⟩, f, g4⟩ := h1; exact ⟨_, _, g3.1⟩) rfl k_95 k_1 k_92 k_93 k_94 hd_X2_taken ⟨Nat.le_of_ble_eq_true rfl, Nat.le_of_ble_eq_true rfl⟩ ⟨by show 30 + 60 * j + 0 ≤ 601024; omega, by show 25000 + 400 * j + 0 ≤ 7293034; omega⟩ (Nat.le_of_ble_eq_true rfl) dL_law_1131 (fun r => ?_)
  refine x_then (P2 := LQ G o ad ca out A L (g0 3 A L).2.1 n (g0 3 A L).2.2 D th 1 0) (φ := r = (g0 3 A L).1) (fun w2 h2 => by obtain ⟨w1, h1, h3, h4⟩ := h2; obtain ⟨g1, -, f, g4, -⟩ := h1; exact ⟨h3, g1.kp (h4.2.mono (by intro k hk; omega)), h4.1, f, h4.2 _ _ _ g4 (by omega), fun z => absurd z (by decide)⟩) (fun e1 => ?_)
  subst e1
  refine x_aload_n Γ dL_law_1134 rfl rfl ?_
  refine x_invV (emb := embI) (ci := 4) (rm := ({ frames := 0, cells := 0, slots := 0, locals := 0 } : Room)) Γ [] (fun w1 r w2 => r = (g0 3 A L).1 ∧ mP G o ad ((g0 3 A L).2.1) ((g0 3 A L).2.2) w1 w2) rfl (fun w1 h1 => tm_taken h1.1) (fun w1 h1 => h1.1.obj) rfl k_756 k_6 k_753 k_754 k_755 hd_X3_taken ⟨Nat.le_of_ble_eq_true rfl, Nat.le_of_ble_eq_true rfl⟩ ⟨by show 30 + 60 * j + 0 + 0 ≤ 601024; omega, by show 25000 + 400 * j + 0 + 0 ≤ 7293034; omega⟩ (Nat.le_of_ble_eq_true rfl) dL_law_1135 (fun r => ?_)
  refine x_then (P2 := LQ G o ad ca out ((g0 3 A L).2.1) ((g0 3 A L).2.2) ((g0 3 A L).2.1) n ((g0 3 A L).2.2) D th (1) (0)) (φ := r = (g0 3 A L).1) (fun w2 h2 => by obtain ⟨w1, h1, h3, h4⟩ := h2; exact ⟨h3, h1.mdl h4⟩) (fun e2 => ?_)
  subst e2
  refine x_icmp_eq (tgt := 1199) Γ dL_law_1138 (by decide) (fun c1138 => ?_) (fun c1138 => absurd (rfl) c1138)
  refine x_wide (k' := 30 + 60 * (j + 1)) (n' := 25000 + 400 * (j + 1)) (by show 30 + 60 * j + 0 + 0 ≤ 30 + 60 * (j + 1); omega) (by show 25000 + 400 * j + 0 + 0 ≤ 25000 + 400 * (j + 1); omega) ?_
  exact hend _ n _ D th _ (fI_thr hF 0) rfl
set_option maxRecDepth 100000 in
theorem lc_wish {A : xS} {n : Nat} {L : List Nat} {D : Nat} {th : Nat → Nat} {j : Nat} (Γ : xC p s m meth c G cL_law 7 "LeftThingsLaw" (some .boolean)) (hfl : l.stackTraces = false) (hX : va_X b len xs s s.heap) (hbl : b < s.heap.size) (hbA : ¬ xA G b) (hl : len ≤ 2048) (hj : 4 * j + 4 ≤ len) (hF : fI A n L D) (hend : lEnd p l e s m args below meth c G Q b o ad ca out j) : xJ p l e Rm12 s m args below meth c G 7 Q (LPw G o ad ca out A n L D th) (30 + 60 * j) (25000 + 400 * j) 1143 (lLv b ca o out j) [] := by
  refine x_aload_n Γ dL_law_1143 rfl rfl ?_
  refine x_aload_n Γ dL_law_1144 rfl rfl ?_
  refine x_iload Γ dL_law_1145 rfl ?_
  refine x_iconst (v := 1) Γ dL_law_1147 (by decide) ?_
  refine x_iadd Γ dL_law_1148 ?_
  rw [show nI (4 * j) + 1 = nI (4 * j + 1) from nI_add (4 * j) 1]
  refine x_sld Γ hX hbl hbA rfl (by omega) hl dL_law_1149 ?_
  refine x_aload_n Γ dL_law_1150 rfl rfl ?_
  refine x_invSW (emb := embI) (rm := ({ frames := 9, cells := 60, slots := 400, locals := 365 } : Room)) Γ [.ref (ca 0), .int (xs (4 * j + 1)), .ref out] (fun w1 r w2 => r = kWish L (xs (4 * j + 1)) ∧ wQ G ca th out (gWish A L (xs (4 * j + 1))).2.1 n (gWish A L (xs (4 * j + 1))).2.2 D (kWish L (xs (4 * j + 1))) ((gWish A L (xs (4 * j + 1))).1) w1 w2) rfl (fun w1 h1 => by obtain ⟨g1, ⟨T, g2, g3⟩, f, g4, -⟩ := h1; exact tw_wish g3 hfl hF.1 g2 hF.2.2.1 hF.2.2.2 g4) k_566 k_0 k_564 k_565 hd_L_wish ⟨Nat.le_of_ble_eq_true rfl, Nat.le_of_ble_eq_true rfl⟩ ⟨by show 30 + 60 * j + 60 ≤ 601024; omega, by show 25000 + 400 * j + 400 ≤ 7293034; omega⟩ (Nat.le_of_ble_eq_true rfl) dL_law_1151 (fun r => ?_)
  refine x_then (P2 := LQ G o ad ca out A L (gWish A L (xs (4 * j + 1))).2.1 n (gWish A L (xs (4 * j + 1))).2.2 D th (kWish L (xs (4 * j + 1))) ((gWish A L (xs (4 * j + 1))).1)) (φ := r = kWish L (xs (4 * j + 1))) (fun w2 h2 => by obtain ⟨w1, h1, h3, h4⟩ := h2; exact ⟨h3, LQ.wrap h1 h4⟩) (fun e1 => ?_)
  subst e1
  have hF2 : fI (gWish A L (xs (4 * j + 1))).2.1 n (gWish A L (xs (4 * j + 1))).2.2 D := st_wish hF _
  refine x_istore Γ dL_law_1154 rfl (by decide) ?_
  refine x_aload_n Γ dL_law_1156 rfl rfl ?_
  refine x_aload_n Γ dL_law_1157 rfl rfl ?_
  refine x_iload Γ dL_law_1158 rfl ?_
  refine x_iconst (v := 1) Γ dL_law_1160 (by decide) ?_
  refine x_iadd Γ dL_law_1161 ?_
  rw [show nI (4 * j) + 1 = nI (4 * j + 1) from nI_add (4 * j) 1]
  refine x_sld Γ hX hbl hbA rfl (by omega) hl dL_law_1162 ?_
  refine x_invV (emb := embI) (ci := 4) (rm := ({ frames := 3, cells := 0, slots := 0, locals := 140 } : Room)) Γ [.int (xs (4 * j + 1))] (fun w1 r w2 => r = (gWish A L (xs (4 * j + 1))).1 ∧ mP G o ad ((gWish A L (xs (4 * j + 1))).2.1) ((gWish A L (xs (4 * j + 1))).2.2) w1 w2) rfl (fun w1 h1 => tm_wish h1.1 hF.1.1 hF.1.2.1.1) (fun w1 h1 => h1.1.obj) rfl k_760 k_6 k_757 k_758 k_759 hd_X3_wish ⟨Nat.le_of_ble_eq_true rfl, Nat.le_of_ble_eq_true rfl⟩ ⟨by show 30 + 60 * j + 60 + 0 ≤ 601024; omega, by show 25000 + 400 * j + 400 + 0 ≤ 7293034; omega⟩ (Nat.le_of_ble_eq_true rfl) dL_law_1163 (fun r => ?_)
  refine x_then (P2 := LQ G o ad ca out ((gWish A L (xs (4 * j + 1))).2.1) ((gWish A L (xs (4 * j + 1))).2.2) ((gWish A L (xs (4 * j + 1))).2.1) n ((gWish A L (xs (4 * j + 1))).2.2) D th (kWish L (xs (4 * j + 1))) ((gWish A L (xs (4 * j + 1))).1)) (φ := r = (gWish A L (xs (4 * j + 1))).1) (fun w2 h2 => by obtain ⟨w1, h1, h3, h4⟩ := h2; exact ⟨h3, h1.mdl h4⟩) (fun e2 => ?_)
  subst e2
  refine x_istore Γ dL_law_1166 rfl (by decide) ?_
  refine x_aload_n Γ dL_law_1168 rfl rfl ?_
  have h19 : (gWish A L (xs (4 * j + 1))).2.1 19 0 = kWish L (xs (4 * j + 1)) := fin_19 (fun _ => rfl)
  refine x_invV (emb := embI) (ci := 4) (rm := ({ frames := 0, cells := 0, slots := 0, locals := 0 } : Room)) Γ [] (fun w1 r w2 => r = kWish L (xs (4 * j + 1)) ∧ mP G o ad ((gWish A L (xs (4 * j + 1))).2.1) ((gWish A L (xs (4 * j + 1))).2.2) w1 w2) rfl (fun w1 h1 => by have h9 := t_thrown (l := l) h1.1; rw [h19] at h9; exact h9) (fun w1 h1 => h1.1.obj) rfl k_642 k_6 k_639 k_640 k_641 hd_X3_thrown ⟨Nat.le_of_ble_eq_true rfl, Nat.le_of_ble_eq_true rfl⟩ ⟨by show 30 + 60 * j + 60 + 0 + 0 ≤ 601024; omega, by show 25000 + 400 * j + 400 + 0 + 0 ≤ 7293034; omega⟩ (Nat.le_of_ble_eq_true rfl) dL_law_1169 (fun r => ?_)
  refine x_then (P2 := LQ G o ad ca out ((gWish A L (xs (4 * j + 1))).2.1) ((gWish A L (xs (4 * j + 1))).2.2) ((gWish A L (xs (4 * j + 1))).2.1) n ((gWish A L (xs (4 * j + 1))).2.2) D th (kWish L (xs (4 * j + 1))) ((gWish A L (xs (4 * j + 1))).1)) (φ := r = kWish L (xs (4 * j + 1))) (fun w2 h2 => by obtain ⟨w1, h1, h3, h4⟩ := h2; exact ⟨h3, h1.mdl h4⟩) (fun e3 => ?_)
  subst e3
  refine x_iload Γ dL_law_1172 rfl ?_
  refine x_icmp_eq (tgt := 1179) Γ dL_law_1174 (by decide) (fun c1174 => ?_) (fun c1174 => absurd (rfl) c1174)
  refine x_iload Γ dL_law_1179 rfl ?_
  refine x_if_ne (tgt := 1196) Γ dL_law_1181 (by decide) (fun c1181 => ?_) (fun c1181 => ?_)
  · refine x_goto (tgt := 1199) Γ dL_law_1196 (by decide) ?_
    refine x_weak (P' := LPw G o ad ca out (gWish A L (xs (4 * j + 1))).2.1 n (gWish A L (xs (4 * j + 1))).2.2 D th) (fun w2 h2 => h2.any) ?_
    refine x_wide (k' := 30 + 60 * (j + 1)) (n' := 25000 + 400 * (j + 1)) (by show 30 + 60 * j + 60 + 0 + 0 ≤ 30 + 60 * (j + 1); omega) (by show 25000 + 400 * j + 400 + 0 + 0 ≤ 25000 + 400 * (j + 1); omega) ?_
    exact hend _ _ _ _ _ _ hF2 rfl
  · refine x_pin (fun w5 hw5 => ?_)
    obtain ⟨f5, hf5, hf6⟩ := hw5.2.2
    refine x_aload_n Γ dL_law_1184 rfl rfl ?_
    refine x_iconst (v := 0) Γ dL_law_1185 (by decide) ?_
    refine x_lald (N := 1) (f := f5) (x := (gWish A L (xs (4 * j + 1))).1.toInt64) Γ (xv_arr hf5) (by unfold vp_in; decide) (hf6 c1181) dL_law_1186 ?_
    refine x_iload Γ dL_law_1187 rfl ?_
    refine x_i2l Γ dL_law_1189 rfl ?_
    refine x_lcmp Γ dL_law_1190 ?_
    rw [lg_same]
    refine x_if_eq (tgt := 1196) Γ dL_law_1191 (by decide) (fun c1191 => ?_) (fun c1191 => absurd (rfl) c1191)
    refine x_goto (tgt := 1199) Γ dL_law_1196 (by decide) ?_
    refine x_weak (P' := LPw G o ad ca out (gWish A L (xs (4 * j + 1))).2.1 n (gWish A L (xs (4 * j + 1))).2.2 D th) (fun w2 h2 => by rw [h2]; exact hw5.any) ?_
    refine x_wide (k' := 30 + 60 * (j + 1)) (n' := 25000 + 400 * (j + 1)) (by show 30 + 60 * j + 60 + 0 + 0 ≤ 30 + 60 * (j + 1); omega) (by show 25000 + 400 * j + 400 + 0 + 0 ≤ 25000 + 400 * (j + 1); omega) ?_
    exact hend _ _ _ _ _ _ hF2 rfl
end XLW

section XC4
def iP (G : xG) (w0 : xW) (x : Nat) (fs : List Value) (o1 o2 o3 o4 : Option Nat) : xW → Prop := fun w => w x = some (100, .inr (3, fs)) ∧ (∀ a, o1 = some a → w a = some (101, .inl (G.2 1, 5, .inl (fun _ => 0)))) ∧ (∀ a, o2 = some a → w a = some (102, .inl (G.2 1, 8, .inl (fun _ => 0)))) ∧ (∀ a, o3 = some a → LstAt G w a 104 0 (fun _ => 0)) ∧ (∀ a, o4 = some a → LstAt G w a 105 0 (fun _ => 0)) ∧ KpX w0 w
theorem iP.kp {G : xG} {w0 w w' : xW} {x : Nat} {fs fs' : List Value} {o1 o2 o3 o4 : Option Nat} (h : iP G w0 x fs o1 o2 o3 o4 w) (hx : w' x = some (100, .inr (3, fs'))) (hk : xKp (fun k => k ≠ 100) w w') : iP G w0 x fs' o1 o2 o3 o4 w' :=
  ⟨hx, fun a ha => hk _ _ _ (h.2.1 a ha) (by omega), fun a ha => hk _ _ _ (h.2.2.1 a ha) (by omega), fun a ha => (h.2.2.2.1 a ha).kp hk (by omega) (by omega), fun a ha => (h.2.2.2.2.1 a ha).kp hk (by omega) (by omega), h.2.2.2.2.2.tr (hk.mono (by intro k hk; omega))⟩
theorem iP.put {G : xG} {w0 w : xW} {x j : Nat} {fs : List Value} {v : Value} {o1 o2 o3 o4 : Option Nat} (h : iP G w0 x fs o1 o2 o3 o4 w) : iP G w0 x (fs.set j v) o1 o2 o3 o4 (xu w x (100, .inr (3, fs.set j v))) := h.kp (xu_eq _ _ _) (xKp.set h.1 (fun z => z rfl))
theorem iP.new {G : xG} {w0 w : xW} {x a : Nat} {e : Nat × va_E} {fs : List Value} {o1 o2 o3 o4 : Option Nat} (h : iP G w0 x fs o1 o2 o3 o4 w) (ha : w a = none) : iP G w0 x fs o1 o2 o3 o4 (xu w a e) := h.kp (xu_new h.1 ha) (xKp.new ha)
variable {l : Launch} {G : xG}
set_option maxRecDepth 100000 in
theorem t_cinit {x : Nat} {w : xW} (h : w x = some (100, .inr (3, [.null, .null, .null, .null, .int 0, .int 0, .int 0]))) : xMet l G yX2_init cX2_init 1 none ({ frames := 4, cells := 4, slots := 19, locals := 80 } : Room) [.ref x] w embV (fun _ w' => ∃ ca th, ca 0 = x ∧ CRaw G w' ca th (mIni 5 24048) 0 [] (fun _ => []) ∧ KpX w w') := by
  refine xMet_of (by decide) (Nat.le_of_ble_eq_true rfl) ?_
  intro p e s m below meth c Γ hnm
  refine x_weak (P' := iP G w x [.null, .null, .null, .null, .int 0, .int 0, .int 0] none none none none) (fun w1 h1 => by rw [h1]; exact ⟨h, fun a ha => (by cases ha), fun a ha => (by cases ha), fun a ha => (by cases ha), fun a ha => (by cases ha), xKp.rf⟩) ?_
  refine x_aload_n Γ dX2_init_0 rfl rfl ?_
  refine x_obj Γ k_25 ⟨Nat.le_of_ble_eq_true rfl, Nat.le_of_ble_eq_true rfl⟩ dX2_init_1 ?_
  refine x_aload_n Γ dX2_init_4 rfl rfl ?_
  refine x_iconst (v := 5) Γ dX2_init_5 (by decide) ?_
  refine x_newI (F := fun a => iP G w x [.null, .null, .null, .null, .int 0, .int 0, .int 0] (some a) none none none) Γ 101 (N := 5) (by decide) (by decide) (fun w1 a h1 h2 => ?_) ⟨Nat.le_of_ble_eq_true rfl, Nat.le_of_ble_eq_true rfl⟩ dX2_init_6 ?_
  · have h3 := iP.new (e := (101, .inl (G.2 1, 5, .inl (fun _ => 0)))) h1 h2
    exact ⟨h3.1, fun b hb => by cases hb; exact xu_eq _ _ _, h3.2.2.1, h3.2.2.2.1, h3.2.2.2.2.1, h3.2.2.2.2.2⟩
  intro a1
  refine x_putfF (P' := iP G w x [.ref a1, .null, .null, .null, .int 0, .int 0, .int 0] (some a1) none none none) Γ hnm kl3 0 (fun w1 h1 => ⟨_, _, h1.1, Nat.le_of_ble_eq_true rfl, h1.put⟩) (by decide) k_58 rfl rfl rfl rfl dX2_init_8 ?_
  refine x_aload_n Γ dX2_init_11 rfl rfl ?_
  refine x_bipush (v := 8) Γ dX2_init_12 (by decide) ?_
  refine x_newI (F := fun a => iP G w x [.ref a1, .null, .null, .null, .int 0, .int 0, .int 0] (some a1) (some a) none none) Γ 102 (N := 8) (by decide) (by decide) (fun w1 a h1 h2 => ?_) ⟨Nat.le_of_ble_eq_true rfl, Nat.le_of_ble_eq_true rfl⟩ dX2_init_14 ?_
  · have h3 := iP.new (e := (102, .inl (G.2 1, 8, .inl (fun _ => 0)))) h1 h2
    exact ⟨h3.1, h3.2.1, fun b hb => by cases hb; exact xu_eq _ _ _, h3.2.2.2.1, h3.2.2.2.2.1, h3.2.2.2.2.2⟩
  intro a2
  refine x_putfF (P' := iP G w x [.ref a1, .ref a2, .null, .null, .int 0, .int 0, .int 0] (some a1) (some a2) none none) Γ hnm kl3 1 (fun w1 h1 => ⟨_, _, h1.1, Nat.le_of_ble_eq_true rfl, h1.put⟩) (by decide) k_59 rfl rfl rfl rfl dX2_init_16 ?_
  refine x_aload_n Γ dX2_init_19 rfl rfl ?_
  refine x_new (F := fun a w2 => iP G w x [.ref a1, .ref a2, .null, .null, .int 0, .int 0, .int 0] (some a1) (some a2) none none w2 ∧ w2 a = some (104, .inr (0, [.int 0, .null, .int 0]))) Γ kl0 [.int 0, .null, .int 0] 104 (by decide) k_28 k_29 k_4 (fun w1 a h1 h2 => ⟨h1.new h2, xu_eq _ _ _⟩) ⟨Nat.le_of_ble_eq_true rfl, Nat.le_of_ble_eq_true rfl⟩ dX2_init_20 ?_
  intro a3
  refine x_dup Γ dX2_init_23 rfl ?_
  refine x_invI (rm := ({ frames := 3, cells := 0, slots := 0, locals := 52 } : Room)) Γ [] (fun w1 _ w2 => LstAt G w2 a3 104 0 (fun _ => 0) ∧ KpL 104 w1 w2) rfl (fun w1 h1 => t_newlist h1.2) rfl k_32 k_4 k_30 k_31 hd_Jx4a65c_init_da8c8 ⟨Nat.le_of_ble_eq_true rfl, Nat.le_of_ble_eq_true rfl⟩ ⟨Nat.le_of_ble_eq_true rfl, Nat.le_of_ble_eq_true rfl⟩ (Nat.le_of_ble_eq_true rfl) dX2_init_24 (fun _ => ?_)
  refine x_weak (P' := iP G w x [.ref a1, .ref a2, .null, .null, .int 0, .int 0, .int 0] (some a1) (some a2) (some a3) none) (fun w2 h2 => ?_) ?_
  · obtain ⟨w1, ⟨h1, -⟩, h3, h4⟩ := h2
    have k1 : xKp (fun k => k ≠ 104 ∧ k ≠ 106) w1 w2 := fun b k e hb hs => h4 b k e hb hs.1 hs.2
    exact ⟨k1 _ _ _ h1.1 (by omega), fun a ha => k1 _ _ _ (h1.2.1 a ha) (by omega), fun a ha => k1 _ _ _ (h1.2.2.1 a ha) (by omega), fun a ha => (by cases ha; exact h3), fun a ha => (by cases ha), h1.2.2.2.2.2.tr (k1.mono (by intro k hk; omega))⟩
  refine x_putfF (P' := iP G w x [.ref a1, .ref a2, .ref a3, .null, .int 0, .int 0, .int 0] (some a1) (some a2) (some a3) none) Γ hnm kl3 2 (fun w1 h1 => ⟨_, _, h1.1, Nat.le_of_ble_eq_true rfl, h1.put⟩) (by decide) k_60 rfl rfl rfl rfl dX2_init_27 ?_
  refine x_aload_n Γ dX2_init_30 rfl rfl ?_
  refine x_new (F := fun a w2 => iP G w x [.ref a1, .ref a2, .ref a3, .null, .int 0, .int 0, .int 0] (some a1) (some a2) (some a3) none w2 ∧ w2 a = some (105, .inr (0, [.int 0, .null, .int 0]))) Γ kl0 [.int 0, .null, .int 0] 105 (by decide) k_28 k_29 k_4 (fun w1 a h1 h2 => ⟨h1.new h2, xu_eq _ _ _⟩) ⟨Nat.le_of_ble_eq_true rfl, Nat.le_of_ble_eq_true rfl⟩ dX2_init_31 ?_
  intro a4
  refine x_dup Γ dX2_init_34 rfl ?_
  refine x_invI (rm := ({ frames := 3, cells := 0, slots := 0, locals := 52 } : Room)) Γ [] (fun w1 _ w2 => LstAt G w2 a4 105 0 (fun _ => 0) ∧ KpL 105 w1 w2) rfl (fun w1 h1 => t_newlist h1.2) rfl k_32 k_4 k_30 k_31 hd_Jx4a65c_init_da8c8 ⟨Nat.le_of_ble_eq_true rfl, Nat.le_of_ble_eq_true rfl⟩ ⟨Nat.le_of_ble_eq_true rfl, Nat.le_of_ble_eq_true rfl⟩ (Nat.le_of_ble_eq_true rfl) dX2_init_35 (fun _ => ?_)
  refine x_weak (P' := iP G w x [.ref a1, .ref a2, .ref a3, .null, .int 0, .int 0, .int 0] (some a1) (some a2) (some a3) (some a4)) (fun w2 h2 => ?_) ?_
  · obtain ⟨w1, ⟨h1, -⟩, h3, h4⟩ := h2
    have k1 : xKp (fun k => k ≠ 105 ∧ k ≠ 107) w1 w2 := fun b k e hb hs => h4 b k e hb hs.1 hs.2
    exact ⟨k1 _ _ _ h1.1 (by omega), fun a ha => k1 _ _ _ (h1.2.1 a ha) (by omega), fun a ha => k1 _ _ _ (h1.2.2.1 a ha) (by omega), fun a ha => (h1.2.2.2.1 a ha).kp k1 (by omega) (by omega), fun a ha => (by cases ha; exact h3), h1.2.2.2.2.2.tr (k1.mono (by intro k hk; omega))⟩
  refine x_putfF (P' := iP G w x [.ref a1, .ref a2, .ref a3, .ref a4, .int 0, .int 0, .int 0] (some a1) (some a2) (some a3) (some a4)) Γ hnm kl3 3 (fun w1 h1 => ⟨_, _, h1.1, Nat.le_of_ble_eq_true rfl, h1.put⟩) (by decide) k_61 rfl rfl rfl rfl dX2_init_38 ?_
  refine x_aload_n Γ dX2_init_41 rfl rfl ?_
  refine x_bipush (v := 6) Γ dX2_init_42 (by decide) ?_
  refine x_putf (P' := iP G w x [.ref a1, .ref a2, .ref a3, .ref a4, .int 6, .int 0, .int 0] (some a1) (some a2) (some a3) (some a4)) Γ kl3 4 (fun w1 h1 => ⟨_, _, h1.1, Nat.le_of_ble_eq_true rfl, h1.put⟩) (by decide) k_62 (Or.inl rfl) rfl rfl rfl dX2_init_44 ?_
  refine x_aload_n Γ dX2_init_47 rfl rfl ?_
  refine x_iconst (v := 0) Γ dX2_init_48 (by decide) ?_
  refine x_putf (P' := iP G w x [.ref a1, .ref a2, .ref a3, .ref a4, .int 6, .int 0, .int 0] (some a1) (some a2) (some a3) (some a4)) Γ kl3 5 (fun w1 h1 => ⟨_, _, h1.1, Nat.le_of_ble_eq_true rfl, h1.put⟩) (by decide) k_63 (Or.inl rfl) rfl rfl rfl dX2_init_49 ?_
  refine x_aload_n Γ dX2_init_52 rfl rfl ?_
  refine x_iconst (v := 0) Γ dX2_init_53 (by decide) ?_
  refine x_putf (P' := iP G w x [.ref a1, .ref a2, .ref a3, .ref a4, .int 6, .int 0, .int 0] (some a1) (some a2) (some a3) (some a4)) Γ kl3 6 (fun w1 h1 => ⟨_, _, h1.1, Nat.le_of_ble_eq_true rfl, h1.put⟩) (by decide) k_64 (Or.inl rfl) rfl rfl rfl dX2_init_54 ?_
  refine x_aload_n Γ dX2_init_57 rfl rfl ?_
  refine x_getf Γ kl3 0 (fun w1 h1 => ⟨_, _, h1.1, rfl⟩) (by decide) k_58 (Or.inl rfl) dX2_init_58 ?_
  refine x_bipush (v := 10) Γ dX2_init_61 (by decide) ?_
  refine x_invS (emb := embV) (rm := ({ frames := 0, cells := 0, slots := 0, locals := 0 } : Room)) Γ [.ref a1, .int 10] (fun w1 _ w2 => w2 = xu w1 a1 (101, .inl (G.2 1, 5, .inl (fun i => if i < 5 then 10 else 0)))) rfl (fun w1 h1 => t_fill (h1.2.1 a1 rfl) (by omega)) k_57 k_5 k_55 k_56 hd_J7_fill_53178 ⟨Nat.le_of_ble_eq_true rfl, Nat.le_of_ble_eq_true rfl⟩ ⟨Nat.le_of_ble_eq_true rfl, Nat.le_of_ble_eq_true rfl⟩ (Nat.le_of_ble_eq_true rfl) dX2_init_63 (fun _ => ?_)
  refine x_vret Γ rfl (fun w2 h2 => ?_) ⟨Nat.le_of_ble_eq_true rfl, Nat.le_of_ble_eq_true rfl⟩ dX2_init_66
  obtain ⟨w1, h1, h3⟩ := h2
  obtain ⟨g1, g2, g3, g4, g5, g6⟩ := h1
  have k1 : xKp (fun k => k ≠ 101) w1 w2 := by rw [h3]; exact xKp.set (g2 a1 rfl) (fun z => z rfl)
  refine ⟨fun i => if i = 0 then x else if i = 1 then a1 else if i = 2 then a2 else if i = 3 then a3 else a4, fun _ => 0, rfl, ⟨k1 _ _ _ g1 (by omega), ?_, k1 _ _ _ (g3 a2 rfl) (by omega), ?_, ?_, fun t ht => absurd ht (Nat.not_lt_zero t)⟩, g6.tr (k1.mono (by intro k hk; omega))⟩
  · show w2 a1 = _
    rw [h3]; exact xu_eq _ _ _
  · exact (g4 a3 rfl).kp k1 (by omega) (by omega)
  · exact ((g5 a4 rfl).kp k1 (by omega) (by omega)).congr (fun i hi => absurd hi (Nat.not_lt_zero i))
end XC4

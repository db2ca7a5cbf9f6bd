section XM8
def mB (G : xG) (w0 : xW) (o : Nat) (fs : List Value) (as : List (Nat × Nat)) : xW → Prop := fun w => w o = some (10, .inr (4, fs)) ∧ (∀ q ∈ as, w q.2 = some (20 + q.1, .inl (G.2 1, mlen q.1, .inl (fun _ => 0)))) ∧ KpM w0 w
def mIni (c d : Nat) : xS := fun j i => if j = 0 then (if i < c then 10 else 0) else if j = 1 then (if i = 0 then 6 else 0) else if j = 18 then (if i < d then 12 else 0) else 0
theorem mIni_c (c d : Nat) : mU (mIni c d) 0 c 10 = mIni (c + 1) d := by
  funext j i
  by_cases hj : j = 0
  · subst hj
    by_cases hi : i = c
    · subst hi
      rw [mU_eq]
      show _ = (if i < i + 1 then (10 : Int32) else 0)
      rw [if_pos (by omega)]
    · rw [mU_i hi]
      show (if i < c then (10 : Int32) else 0) = (if i < c + 1 then (10 : Int32) else 0)
      by_cases h : i < c
      · rw [if_pos h, if_pos (by omega)]
      · rw [if_neg h, if_neg (by omega)]
  · rw [mU_j hj]
    unfold mIni
    rw [if_neg hj, if_neg hj]
theorem mIni_d (c d : Nat) : mU (mIni c d) 18 d 12 = mIni c (d + 1) := by
  funext j i
  by_cases hj : j = 18
  · subst hj
    by_cases hi : i = d
    · subst hi
      rw [mU_eq]
      show _ = (if i < i + 1 then (12 : Int32) else 0)
      rw [if_pos (by omega)]
    · rw [mU_i hi]
      show (if i < d then (12 : Int32) else 0) = (if i < d + 1 then (12 : Int32) else 0)
      by_cases h : i < d
      · rw [if_pos h, if_pos (by omega)]
      · rw [if_neg h, if_neg (by omega)]
  · rw [mU_j hj]
    unfold mIni
    rw [if_neg hj, if_neg hj]
theorem mB_new {G : xG} {w0 w : xW} {o a j : Nat} {fs : List Value} {as : List (Nat × Nat)} (h : mB G w0 o fs as w) (ha : w a = none) : mB G w0 o fs ((j, a) :: as) (xu w a (20 + j, .inl (G.2 1, mlen j, .inl (fun _ => 0)))) := by
  refine ⟨xu_new h.1 ha, fun q hq => ?_, fun b k e hb hk => xu_new (h.2.2 b k e hb hk) ha⟩
  rcases List.mem_cons.mp hq with hq | hq
  · rw [hq]; exact xu_eq _ _ _
  · exact xu_new (h.2.1 q hq) ha
theorem mB_put {G : xG} {w0 w : xW} {o j : Nat} {fs : List Value} {as : List (Nat × Nat)} {v : Value} (h : mB G w0 o fs as w) : mB G w0 o (fs.set j v) as (xu w o (10, .inr (4, fs.set j v))) :=
  ⟨xu_eq _ _ _, fun q hq => xu_far (h.2.1 q hq) h.1 (by omega), fun b k e hb hk => xu_far (h.2.2 b k e hb hk) h.1 (by omega)⟩
variable {l : Launch} {G : xG}
set_option maxRecDepth 100000 in
theorem t_minit {o : Nat} {w : xW} (h : w o = some (10, .inr (4, [.null, .int 0, .null, .int 0, .int 0, .int 0, .null, .null, .null, .null, .null, .null, .null, .null, .null, .null, .null, .int 0, .null, .int 0]))) : xMet l G yX3_init cX3_init 2 none ({ frames := 1, cells := 14, slots := 24325, locals := 40 } : Room) [.ref o] w embV (fun _ w' => ∃ ad, MRep G w' o ad (mIni 5 24048) [] ∧ KpM w w') := by
  refine xMet_of (by decide) (Nat.le_of_ble_eq_true rfl) ?_
  intro p e s m below meth c Γ hnm
  refine x_weak (P' := mB G w o [.null, .int 0, .null, .int 0, .int 0, .int 0, .null, .null, .null, .null, .null, .null, .null, .null, .null, .null, .null, .int 0, .null, .int 0] []) (fun w1 h1 => by rw [h1]; exact ⟨h, fun q hq => by simp at hq, KpM.rf⟩) ?_
  refine x_aload_n Γ dX3_init_0 rfl rfl ?_
  refine x_obj Γ k_577 ⟨Nat.le_of_ble_eq_true rfl, Nat.le_of_ble_eq_true rfl⟩ dX3_init_1 ?_
  refine x_aload_n Γ dX3_init_4 rfl rfl ?_
  refine x_iconst (v := 5) Γ dX3_init_5 (by decide) ?_
  refine x_newI (F := fun a => mB G w o [.null, .int 0, .null, .int 0, .int 0, .int 0, .null, .null, .null, .null, .null, .null, .null, .null, .null, .null, .null, .int 0, .null, .int 0] ((0, a) :: [])) Γ (20 + 0) (N := 5) (by decide) (by decide) (fun w1 a h1 h2 => mB_new h1 h2) ⟨Nat.le_of_ble_eq_true rfl, Nat.le_of_ble_eq_true rfl⟩ dX3_init_6 ?_
  intro a0
  refine x_putfF (P' := mB G w o [.ref a0, .int 0, .null, .int 0, .int 0, .int 0, .null, .null, .null, .null, .null, .null, .null, .null, .null, .null, .null, .int 0, .null, .int 0] [(0, a0)]) Γ hnm kl4 0 (fun w1 h1 => ⟨_, _, h1.1, Nat.le_of_ble_eq_true rfl, mB_put h1⟩) (by decide) k_578 rfl rfl rfl rfl dX3_init_8 ?_
  refine x_aload_n Γ dX3_init_11 rfl rfl ?_
  refine x_bipush (v := 6) Γ dX3_init_12 (by decide) ?_
  refine x_putf (P' := mB G w o [.ref a0, .int 6, .null, .int 0, .int 0, .int 0, .null, .null, .null, .null, .null, .null, .null, .null, .null, .null, .null, .int 0, .null, .int 0] [(0, a0)]) Γ kl4 1 (fun w1 h1 => ⟨_, _, h1.1, Nat.le_of_ble_eq_true rfl, mB_put h1⟩) (by decide) k_579 (Or.inl rfl) rfl rfl rfl dX3_init_14 ?_
  refine x_aload_n Γ dX3_init_17 rfl rfl ?_
  refine x_bipush (v := 8) Γ dX3_init_18 (by decide) ?_
  refine x_newI (F := fun a => mB G w o [.ref a0, .int 6, .null, .int 0, .int 0, .int 0, .null, .null, .null, .null, .null, .null, .null, .null, .null, .null, .null, .int 0, .null, .int 0] ((2, a) :: [(0, a0)])) Γ (20 + 2) (N := 8) (by decide) (by decide) (fun w1 a h1 h2 => mB_new h1 h2) ⟨Nat.le_of_ble_eq_true rfl, Nat.le_of_ble_eq_true rfl⟩ dX3_init_20 ?_
  intro a2
  refine x_putfF (P' := mB G w o [.ref a0, .int 6, .ref a2, .int 0, .int 0, .int 0, .null, .null, .null, .null, .null, .null, .null, .null, .null, .null, .null, .int 0, .null, .int 0] [(2, a2), (0, a0)]) Γ hnm kl4 2 (fun w1 h1 => ⟨_, _, h1.1, Nat.le_of_ble_eq_true rfl, mB_put h1⟩) (by decide) k_580 rfl rfl rfl rfl dX3_init_22 ?_
  refine x_aload_n Γ dX3_init_25 rfl rfl ?_
  refine x_bipush (v := 24) Γ dX3_init_26 (by decide) ?_
  refine x_newI (F := fun a => mB G w o [.ref a0, .int 6, .ref a2, .int 0, .int 0, .int 0, .null, .null, .null, .null, .null, .null, .null, .null, .null, .null, .null, .int 0, .null, .int 0] ((6, a) :: [(2, a2), (0, a0)])) Γ (20 + 6) (N := 24) (by decide) (by decide) (fun w1 a h1 h2 => mB_new h1 h2) ⟨Nat.le_of_ble_eq_true rfl, Nat.le_of_ble_eq_true rfl⟩ dX3_init_28 ?_
  intro a6
  refine x_putfF (P' := mB G w o [.ref a0, .int 6, .ref a2, .int 0, .int 0, .int 0, .ref a6, .null, .null, .null, .null, .null, .null, .null, .null, .null, .null, .int 0, .null, .int 0] [(6, a6), (2, a2), (0, a0)]) Γ hnm kl4 6 (fun w1 h1 => ⟨_, _, h1.1, Nat.le_of_ble_eq_true rfl, mB_put h1⟩) (by decide) k_584 rfl rfl rfl rfl dX3_init_30 ?_
  refine x_aload_n Γ dX3_init_33 rfl rfl ?_
  refine x_bipush (v := 24) Γ dX3_init_34 (by decide) ?_
  refine x_newI (F := fun a => mB G w o [.ref a0, .int 6, .ref a2, .int 0, .int 0, .int 0, .ref a6, .null, .null, .null, .null, .null, .null, .null, .null, .null, .null, .int 0, .null, .int 0] ((7, a) :: [(6, a6), (2, a2), (0, a0)])) Γ (20 + 7) (N := 24) (by decide) (by decide) (fun w1 a h1 h2 => mB_new h1 h2) ⟨Nat.le_of_ble_eq_true rfl, Nat.le_of_ble_eq_true rfl⟩ dX3_init_36 ?_
  intro a7
  refine x_putfF (P' := mB G w o [.ref a0, .int 6, .ref a2, .int 0, .int 0, .int 0, .ref a6, .ref a7, .null, .null, .null, .null, .null, .null, .null, .null, .null, .int 0, .null, .int 0] [(7, a7), (6, a6), (2, a2), (0, a0)]) Γ hnm kl4 7 (fun w1 h1 => ⟨_, _, h1.1, Nat.le_of_ble_eq_true rfl, mB_put h1⟩) (by decide) k_585 rfl rfl rfl rfl dX3_init_38 ?_
  refine x_aload_n Γ dX3_init_41 rfl rfl ?_
  refine x_bipush (v := 24) Γ dX3_init_42 (by decide) ?_
  refine x_newI (F := fun a => mB G w o [.ref a0, .int 6, .ref a2, .int 0, .int 0, .int 0, .ref a6, .ref a7, .null, .null, .null, .null, .null, .null, .null, .null, .null, .int 0, .null, .int 0] ((8, a) :: [(7, a7), (6, a6), (2, a2), (0, a0)])) Γ (20 + 8) (N := 24) (by decide) (by decide) (fun w1 a h1 h2 => mB_new h1 h2) ⟨Nat.le_of_ble_eq_true rfl, Nat.le_of_ble_eq_true rfl⟩ dX3_init_44 ?_
  intro a8
  refine x_putfF (P' := mB G w o [.ref a0, .int 6, .ref a2, .int 0, .int 0, .int 0, .ref a6, .ref a7, .ref a8, .null, .null, .null, .null, .null, .null, .null, .null, .int 0, .null, .int 0] [(8, a8), (7, a7), (6, a6), (2, a2), (0, a0)]) Γ hnm kl4 8 (fun w1 h1 => ⟨_, _, h1.1, Nat.le_of_ble_eq_true rfl, mB_put h1⟩) (by decide) k_586 rfl rfl rfl rfl dX3_init_46 ?_
  refine x_aload_n Γ dX3_init_49 rfl rfl ?_
  refine x_bipush (v := 24) Γ dX3_init_50 (by decide) ?_
  refine x_newI (F := fun a => mB G w o [.ref a0, .int 6, .ref a2, .int 0, .int 0, .int 0, .ref a6, .ref a7, .ref a8, .null, .null, .null, .null, .null, .null, .null, .null, .int 0, .null, .int 0] ((9, a) :: [(8, a8), (7, a7), (6, a6), (2, a2), (0, a0)])) Γ (20 + 9) (N := 24) (by decide) (by decide) (fun w1 a h1 h2 => mB_new h1 h2) ⟨Nat.le_of_ble_eq_true rfl, Nat.le_of_ble_eq_true rfl⟩ dX3_init_52 ?_
  intro a9
  refine x_putfF (P' := mB G w o [.ref a0, .int 6, .ref a2, .int 0, .int 0, .int 0, .ref a6, .ref a7, .ref a8, .ref a9, .null, .null, .null, .null, .null, .null, .null, .int 0, .null, .int 0] [(9, a9), (8, a8), (7, a7), (6, a6), (2, a2), (0, a0)]) Γ hnm kl4 9 (fun w1 h1 => ⟨_, _, h1.1, Nat.le_of_ble_eq_true rfl, mB_put h1⟩) (by decide) k_587 rfl rfl rfl rfl dX3_init_54 ?_
  refine x_aload_n Γ dX3_init_57 rfl rfl ?_
  refine x_bipush (v := 24) Γ dX3_init_58 (by decide) ?_
  refine x_newI (F := fun a => mB G w o [.ref a0, .int 6, .ref a2, .int 0, .int 0, .int 0, .ref a6, .ref a7, .ref a8, .ref a9, .null, .null, .null, .null, .null, .null, .null, .int 0, .null, .int 0] ((10, a) :: [(9, a9), (8, a8), (7, a7), (6, a6), (2, a2), (0, a0)])) Γ (20 + 10) (N := 24) (by decide) (by decide) (fun w1 a h1 h2 => mB_new h1 h2) ⟨Nat.le_of_ble_eq_true rfl, Nat.le_of_ble_eq_true rfl⟩ dX3_init_60 ?_
  intro a10
  refine x_putfF (P' := mB G w o [.ref a0, .int 6, .ref a2, .int 0, .int 0, .int 0, .ref a6, .ref a7, .ref a8, .ref a9, .ref a10, .null, .null, .null, .null, .null, .null, .int 0, .null, .int 0] [(10, a10), (9, a9), (8, a8), (7, a7), (6, a6), (2, a2), (0, a0)]) Γ hnm kl4 10 (fun w1 h1 => ⟨_, _, h1.1, Nat.le_of_ble_eq_true rfl, mB_put h1⟩) (by decide) k_588 rfl rfl rfl rfl dX3_init_62 ?_
  refine x_aload_n Γ dX3_init_65 rfl rfl ?_
  refine x_bipush (v := 24) Γ dX3_init_66 (by decide) ?_
  refine x_newI (F := fun a => mB G w o [.ref a0, .int 6, .ref a2, .int 0, .int 0, .int 0, .ref a6, .ref a7, .ref a8, .ref a9, .ref a10, .null, .null, .null, .null, .null, .null, .int 0, .null, .int 0] ((11, a) :: [(10, a10), (9, a9), (8, a8), (7, a7), (6, a6), (2, a2), (0, a0)])) Γ (20 + 11) (N := 24) (by decide) (by decide) (fun w1 a h1 h2 => mB_new h1 h2) ⟨Nat.le_of_ble_eq_true rfl, Nat.le_of_ble_eq_true rfl⟩ dX3_init_68 ?_
  intro a11
  refine x_putfF (P' := mB G w o [.ref a0, .int 6, .ref a2, .int 0, .int 0, .int 0, .ref a6, .ref a7, .ref a8, .ref a9, .ref a10, .ref a11, .null, .null, .null, .null, .null, .int 0, .null, .int 0] [(11, a11), (10, a10), (9, a9), (8, a8), (7, a7), (6, a6), (2, a2), (0, a0)]) Γ hnm kl4 11 (fun w1 h1 => ⟨_, _, h1.1, Nat.le_of_ble_eq_true rfl, mB_put h1⟩) (by decide) k_589 rfl rfl rfl rfl dX3_init_70 ?_
  refine x_aload_n Γ dX3_init_73 rfl rfl ?_
  refine x_bipush (v := 24) Γ dX3_init_74 (by decide) ?_
  refine x_newI (F := fun a => mB G w o [.ref a0, .int 6, .ref a2, .int 0, .int 0, .int 0, .ref a6, .ref a7, .ref a8, .ref a9, .ref a10, .ref a11, .null, .null, .null, .null, .null, .int 0, .null, .int 0] ((12, a) :: [(11, a11), (10, a10), (9, a9), (8, a8), (7, a7), (6, a6), (2, a2), (0, a0)])) Γ (20 + 12) (N := 24) (by decide) (by decide) (fun w1 a h1 h2 => mB_new h1 h2) ⟨Nat.le_of_ble_eq_true rfl, Nat.le_of_ble_eq_true rfl⟩ dX3_init_76 ?_
  intro a12
  refine x_putfF (P' := mB G w o [.ref a0, .int 6, .ref a2, .int 0, .int 0, .int 0, .ref a6, .ref a7, .ref a8, .ref a9, .ref a10, .ref a11, .ref a12, .null, .null, .null, .null, .int 0, .null, .int 0] [(12, a12), (11, a11), (10, a10), (9, a9), (8, a8), (7, a7), (6, a6), (2, a2), (0, a0)]) Γ hnm kl4 12 (fun w1 h1 => ⟨_, _, h1.1, Nat.le_of_ble_eq_true rfl, mB_put h1⟩) (by decide) k_590 rfl rfl rfl rfl dX3_init_78 ?_
  refine x_aload_n Γ dX3_init_81 rfl rfl ?_
  refine x_bipush (v := 24) Γ dX3_init_82 (by decide) ?_
  refine x_newI (F := fun a => mB G w o [.ref a0, .int 6, .ref a2, .int 0, .int 0, .int 0, .ref a6, .ref a7, .ref a8, .ref a9, .ref a10, .ref a11, .ref a12, .null, .null, .null, .null, .int 0, .null, .int 0] ((13, a) :: [(12, a12), (11, a11), (10, a10), (9, a9), (8, a8), (7, a7), (6, a6), (2, a2), (0, a0)])) Γ (20 + 13) (N := 24) (by decide) (by decide) (fun w1 a h1 h2 => mB_new h1 h2) ⟨Nat.le_of_ble_eq_true rfl, Nat.le_of_ble_eq_true rfl⟩ dX3_init_84 ?_
  intro a13
  refine x_putfF (P' := mB G w o [.ref a0, .int 6, .ref a2, .int 0, .int 0, .int 0, .ref a6, .ref a7, .ref a8, .ref a9, .ref a10, .ref a11, .ref a12, .ref a13, .null, .null, .null, .int 0, .null, .int 0] [(13, a13), (12, a12), (11, a11), (10, a10), (9, a9), (8, a8), (7, a7), (6, a6), (2, a2), (0, a0)]) Γ hnm kl4 13 (fun w1 h1 => ⟨_, _, h1.1, Nat.le_of_ble_eq_true rfl, mB_put h1⟩) (by decide) k_591 rfl rfl rfl rfl dX3_init_86 ?_
  refine x_aload_n Γ dX3_init_89 rfl rfl ?_
  refine x_bipush (v := 24) Γ dX3_init_90 (by decide) ?_
  refine x_newI (F := fun a => mB G w o [.ref a0, .int 6, .ref a2, .int 0, .int 0, .int 0, .ref a6, .ref a7, .ref a8, .ref a9, .ref a10, .ref a11, .ref a12, .ref a13, .null, .null, .null, .int 0, .null, .int 0] ((14, a) :: [(13, a13), (12, a12), (11, a11), (10, a10), (9, a9), (8, a8), (7, a7), (6, a6), (2, a2), (0, a0)])) Γ (20 + 14) (N := 24) (by decide) (by decide) (fun w1 a h1 h2 => mB_new h1 h2) ⟨Nat.le_of_ble_eq_true rfl, Nat.le_of_ble_eq_true rfl⟩ dX3_init_92 ?_
  intro a14
  refine x_putfF (P' := mB G w o [.ref a0, .int 6, .ref a2, .int 0, .int 0, .int 0, .ref a6, .ref a7, .ref a8, .ref a9, .ref a10, .ref a11, .ref a12, .ref a13, .ref a14, .null, .null, .int 0, .null, .int 0] [(14, a14), (13, a13), (12, a12), (11, a11), (10, a10), (9, a9), (8, a8), (7, a7), (6, a6), (2, a2), (0, a0)]) Γ hnm kl4 14 (fun w1 h1 => ⟨_, _, h1.1, Nat.le_of_ble_eq_true rfl, mB_put h1⟩) (by decide) k_592 rfl rfl rfl rfl dX3_init_94 ?_
  refine x_aload_n Γ dX3_init_97 rfl rfl ?_
  refine x_bipush (v := 24) Γ dX3_init_98 (by decide) ?_
  refine x_newI (F := fun a => mB G w o [.ref a0, .int 6, .ref a2, .int 0, .int 0, .int 0, .ref a6, .ref a7, .ref a8, .ref a9, .ref a10, .ref a11, .ref a12, .ref a13, .ref a14, .null, .null, .int 0, .null, .int 0] ((15, a) :: [(14, a14), (13, a13), (12, a12), (11, a11), (10, a10), (9, a9), (8, a8), (7, a7), (6, a6), (2, a2), (0, a0)])) Γ (20 + 15) (N := 24) (by decide) (by decide) (fun w1 a h1 h2 => mB_new h1 h2) ⟨Nat.le_of_ble_eq_true rfl, Nat.le_of_ble_eq_true rfl⟩ dX3_init_100 ?_
  intro a15
  refine x_putfF (P' := mB G w o [.ref a0, .int 6, .ref a2, .int 0, .int 0, .int 0, .ref a6, .ref a7, .ref a8, .ref a9, .ref a10, .ref a11, .ref a12, .ref a13, .ref a14, .ref a15, .null, .int 0, .null, .int 0] [(15, a15), (14, a14), (13, a13), (12, a12), (11, a11), (10, a10), (9, a9), (8, a8), (7, a7), (6, a6), (2, a2), (0, a0)]) Γ hnm kl4 15 (fun w1 h1 => ⟨_, _, h1.1, Nat.le_of_ble_eq_true rfl, mB_put h1⟩) (by decide) k_593 rfl rfl rfl rfl dX3_init_102 ?_
  refine x_aload_n Γ dX3_init_105 rfl rfl ?_
  refine x_bipush (v := 24) Γ dX3_init_106 (by decide) ?_
  refine x_newI (F := fun a => mB G w o [.ref a0, .int 6, .ref a2, .int 0, .int 0, .int 0, .ref a6, .ref a7, .ref a8, .ref a9, .ref a10, .ref a11, .ref a12, .ref a13, .ref a14, .ref a15, .null, .int 0, .null, .int 0] ((16, a) :: [(15, a15), (14, a14), (13, a13), (12, a12), (11, a11), (10, a10), (9, a9), (8, a8), (7, a7), (6, a6), (2, a2), (0, a0)])) Γ (20 + 16) (N := 24) (by decide) (by decide) (fun w1 a h1 h2 => mB_new h1 h2) ⟨Nat.le_of_ble_eq_true rfl, Nat.le_of_ble_eq_true rfl⟩ dX3_init_108 ?_
  intro a16
  refine x_putfF (P' := mB G w o [.ref a0, .int 6, .ref a2, .int 0, .int 0, .int 0, .ref a6, .ref a7, .ref a8, .ref a9, .ref a10, .ref a11, .ref a12, .ref a13, .ref a14, .ref a15, .ref a16, .int 0, .null, .int 0] [(16, a16), (15, a15), (14, a14), (13, a13), (12, a12), (11, a11), (10, a10), (9, a9), (8, a8), (7, a7), (6, a6), (2, a2), (0, a0)]) Γ hnm kl4 16 (fun w1 h1 => ⟨_, _, h1.1, Nat.le_of_ble_eq_true rfl, mB_put h1⟩) (by decide) k_594 rfl rfl rfl rfl dX3_init_110 ?_
  refine x_aload_n Γ dX3_init_113 rfl rfl ?_
  refine x_sipush (v := 24048) Γ dX3_init_114 (by decide) ?_
  refine x_newI (F := fun a => mB G w o [.ref a0, .int 6, .ref a2, .int 0, .int 0, .int 0, .ref a6, .ref a7, .ref a8, .ref a9, .ref a10, .ref a11, .ref a12, .ref a13, .ref a14, .ref a15, .ref a16, .int 0, .null, .int 0] ((18, a) :: [(16, a16), (15, a15), (14, a14), (13, a13), (12, a12), (11, a11), (10, a10), (9, a9), (8, a8), (7, a7), (6, a6), (2, a2), (0, a0)])) Γ (20 + 18) (N := 24048) (by decide) (by decide) (fun w1 a h1 h2 => mB_new h1 h2) ⟨Nat.le_of_ble_eq_true rfl, Nat.le_of_ble_eq_true rfl⟩ dX3_init_117 ?_
  intro a18
  refine x_putfF (P' := mB G w o [.ref a0, .int 6, .ref a2, .int 0, .int 0, .int 0, .ref a6, .ref a7, .ref a8, .ref a9, .ref a10, .ref a11, .ref a12, .ref a13, .ref a14, .ref a15, .ref a16, .int 0, .ref a18, .int 0] [(18, a18), (16, a16), (15, a15), (14, a14), (13, a13), (12, a12), (11, a11), (10, a10), (9, a9), (8, a8), (7, a7), (6, a6), (2, a2), (0, a0)]) Γ hnm kl4 18 (fun w1 h1 => ⟨_, _, h1.1, Nat.le_of_ble_eq_true rfl, mB_put h1⟩) (by decide) k_596 rfl rfl rfl rfl dX3_init_119 ?_
  have hm : ∀ w1, mB G w o [.ref a0, .int 6, .ref a2, .int 0, .int 0, .int 0, .ref a6, .ref a7, .ref a8, .ref a9, .ref a10, .ref a11, .ref a12, .ref a13, .ref a14, .ref a15, .ref a16, .int 0, .ref a18, .int 0] [(18, a18), (16, a16), (15, a15), (14, a14), (13, a13), (12, a12), (11, a11), (10, a10), (9, a9), (8, a8), (7, a7), (6, a6), (2, a2), (0, a0)] w1 → mP G o (fun j => if j = 0 then a0 else if j = 2 then a2 else if j = 6 then a6 else if j = 7 then a7 else if j = 8 then a8 else if j = 9 then a9 else if j = 10 then a10 else if j = 11 then a11 else if j = 12 then a12 else if j = 13 then a13 else if j = 14 then a14 else if j = 15 then a15 else if j = 16 then a16 else if j = 18 then a18 else 0) (mIni 0 0) [] w w1 := by
    intro w1 h1
    obtain ⟨h1, h2, h3⟩ := h1
    refine ⟨⟨mIni 0 0, ⟨h1, fun j hj => ?_⟩, fun j _ _ => rfl, rfl, fun i t hi => by simp at hi⟩, h3⟩
    have hjs : j = 0 ∨ j = 2 ∨ j = 6 ∨ j = 7 ∨ j = 8 ∨ j = 9 ∨ j = 10 ∨ j = 11 ∨ j = 12 ∨ j = 13 ∨ j = 14 ∨ j = 15 ∨ j = 16 ∨ j = 18 := by
      simp only [mArr, Bool.or_eq_true, Bool.and_eq_true, beq_iff_eq, Nat.ble_eq] at hj
      omega
    rcases hjs with rfl | rfl | rfl | rfl | rfl | rfl | rfl | rfl | rfl | rfl | rfl | rfl | rfl | rfl
    · have h9 := h2 (0, a0) (by simp)
      exact h9
    · have h9 := h2 (2, a2) (by simp)
      exact h9
    · have h9 := h2 (6, a6) (by simp)
      exact h9
    · have h9 := h2 (7, a7) (by simp)
      exact h9
    · have h9 := h2 (8, a8) (by simp)
      exact h9
    · have h9 := h2 (9, a9) (by simp)
      exact h9
    · have h9 := h2 (10, a10) (by simp)
      exact h9
    · have h9 := h2 (11, a11) (by simp)
      exact h9
    · have h9 := h2 (12, a12) (by simp)
      exact h9
    · have h9 := h2 (13, a13) (by simp)
      exact h9
    · have h9 := h2 (14, a14) (by simp)
      exact h9
    · have h9 := h2 (15, a15) (by simp)
      exact h9
    · have h9 := h2 (16, a16) (by simp)
      exact h9
    · have h9 := h2 (18, a18) (by simp)
      exact h9
  refine x_weak (P' := mP G o (fun j => if j = 0 then a0 else if j = 2 then a2 else if j = 6 then a6 else if j = 7 then a7 else if j = 8 then a8 else if j = 9 then a9 else if j = 10 then a10 else if j = 11 then a11 else if j = 12 then a12 else if j = 13 then a13 else if j = 14 then a14 else if j = 15 then a15 else if j = 16 then a16 else if j = 18 then a18 else 0) (mIni 0 0) [] w) hm ?_
  refine x_lv [0] rfl ?_
  have lpd : ∀ d2 t, t + d2 = 24048 → xJ p l e ({ frames := 1, cells := 14, slots := 24325, locals := 40 } : Room) s m ([.ref o] : List Value).toArray below meth c G 2 (MQ below (xQ G embV (fun _ w' => ∃ ad, MRep G w' o ad (mIni 5 24048) [] ∧ KpM w w')) ([.ref o] : List Value).toArray s ({ frames := 1, cells := 14, slots := 24325, locals := 40 } : Room).cells ({ frames := 1, cells := 14, slots := 24325, locals := 40 } : Room).slots (xA G)) (mP G o (fun j => if j = 0 then a0 else if j = 2 then a2 else if j = 6 then a6 else if j = 7 then a7 else if j = 8 then a8 else if j = 9 then a9 else if j = 10 then a10 else if j = 11 then a11 else if j = 12 then a12 else if j = 13 then a13 else if j = 14 then a14 else if j = 15 then a15 else if j = 16 then a16 else if j = 18 then a18 else 0) (mIni 5 t) [] w) 14 24325 145 [(0, .ref o), (1, .int (nI t))] [] := by
    intro d2
    induction d2 with
    | zero =>
      intro t ht2
      refine x_iload_n Γ dX3_init_145 rfl rfl ?_
      refine x_sipush (v := 24048) Γ dX3_init_146 (by decide) ?_
      refine x_icmp_ge (tgt := 166) Γ dX3_init_149 (by decide) (fun c149 => ?_) (fun c149 => absurd (nI_le (a := 24048) (by omega) (by omega)) c149)
      refine x_vret Γ rfl (fun w2 e2 => ?_) ⟨Nat.le_of_ble_eq_true rfl, Nat.le_of_ble_eq_true rfl⟩ dX3_init_166
      have h9 := e2.1
      rw [show t = 24048 by omega] at h9
      exact ⟨_, h9, e2.2⟩
    | succ d2 ih =>
      intro t ht2
      refine x_iload_n Γ dX3_init_145 rfl rfl ?_
      refine x_sipush (v := 24048) Γ dX3_init_146 (by decide) ?_
      refine x_icmp_ge (tgt := 166) Γ dX3_init_149 (by decide) (fun c149 => absurd c149 (nI_ge (b := 24048) (by omega) (by omega))) (fun c149 => ?_)
      refine x_aload_n Γ dX3_init_152 rfl rfl ?_
      refine m_geta Γ 18 (by decide) (fun _ => rfl) k_596 rfl dX3_init_153 ?_
      refine x_iload_n Γ dX3_init_156 rfl rfl ?_
      refine x_bipush (v := 12) Γ dX3_init_157 (by decide) ?_
      refine m_ast Γ rfl rfl (by decide) (by show t < 24048; omega) dX3_init_159 ?_
      rw [mIni_d]
      refine x_iinc (v := _ + 1) Γ dX3_init_160 rfl rfl rfl (by decide) ?_
      rw [nI_1]
      refine x_goto (tgt := 145) Γ dX3_init_163 (by decide) ?_
      refine x_lv [0, 1] rfl ?_
      exact ih (t + 1) (by omega)
  have lpc : ∀ d2 t, t + d2 = 5 → xJ p l e ({ frames := 1, cells := 14, slots := 24325, locals := 40 } : Room) s m ([.ref o] : List Value).toArray below meth c G 2 (MQ below (xQ G embV (fun _ w' => ∃ ad, MRep G w' o ad (mIni 5 24048) [] ∧ KpM w w')) ([.ref o] : List Value).toArray s ({ frames := 1, cells := 14, slots := 24325, locals := 40 } : Room).cells ({ frames := 1, cells := 14, slots := 24325, locals := 40 } : Room).slots (xA G)) (mP G o (fun j => if j = 0 then a0 else if j = 2 then a2 else if j = 6 then a6 else if j = 7 then a7 else if j = 8 then a8 else if j = 9 then a9 else if j = 10 then a10 else if j = 11 then a11 else if j = 12 then a12 else if j = 13 then a13 else if j = 14 then a14 else if j = 15 then a15 else if j = 16 then a16 else if j = 18 then a18 else 0) (mIni t 0) [] w) 14 24325 124 [(0, .ref o), (1, .int (nI t))] [] := by
    intro d2
    induction d2 with
    | zero =>
      intro t ht2
      refine x_iload_n Γ dX3_init_124 rfl rfl ?_
      refine x_iconst (v := 5) Γ dX3_init_125 (by decide) ?_
      refine x_icmp_ge (tgt := 143) Γ dX3_init_126 (by decide) (fun c126 => ?_) (fun c126 => absurd (nI_le (a := 5) (by omega) (by omega)) c126)
      have ht5 : t = 5 := by omega
      subst ht5
      refine x_iconst (v := 0) Γ dX3_init_143 (by decide) ?_
      refine x_istore_n Γ dX3_init_144 rfl rfl (by decide) ?_
      refine x_lv [0, 1] rfl ?_
      exact lpd 24048 0 (by omega)
    | succ d2 ih =>
      intro t ht2
      refine x_iload_n Γ dX3_init_124 rfl rfl ?_
      refine x_iconst (v := 5) Γ dX3_init_125 (by decide) ?_
      refine x_icmp_ge (tgt := 143) Γ dX3_init_126 (by decide) (fun c126 => absurd c126 (nI_ge (b := 5) (by omega) (by omega))) (fun c126 => ?_)
      refine x_aload_n Γ dX3_init_129 rfl rfl ?_
      refine m_geta Γ 0 (by decide) (fun _ => rfl) k_578 rfl dX3_init_130 ?_
      refine x_iload_n Γ dX3_init_133 rfl rfl ?_
      refine x_bipush (v := 10) Γ dX3_init_134 (by decide) ?_
      refine m_ast Γ rfl rfl (by decide) (by show t < 5; omega) dX3_init_136 ?_
      rw [mIni_c]
      refine x_iinc (v := _ + 1) Γ dX3_init_137 rfl rfl rfl (by decide) ?_
      rw [nI_1]
      refine x_goto (tgt := 124) Γ dX3_init_140 (by decide) ?_
      refine x_lv [0, 1] rfl ?_
      exact ih (t + 1) (by omega)
  refine x_iconst (v := 0) Γ dX3_init_122 (by decide) ?_
  refine x_istore_n Γ dX3_init_123 rfl rfl (by decide) ?_
  refine x_lv [0, 1] rfl ?_
  exact lpc 5 0 (by omega)
end XM8

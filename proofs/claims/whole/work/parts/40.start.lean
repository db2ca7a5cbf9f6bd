section XLS
theorem xStr_in : ∀ q ∈ xStr, Cond.stringRef RX2 q.1 q.2 ∈ lw_tbl := fun q hq => by
  have h1 : [183, 217, 229, 262, 417, 433, 462, 463, 471, 472, 480, 481, 497, 513, 521, 522, 562, 595, 603].map (fun i => lw_tbl[i]?) = (xStr.map (fun q => Cond.stringRef RX2 q.1 q.2)).map some := by decide +kernel
  have h2 : some (Cond.stringRef RX2 q.1 q.2) ∈ (xStr.map (fun q => Cond.stringRef RX2 q.1 q.2)).map some := List.mem_map.mpr ⟨_, List.mem_map.mpr ⟨q, hq, rfl⟩, rfl⟩
  rw [← h1] at h2
  obtain ⟨i, -, hi⟩ := List.mem_map.mp h2
  exact List.mem_of_getElem? hi
theorem xStr_one : ∀ q ∈ xStr, ∀ q' ∈ xStr, q.1 = q'.1 → q = q' := by decide +kernel
theorem xE_arr {s : State} {cA comp : ClassId} {kA : Class} {ty : FieldType} (h2 : s.vm.classes[cA]? = some kA) (h3 : kA.kind = .array comp ty) : ArrOfT s cA ty := fun n z => ⟨fun k h => (by cases h), kA, h2, comp, h3⟩
theorem xE_start {s : State} {b : Nat} (hts : ∀ w ∈ lw_tbl, w.before #[Value.ref b] s = true) (hgv : (Jvm.Cond.and given_1 narrow_1).before #[Value.ref b] s = true) : ∃ G : xG, G.2 0 = s.heap.size ∧ xE G s s.heap := by
  have h0 : ∀ w ∈ xAll, w.before #[Value.ref b] s = true := fun w hw => hts w (List.mem_filter.mp hw).1
  have hs := flat_of_before _ hgv
  obtain ⟨c0, i0, hK0⟩ := u_known (n := 3) h0 kl0.2.1 (h0 _ k_29)
  obtain ⟨c1, i1, hK1⟩ := u_known (n := 3) h0 kl1.2.1 (h0 _ k_243)
  obtain ⟨c2, i2, hK2⟩ := u_known (n := 12) h0 kl2.2.1 (h0 _ k_237)
  obtain ⟨c3, i3, hK3⟩ := u_known (n := 7) h0 kl3.2.1 (h0 _ k_21)
  obtain ⟨c4, i4, hK4⟩ := u_known (n := 20) h0 kl4.2.1 (h0 _ k_573)
  obtain ⟨g1, kg1, cg1, e1, e2, e3⟩ := Cond.arrayClass_spec (hts (.arrayClass .int) (List.mem_of_getElem? (i := 86) (by decide +kernel)))
  obtain ⟨g2, kg2, cg2, e4, e5, e6⟩ := Cond.arrayClass_spec (hts (.arrayClass .long) (List.mem_of_getElem? (i := 793) (by decide +kernel)))
  have hAO := hts (.arrayOver (.object "java/lang/Object")) (List.mem_of_getElem? (i := 386) (by decide +kernel))
  obtain ⟨cg3, g3, kg3, e7, -, e8, e9, e10⟩ := Cond.arrayOver_spec hAO
  have hA : ∀ a : Nat, a < s.heap.size → ¬ (fun q : Nat => s.heap.size ≤ q) a := fun a h => Nat.not_le.mpr h
  obtain ⟨t4, ht4, hT4⟩ := va_Tof (f := fun _ => .null) (N := 0) (ty := .object "java/lang/Object") (tm := .static "java/util/ArrayList" "DEFAULTCAPACITY_EMPTY_ELEMENTDATA" "[Ljava/lang/Object;") (A := fun q : Nat => s.heap.size ≤ q) (by decide) (hs _ (by decide +kernel)) (va_eqt (hs (.eq (.length (.static "java/util/ArrayList" "DEFAULTCAPACITY_EMPTY_ELEMENTDATA" "[Ljava/lang/Object;")) (.int 0)) (by decide +kernel))) (fun j hj => absurd hj (Nat.not_lt_zero j)) hA
  obtain ⟨m5, hm5⟩ := va_Mi.of (C := "[Ljava/lang/Object;") (hs (.isRef (.mirror "[Ljava/lang/Object;")) (by decide +kernel))
  have hstr : ∀ k : Nat, ∃ a, ∀ q ∈ xStr, q.1 = k → vk_R RX2 q.1 q.2 a s := by
    intro k
    by_cases hk : ∃ q, q ∈ xStr ∧ q.1 = k
    · obtain ⟨q, hq, hqk⟩ := hk
      have hw := hts _ (xStr_in q hq)
      have hw0 : (Cond.stringRef RX2 q.1 q.2).before #[] s = true := hw
      obtain ⟨-, -, -, a, -, -, -, -, -, he⟩ := Cond.stringRef_spec (cls := RX2) hK3.2.1 hw0
      refine ⟨a, fun q' hq' hk' => ?_⟩
      have : q' = q := xStr_one q' hq' q hq (hk'.trans hqk.symm)
      subst this
      exact ⟨hw0, he⟩
    · exact ⟨0, fun q hq hqk => absurd ⟨q, hq, hqk⟩ hk⟩
  obtain ⟨fs, hfs⟩ := Classical.axiomOfChoice hstr
  refine ⟨((fun k => if k = 0 then c0 else if k = 1 then c1 else if k = 2 then c2 else if k = 3 then c3 else c4, fun k => if k = 0 then i0 else if k = 1 then i1 else if k = 2 then i2 else if k = 3 then i3 else i4), fun k => if k = 0 then s.heap.size else if k = 1 then g1 else if k = 2 then g2 else if k = 3 then g3 else if k = 4 then t4 else if k = 5 then m5 else fs (k - 1000)), rfl, ?_⟩
  refine ⟨⟨fun k q hq => ?_, fun k q hq => ?_⟩, fun w hw => va_Nw.of (xAll_tb hw) (h0 w hw), hts (.arrayClass .int) (List.mem_of_getElem? (i := 86) (by decide +kernel)), hts (.arrayClass .long) (List.mem_of_getElem? (i := 793) (by decide +kernel)), va_AO.of hAO, ?_, ?_, ?_, hT4, fun q hq => ?_, hm5, fun q hq => ?_⟩
  · match k, hq with
    | 0, hq => cases hq; exact hK0
    | 1, hq => cases hq; exact hK1
    | 2, hq => cases hq; exact hK2
    | 3, hq => cases hq; exact hK3
    | 4, hq => cases hq; exact hK4
    | k + 5, hq => simp at hq
  · match k, hq with
    | 0, hq => cases hq; exact ⟨xE_arr e2 e3, e1⟩
    | 1, hq => cases hq; exact ⟨xE_arr e5 e6, e4⟩
    | 2, hq => cases hq; exact ⟨xE_arr e8 e9, ⟨kg3, cg3, e8, e9, e7, e10⟩⟩
    | k + 3, hq => simp at hq
  · exact vx_Zqof (hts (.laysStatic "java/lang/Throwable" "UNASSIGNED_STACK" "[Ljava/lang/StackTraceElement;") (List.mem_of_getElem? (i := 169) (by decide +kernel))) (hts (.initialized "java/lang/Throwable") (List.mem_of_getElem? (i := 39) (by decide +kernel))) (hs (.isRef (.static "java/lang/Throwable" "UNASSIGNED_STACK" "[Ljava/lang/StackTraceElement;")) (by decide +kernel)) hA
  · exact vx_Zqof (hts (.laysStatic "java/lang/Throwable" "SUPPRESSED_SENTINEL" "Ljava/util/List;") (List.mem_of_getElem? (i := 171) (by decide +kernel))) (hts (.initialized "java/lang/Throwable") (List.mem_of_getElem? (i := 39) (by decide +kernel))) (hs (.isRef (.static "java/lang/Throwable" "SUPPRESSED_SENTINEL" "Ljava/util/List;")) (by decide +kernel)) hA
  · exact va_Zof (hts (.laysStatic "java/util/ArrayList" "DEFAULTCAPACITY_EMPTY_ELEMENTDATA" "[Ljava/lang/Object;") (List.mem_of_getElem? (i := 73) (by decide +kernel))) (h0 _ k_4) ht4 hA
  · have h9 := hfs q.1 q hq rfl
    show vk_R RX2 q.1 q.2 (if 1000 + q.1 = 0 then _ else if 1000 + q.1 = 1 then _ else if 1000 + q.1 = 2 then _ else if 1000 + q.1 = 3 then _ else if 1000 + q.1 = 4 then _ else if 1000 + q.1 = 5 then _ else fs (1000 + q.1 - 1000)) s
    rw [if_neg (by omega), if_neg (by omega), if_neg (by omega), if_neg (by omega), if_neg (by omega), if_neg (by omega), show 1000 + q.1 - 1000 = q.1 by omega]
    exact h9
  · simp only [xNcs, List.mem_cons, List.not_mem_nil, or_false] at hq
    rcases hq with rfl | rfl | rfl | rfl | rfl | rfl
    · exact va_Nc.of (hs (.not (.castable "java/lang/IllegalArgumentException" "java/lang/IllegalStateException")) (by decide +kernel))
    · exact va_Nc.of (hs (.not (.castable "java/lang/IllegalArgumentException" "java/lang/IndexOutOfBoundsException")) (by decide +kernel))
    · exact va_Nc.of (hs (.not (.castable "java/lang/IllegalStateException" "java/lang/IllegalArgumentException")) (by decide +kernel))
    · exact va_Nc.of (hs (.not (.castable "java/lang/IllegalStateException" "java/lang/IndexOutOfBoundsException")) (by decide +kernel))
    · exact va_Nc.of (hs (.not (.castable "java/lang/IndexOutOfBoundsException" "java/lang/IllegalArgumentException")) (by decide +kernel))
    · exact va_Nc.of (hs (.not (.castable "java/lang/IndexOutOfBoundsException" "java/lang/IllegalStateException")) (by decide +kernel))
variable {p : Program} {l : Launch} {e : Env} {s : State} {m : MethodId} {args : Array Value} {below : List Frame} {meth : Method} {c : Code} {G : xG} {Q : State → Prop}
variable {b len : Nat} {xs : Nat → Int32} {o : Nat} {ad ca : Nat → Nat} {out : Nat}
theorem cmp4 {j len : Nat} (hl : len ≤ 2048) (hj : j ≤ 2048) (h : ¬ nI len - 4 < nI (4 * j)) : 4 * j + 4 ≤ len := by
  by_cases h4 : 4 ≤ len
  · rw [show nI len - 4 = nI (len - 4) from pk_sub (b := 4) h4] at h
    have := Nat.not_lt.mp (fun z => h ((nI_ltI (by omega) (by omega)).mpr z))
    omega
  · refine absurd (Int32.lt_of_lt_of_le ?_ (nI_pos' (n := 4 * j) (by omega))) h
    have : len = 0 ∨ len = 1 ∨ len = 2 ∨ len = 3 := by omega
    rcases this with rfl | rfl | rfl | rfl <;> decide
theorem sw_cases (x : Int32) : (x.toInt < 0 ∨ 19 < x.toInt) ∨ ∃ i, i < 20 ∧ x = nI i := by
  by_cases h : x.toInt < 0 ∨ 19 < x.toInt
  · exact Or.inl h
  · refine Or.inr ⟨x.toInt.toNat, by omega, Int32.toInt_inj.mp ?_⟩
    rw [nI_int (by omega)]
    omega
set_option maxRecDepth 100000 in
theorem law_loop (Γ : xC p s m meth c G cL_law 7 "LeftThingsLaw" (some .boolean)) (hfl : l.stackTraces = false) (hX : va_X b len xs s s.heap) (hbl : b < s.heap.size) (hbA : ¬ xA G b) (hl : len ≤ 2048) (hret : ∀ (P : xW → Prop) (k n : Nat) (lx : List (Nat × Value)), k ≤ 601024 → n ≤ 7293034 → xJ p l e Rm12 s m args below meth c G 7 Q P k n 1206 lx [.int 1]) : ∀ (d j : Nat) (A : xS) (n : Nat) (L : List Nat) (D : Nat) (th : Nat → Nat) (lx : List (Nat × Value)), len < 4 * j + d → j ≤ 513 → fI A n L D → xpick lx [0, 1, 2, 3, 4] = lLv b ca o out j → xJ p l e Rm12 s m args below meth c G 7 Q (LPw G o ad ca out A n L D th) (30 + 60 * j) (25000 + 400 * j) 23 lx [] := by
  intro d
  induction d with
  | zero =>
    intro j A n L D th lx hj hjl hF hlx
    refine x_lv [0, 1, 2, 3, 4] hlx ?_
    refine x_iload Γ dL_law_23 rfl ?_
    refine x_aload_n Γ dL_law_25 rfl rfl ?_
    refine x_slen Γ hX hbl hbA dL_law_26 ?_
    refine x_iconst (v := 4) Γ dL_law_27 (by decide) ?_
    refine x_isub Γ dL_law_28 ?_
    refine x_icmp_gt (tgt := 1205) Γ dL_law_29 (by decide) (fun c29 => ?_) (fun c29 => ?_)
    · refine x_iconst (v := 1) Γ dL_law_1205 (by decide) ?_
      exact hret _ _ _ _ (by omega) (by omega)
    · exact absurd (cmp4 hl (by omega) c29) (by omega)
  | succ d ih =>
    intro j A n L D th lx hj hjl hF hlx
    refine x_lv [0, 1, 2, 3, 4] hlx ?_
    refine x_iload Γ dL_law_23 rfl ?_
    refine x_aload_n Γ dL_law_25 rfl rfl ?_
    refine x_slen Γ hX hbl hbA dL_law_26 ?_
    refine x_iconst (v := 4) Γ dL_law_27 (by decide) ?_
    refine x_isub Γ dL_law_28 ?_
    refine x_icmp_gt (tgt := 1205) Γ dL_law_29 (by decide) (fun c29 => ?_) (fun c29 => ?_)
    · refine x_iconst (v := 1) Γ dL_law_1205 (by decide) ?_
      exact hret _ _ _ _ (by omega) (by omega)
    · have hj4 := cmp4 hl (by omega) c29
      have hend : lEnd p l e s m args below meth c G Q b o ad ca out j := by
        intro A n L D th lx hF hlx
        refine x_lv [0, 1, 2, 3, 4] hlx ?_
        refine x_iinc (v := _ + 4) Γ dL_law_1199 rfl rfl rfl (by decide) ?_
        rw [show nI (4 * j) + 4 = nI (4 * (j + 1)) from nI_add (4 * j) 4]
        refine x_goto (tgt := 23) Γ dL_law_1202 (by decide) ?_
        exact ih (j + 1) A n L D th _ (by omega) (by omega) hF rfl
      refine x_aload_n Γ dL_law_32 rfl rfl ?_
      refine x_iload Γ dL_law_33 rfl ?_
      refine x_sld Γ hX hbl hbA rfl (by omega) hl dL_law_35 ?_
      refine x_bipush (v := 31) Γ dL_law_36 (by decide) ?_
      refine x_iand Γ dL_law_38 ?_
      generalize xs (4 * j) &&& 31 = x
      rcases sw_cases x with hx | ⟨i, hi, rfl⟩
      · refine x_tout (tgt := 1199) Γ dL_law_39 hx (by decide) ?_
        refine x_wide (k' := 30 + 60 * (j + 1)) (n' := 25000 + 400 * (j + 1)) (by omega) (by omega) ?_
        exact hend _ _ _ _ _ _ hF rfl
      · have hi2 : i = 0 ∨ i = 1 ∨ i = 2 ∨ i = 3 ∨ i = 4 ∨ i = 5 ∨ i = 6 ∨ i = 7 ∨ i = 8 ∨ i = 9 ∨ i = 10 ∨ i = 11 ∨ i = 12 ∨ i = 13 ∨ i = 14 ∨ i = 15 ∨ i = 16 ∨ i = 17 ∨ i = 18 ∨ i = 19 := by omega
        rcases hi2 with rfl | rfl | rfl | rfl | rfl | rfl | rfl | rfl | rfl | rfl | rfl | rfl | rfl | rfl | rfl | rfl | rfl | rfl | rfl | rfl
        · refine x_tin (tgt := 132) (off := 93) Γ dL_law_39 (by decide) (by decide) (by decide) (by decide) ?_
          exact lc_setRoom Γ hfl hX hbl hbA hl hj4 hF hend
        · refine x_tin (tgt := 200) (off := 161) Γ dL_law_39 (by decide) (by decide) (by decide) (by decide) ?_
          exact lc_setVan Γ hfl hX hbl hbA hl hj4 hF hend
        · refine x_tin (tgt := 256) (off := 217) Γ dL_law_39 (by decide) (by decide) (by decide) (by decide) ?_
          exact lc_leave Γ hfl hX hbl hbA hl hj4 hF hend
        · refine x_tin (tgt := 336) (off := 297) Γ dL_law_39 (by decide) (by decide) (by decide) (by decide) ?_
          exact lc_fetch Γ hfl hX hbl hbA hl hj4 hF hend
        · refine x_tin (tgt := 392) (off := 353) Γ dL_law_39 (by decide) (by decide) (by decide) (by decide) ?_
          exact lc_want Γ hfl hX hbl hbA hl hj4 hF hend
        · refine x_tin (tgt := 460) (off := 421) Γ dL_law_39 (by decide) (by decide) (by decide) (by decide) ?_
          exact lc_value Γ hfl hX hbl hbA hl hj4 hF hend
        · refine x_tin (tgt := 528) (off := 489) Γ dL_law_39 (by decide) (by decide) (by decide) (by decide) ?_
          exact lc_lend Γ hfl hX hbl hbA hl hj4 hF hend
        · refine x_tin (tgt := 588) (off := 549) Γ dL_law_39 (by decide) (by decide) (by decide) (by decide) ?_
          exact lc_repay Γ hfl hX hbl hbA hl hj4 hF hend
        · refine x_tin (tgt := 644) (off := 605) Γ dL_law_39 (by decide) (by decide) (by decide) (by decide) ?_
          exact lc_doubt Γ hfl hX hbl hbA hl hj4 hF hend
        · refine x_tin (tgt := 700) (off := 661) Γ dL_law_39 (by decide) (by decide) (by decide) (by decide) ?_
          exact lc_pass Γ hfl hX hbl hbA hl hj4 hF hend
        · refine x_tin (tgt := 756) (off := 717) Γ dL_law_39 (by decide) (by decide) (by decide) (by decide) ?_
          exact lc_day Γ hfl hX hbl hbA hl hj4 hF hend
        · refine x_tin (tgt := 769) (off := 730) Γ dL_law_39 (by decide) (by decide) (by decide) (by decide) ?_
          exact lc_things Γ hfl hX hbl hbA hl hj4 hF hend
        · refine x_tin (tgt := 782) (off := 743) Γ dL_law_39 (by decide) (by decide) (by decide) (by decide) ?_
          exact lc_where Γ hfl hX hbl hbA hl hj4 hF hend
        · refine x_tin (tgt := 838) (off := 799) Γ dL_law_39 (by decide) (by decide) (by decide) (by decide) ?_
          exact lc_whereOn Γ hfl hX hbl hbA hl hj4 hF hend
        · refine x_tin (tgt := 906) (off := 867) Γ dL_law_39 (by decide) (by decide) (by decide) (by decide) ?_
          exact lc_load Γ hfl hX hbl hbA hl hj4 hF hend
        · refine x_tin (tgt := 962) (off := 923) Γ dL_law_39 (by decide) (by decide) (by decide) (by decide) ?_
          exact lc_fees Γ hfl hX hbl hbA hl hj4 hF hend
        · refine x_tin (tgt := 1018) (off := 979) Γ dL_law_39 (by decide) (by decide) (by decide) (by decide) ?_
          exact lc_loan Γ hfl hX hbl hbA hl hj4 hF hend
        · refine x_tin (tgt := 1074) (off := 1035) Γ dL_law_39 (by decide) (by decide) (by decide) (by decide) ?_
          exact lc_purse Γ hfl hX hbl hbA hl hj4 hF hend
        · refine x_tin (tgt := 1130) (off := 1091) Γ dL_law_39 (by decide) (by decide) (by decide) (by decide) ?_
          exact lc_taken Γ hfl hX hbl hbA hl hj4 hF hend
        · refine x_tin (tgt := 1143) (off := 1104) Γ dL_law_39 (by decide) (by decide) (by decide) (by decide) ?_
          exact lc_wish Γ hfl hX hbl hbA hl hj4 hF hend
theorem fI_0 : fI (mIni 5 24048) 0 [] 0 := by
  refine ⟨⟨⟨rfl, Nat.zero_le _, ⟨0, Nat.zero_le _, rfl⟩, fun t _ => ⟨0, by omega, rfl⟩, fun t _ => ⟨0, by omega, rfl⟩⟩, ⟨Nat.le_refl _, List.nodup_nil, fun q hq => by cases hq⟩, fun t ht => absurd ht (Nat.not_lt_zero t), fun t ht => absurd ht (Nat.not_lt_zero t), fun t ht => (by cases ht), fun t ht => absurd ht (Nat.not_lt_zero t), fun t ht => absurd ht (Nat.not_lt_zero t), fun t ht => absurd ht (Nat.not_lt_zero t), fun t _ ht => ⟨rfl, rfl, fun d hd => ?_⟩⟩, fun t ht => absurd ht (Nat.not_lt_zero t), rfl, Nat.zero_le _⟩
  show (if 24 * d + t < 24048 then (12 : Int32) else 0) = 12
  rw [if_pos (by omega)]
set_option maxRecDepth 100000 in
theorem law_start (Γ : xC p s m meth c G cL_law 7 "LeftThingsLaw" (some .boolean)) (hfl : l.stackTraces = false) (hX : va_X b len xs s s.heap) (hbl : b < s.heap.size) (hbA : ¬ xA G b) (hl : len ≤ 2048) (hret : ∀ (P : xW → Prop) (k n : Nat) (lx : List (Nat × Value)), k ≤ 601024 → n ≤ 7293034 → xJ p l e Rm12 s m #[Value.ref b] below meth c G 7 Q P k n 1206 lx [.int 1]) : xJ p l e Rm12 s m #[Value.ref b] below meth c G 7 Q (fun w => w = fun _ => none) 0 0 0 [(0, .ref b)] [] := by
  refine x_new (F := fun a w2 => w2 a = some (100, .inr (3, [.null, .null, .null, .null, .int 0, .int 0, .int 0]))) Γ kl3 [.null, .null, .null, .null, .int 0, .int 0, .int 0] 100 (by decide) k_20 k_21 k_1 (fun w1 a h1 h2 => xu_eq _ _ _) ⟨Nat.le_of_ble_eq_true rfl, Nat.le_of_ble_eq_true rfl⟩ dL_law_0 ?_
  intro a1
  refine x_dup Γ dL_law_3 rfl ?_
  refine x_invI (rm := ({ frames := 4, cells := 4, slots := 19, locals := 80 } : Room)) Γ [] (fun w1 _ w2 => ∃ ca th, ca 0 = a1 ∧ CRaw G w2 ca th (mIni 5 24048) 0 [] (fun _ => []) ∧ KpX w1 w2) rfl (fun w1 h1 => t_cinit h1) rfl k_24 k_1 k_22 k_23 hd_X2_init ⟨Nat.le_of_ble_eq_true rfl, Nat.le_of_ble_eq_true rfl⟩ ⟨Nat.le_of_ble_eq_true rfl, Nat.le_of_ble_eq_true rfl⟩ (Nat.le_of_ble_eq_true rfl) dL_law_4 (fun _ => ?_)
  refine x_weak (P' := fun w2 => ∃ ca, ∃ th, ca 0 = a1 ∧ CRaw G w2 ca th (cB (mIni 5 24048)) 0 [] (fun _ => [])) (fun w2 h2 => by obtain ⟨w1, h1, ca, th, h3, h4, -⟩ := h2; exact ⟨ca, th, h3, h4.congr ⟨rfl, rfl, ⟨rfl, rfl, rfl⟩, fun t ht => absurd ht (Nat.not_lt_zero t)⟩⟩) ?_
  refine x_any (F := fun (ca : Nat → Nat) w2 => ∃ th, ca 0 = a1 ∧ CRaw G w2 ca th (cB (mIni 5 24048)) 0 [] (fun _ => [])) (fun ca => ?_)
  refine x_any (F := fun (th : Nat → Nat) w2 => ca 0 = a1 ∧ CRaw G w2 ca th (cB (mIni 5 24048)) 0 [] (fun _ => [])) (fun th => ?_)
  refine x_then (P2 := fun w2 => CRaw G w2 ca th (cB (mIni 5 24048)) 0 [] (fun _ => [])) (φ := ca 0 = a1) (fun w2 h2 => h2) (fun e1 => ?_)
  subst e1
  refine x_astore_n Γ dL_law_7 rfl rfl (by decide) ?_
  refine x_new (F := fun o w2 => CRaw G w2 ca th (cB (mIni 5 24048)) 0 [] (fun _ => []) ∧ w2 o = some (10, .inr (4, [.null, .int 0, .null, .int 0, .int 0, .int 0, .null, .null, .null, .null, .null, .null, .null, .null, .null, .null, .null, .int 0, .null, .int 0]))) Γ kl4 [.null, .int 0, .null, .int 0, .int 0, .int 0, .null, .null, .null, .null, .null, .null, .null, .null, .null, .null, .null, .int 0, .null, .int 0] 10 (by decide) k_572 k_573 k_6 (fun w1 a h1 h2 => ⟨h1.kp (xKp.new h2), xu_eq _ _ _⟩) ⟨Nat.le_of_ble_eq_true rfl, Nat.le_of_ble_eq_true rfl⟩ dL_law_8 ?_
  intro o
  refine x_dup Γ dL_law_11 rfl ?_
  refine x_invI (rm := ({ frames := 1, cells := 14, slots := 24325, locals := 40 } : Room)) Γ [] (fun w1 _ w2 => ∃ ad, MRep G w2 o ad (mIni 5 24048) [] ∧ KpM w1 w2) rfl (fun w1 h1 => t_minit h1.2) rfl k_576 k_6 k_574 k_575 hd_X3_init ⟨Nat.le_of_ble_eq_true rfl, Nat.le_of_ble_eq_true rfl⟩ ⟨Nat.le_of_ble_eq_true rfl, Nat.le_of_ble_eq_true rfl⟩ (Nat.le_of_ble_eq_true rfl) dL_law_12 (fun _ => ?_)
  refine x_weak (P' := fun w2 => ∃ ad, CRaw G w2 ca th (cB (mIni 5 24048)) 0 [] (fun _ => []) ∧ MRep G w2 o ad (mIni 5 24048) []) (fun w2 h2 => by obtain ⟨w1, h1, ad, h3, h4⟩ := h2; exact ⟨ad, h1.1.kp (fun b k e hb hs => h4 b k e hb (Or.inr (by omega))), h3⟩) ?_
  refine x_any (F := fun (ad : Nat → Nat) w2 => CRaw G w2 ca th (cB (mIni 5 24048)) 0 [] (fun _ => []) ∧ MRep G w2 o ad (mIni 5 24048) []) (fun ad => ?_)
  refine x_astore_n Γ dL_law_15 rfl rfl (by decide) ?_
  refine x_iconst (v := 1) Γ dL_law_16 (by decide) ?_
  refine x_newL (F := fun out w2 => LPw G o ad ca out (mIni 5 24048) 0 [] 0 th w2) Γ 1 (N := 1) (by decide) (by decide) (fun w1 a h1 h2 => ⟨h1.2.kp (xKp.new h2), ⟨fun _ => [], fun t ht => absurd ht (Nat.not_lt_zero t), h1.1.kp (xKp.new h2)⟩, _, xu_eq _ _ _, fun z => absurd z (by decide)⟩) ⟨Nat.le_of_ble_eq_true rfl, Nat.le_of_ble_eq_true rfl⟩ dL_law_17 ?_
  intro out
  refine x_astore_n Γ dL_law_19 rfl rfl (by decide) ?_
  refine x_iconst (v := 0) Γ dL_law_20 (by decide) ?_
  refine x_istore Γ dL_law_21 rfl (by decide) ?_
  refine x_wide (k' := 30 + 60 * 0) (n' := 25000 + 400 * 0) (Nat.le_of_ble_eq_true rfl) (Nat.le_of_ble_eq_true rfl) ?_
  exact law_loop Γ hfl hX hbl hbA hl hret (len + 1) 0 (mIni 5 24048) 0 [] 0 th _ (by omega) (by omega) fI_0 rfl
end XLS

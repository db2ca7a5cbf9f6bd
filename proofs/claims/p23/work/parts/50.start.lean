section XLS
theorem xStr_in : ∀ q ∈ xStr, Cond.stringRef RX2 q.1 q.2 ∈ lw_tbl := fun q hq => by
  have h1 : [389, 390, 340, 500, 384, 505, 510, 511, 524, 525, 519, 534, 148, 184, 351, 376].map (fun i => lw_tbl[i]?) = (xStr.map (fun q => Cond.stringRef RX2 q.1 q.2)).map some := by decide +kernel
  have h2 : some (Cond.stringRef RX2 q.1 q.2) ∈ (xStr.map (fun q => Cond.stringRef RX2 q.1 q.2)).map some := List.mem_map.mpr ⟨_, List.mem_map.mpr ⟨q, hq, rfl⟩, rfl⟩
  rw [← h1] at h2
  obtain ⟨i, -, hi⟩ := List.mem_map.mp h2
  exact List.mem_of_getElem? hi
theorem xStr_one : ∀ q ∈ xStr, ∀ q' ∈ xStr, q.1 = q'.1 → q = q' := by decide +kernel
theorem xStr_lt : ∀ q ∈ xStr, q.1 < 1000 := by decide +kernel
theorem of_bv (x : Int32) : Int32.ofNat x.toBitVec.toNat = x := by
  apply Int32.toBitVec_inj.mp
  show BitVec.ofNat 32 x.toBitVec.toNat = x.toBitVec
  exact BitVec.eq_of_toNat_eq (by rw [BitVec.toNat_ofNat]; exact Nat.mod_eq_of_lt x.toBitVec.isLt)
theorem xE_arr {s : State} {cA comp : ClassId} {kA : Class} {ty : FieldType} (h2 : s.vm.classes[cA]? = some kA) (h3 : kA.kind = .array comp ty) : ArrOfT s cA ty := fun n z => ⟨fun k h => (by cases h), kA, h2, comp, h3⟩
theorem xE_start {s : State} {b len : Nat} {xs : Nat → Int32} (hts : ∀ w ∈ lw_tbl, w.before #[Value.ref b] s = true) (hgv : (Jvm.Cond.and given_1 narrow_1).before #[Value.ref b] s = true) (hX : va_X b len xs s s.heap) (hbl : b < s.heap.size) (hL : len ≤ 260) : ∃ G : xG, G.2 0 = s.heap.size ∧ G.2 6 = b ∧ xE G s s.heap := by
  have h0 : ∀ w ∈ xAll, w.before #[Value.ref b] s = true := fun w hw => hts w (List.mem_filter.mp hw).1
  have hs := flat_of_before _ hgv
  obtain ⟨c0, i0, hK0⟩ := u_known (n := 3) h0 kl0.2.1 (h0 _ k_29)
  obtain ⟨c1, i1, hK1⟩ := u_known (n := 3) h0 kl1.2.1 (h0 _ k_243)
  obtain ⟨c2, i2, hK2⟩ := u_known (n := 12) h0 kl2.2.1 (h0 _ k_237)
  obtain ⟨c3, i3, hK3⟩ := u_known (n := 7) h0 kl3.2.1 (h0 _ k_21)
  obtain ⟨g1, kg1, cg1, e1, e2, e3⟩ := Cond.arrayClass_spec (hts (.arrayClass .int) (List.mem_of_getElem? (i := 77) (by decide +kernel)))
  have hAO := hts (.arrayOver (.object "java/lang/Object")) (List.mem_of_getElem? (i := 486) (by decide +kernel))
  obtain ⟨cg3, g3, kg3, e7, -, e8, e9, e10⟩ := Cond.arrayOver_spec hAO
  have hA : ∀ a : Nat, a < s.heap.size → ¬ (fun q : Nat => s.heap.size ≤ q) a := fun a h => Nat.not_le.mpr h
  obtain ⟨t4, ht4, hT4⟩ := va_Tof (f := fun _ => .null) (N := 0) (ty := .object "java/lang/Object") (tm := .static "java/util/ArrayList" "DEFAULTCAPACITY_EMPTY_ELEMENTDATA" "[Ljava/lang/Object;") (A := fun q : Nat => s.heap.size ≤ q) (by decide) (hs _ (by decide +kernel)) (va_eqt (hs (.eq (.length (.static "java/util/ArrayList" "DEFAULTCAPACITY_EMPTY_ELEMENTDATA" "[Ljava/lang/Object;")) (.int 0)) (by decide +kernel))) (fun j hj => absurd hj (Nat.not_lt_zero j)) hA
  obtain ⟨m5, hm5⟩ := va_Mi.of (C := "[Ljava/lang/Object;") (hs (.isRef (.mirror "[Ljava/lang/Object;")) (by decide +kernel))
  have hstr : ∀ k : Nat, ∃ a, ∀ q ∈ xStr, q.1 = k → vk_R RX2 q.1 q.2 a s := by
    intro k
    by_cases hk : ∃ q, q ∈ xStr ∧ q.1 = k
    · obtain ⟨q, hq, hqk⟩ := hk
      have hw := hts _ (xStr_in q hq)
      have hw0 : (Cond.stringRef RX2 q.1 q.2).before #[] s = true := hw
      obtain ⟨-, -, -, a, -, -, -, -, -, he⟩ := Cond.stringRef_spec (cls := RX2) hK3.2.1 hw0
      refine ⟨a, fun q' hq' hk' => ?_⟩
      have : q' = q := xStr_one q' hq' q hq (hk'.trans hqk.symm)
      subst this
      exact ⟨hw0, he⟩
    · exact ⟨0, fun q hq hqk => absurd ⟨q, hq, hqk⟩ hk⟩
  obtain ⟨fs, hfs⟩ := Classical.axiomOfChoice hstr
  obtain ⟨gg, hgg⟩ : ∃ gg : Nat → Nat, gg = fun k => if k = 0 then s.heap.size else if k = 1 then g1 else if k = 2 then g1 else if k = 3 then g3 else if k = 4 then t4 else if k = 5 then m5 else if k = 6 then b else if k = 7 then len else if k < 1000000 then fs (k - 1000) else (xs (k - 1000000)).toBitVec.toNat := ⟨_, rfl⟩
  have hg0 : gg 0 = s.heap.size := by rw [hgg]; rfl
  have hg1 : gg 1 = g1 := by rw [hgg]; rfl
  have hg2 : gg 2 = g1 := by rw [hgg]; rfl
  have hg3 : gg 3 = g3 := by rw [hgg]; rfl
  have hg4 : gg 4 = t4 := by rw [hgg]; rfl
  have hg5 : gg 5 = m5 := by rw [hgg]; rfl
  have hg6 : gg 6 = b := by rw [hgg]; rfl
  have hg7 : gg 7 = len := by rw [hgg]; rfl
  have hgs : ∀ q : Nat, q < 1000 → gg (1000 + q) = fs q := fun q hq => by
    rw [hgg]
    show (if 1000 + q = 0 then _ else if 1000 + q = 1 then _ else if 1000 + q = 2 then _ else if 1000 + q = 3 then _ else if 1000 + q = 4 then _ else if 1000 + q = 5 then _ else if 1000 + q = 6 then _ else if 1000 + q = 7 then _ else if 1000 + q < 1000000 then fs (1000 + q - 1000) else _) = fs q
    rw [if_neg (by omega), if_neg (by omega), if_neg (by omega), if_neg (by omega), if_neg (by omega), if_neg (by omega), if_neg (by omega), if_neg (by omega), if_pos (by omega), show 1000 + q - 1000 = q by omega]
  have hgx : ∀ q : Nat, gg (1000000 + q) = (xs q).toBitVec.toNat := fun q => by
    rw [hgg]
    show (if 1000000 + q = 0 then _ else if 1000000 + q = 1 then _ else if 1000000 + q = 2 then _ else if 1000000 + q = 3 then _ else if 1000000 + q = 4 then _ else if 1000000 + q = 5 then _ else if 1000000 + q = 6 then _ else if 1000000 + q = 7 then _ else if 1000000 + q < 1000000 then _ else (xs (1000000 + q - 1000000)).toBitVec.toNat) = _
    rw [if_neg (by omega), if_neg (by omega), if_neg (by omega), if_neg (by omega), if_neg (by omega), if_neg (by omega), if_neg (by omega), if_neg (by omega), if_neg (by omega), show 1000000 + q - 1000000 = q by omega]
  clear hgg
  refine ⟨((fun k => if k = 0 then c0 else if k = 1 then c1 else if k = 2 then c2 else c3, fun k => if k = 0 then i0 else if k = 1 then i1 else if k = 2 then i2 else i3), gg), hg0, hg6, ?_⟩
  refine ⟨⟨fun k q hq => ?_, fun k q hq => ?_⟩, fun w hw => va_Nw.of (xAll_tb hw) (h0 w hw), hts (.arrayClass .int) (List.mem_of_getElem? (i := 77) (by decide +kernel)), ⟨?_, ?_, ?_⟩, va_AO.of hAO, ?_, ?_, ?_, ?_, fun q hq => ?_, ?_, fun q hq => ?_⟩
  · match k, hq with
    | 0, hq => cases hq; exact hK0
    | 1, hq => cases hq; exact hK1
    | 2, hq => cases hq; exact hK2
    | 3, hq => cases hq; exact hK3
    | k + 4, hq => simp at hq
  · match k, hq with
    | 0, hq => cases hq; show ArrOfT s (gg 1) .int ∧ va_RA s (gg 1) .int; rw [hg1]; exact ⟨xE_arr e2 e3, e1⟩
    | 1, hq => cases hq; show ArrOfT s (gg 2) .int ∧ va_RA s (gg 2) .int; rw [hg2]; exact ⟨xE_arr e2 e3, e1⟩
    | 2, hq => cases hq; show ArrOfT s (gg 3) (.object "java/lang/Object") ∧ va_RA s (gg 3) (.object "java/lang/Object"); rw [hg3]; exact ⟨xE_arr e8 e9, ⟨kg3, cg3, e8, e9, e7, e10⟩⟩
    | k + 3, hq => simp at hq
  · show va_X (gg 6) (gg 7) (fun q => Int32.ofNat (gg (1000000 + q))) s s.heap
    rw [hg6, hg7, show (fun q => Int32.ofNat (gg (1000000 + q))) = xs from funext fun q => by rw [hgx, of_bv]]
    exact hX
  · show ¬ gg 0 ≤ gg 6
    rw [hg0, hg6]
    exact Nat.not_le.mpr hbl
  · show gg 7 ≤ 260
    rw [hg7]
    exact hL
  · show vx_Zq _ _ _ (fun q => gg 0 ≤ q) s s.heap
    rw [hg0]
    exact vx_Zqof (hts (.laysStatic "java/lang/Throwable" "UNASSIGNED_STACK" "[Ljava/lang/StackTraceElement;") (List.mem_of_getElem? (i := 134) (by decide +kernel))) (hts (.initialized "java/lang/Throwable") (List.mem_of_getElem? (i := 30) (by decide +kernel))) (hs (.isRef (.static "java/lang/Throwable" "UNASSIGNED_STACK" "[Ljava/lang/StackTraceElement;")) (by decide +kernel)) hA
  · show vx_Zq _ _ _ (fun q => gg 0 ≤ q) s s.heap
    rw [hg0]
    exact vx_Zqof (hts (.laysStatic "java/lang/Throwable" "SUPPRESSED_SENTINEL" "Ljava/util/List;") (List.mem_of_getElem? (i := 136) (by decide +kernel))) (hts (.initialized "java/lang/Throwable") (List.mem_of_getElem? (i := 30) (by decide +kernel))) (hs (.isRef (.static "java/lang/Throwable" "SUPPRESSED_SENTINEL" "Ljava/util/List;")) (by decide +kernel)) hA
  · show va_Z _ _ _ (.ref (gg 4)) (fun q => gg 0 ≤ q) s s.heap
    rw [hg0, hg4]
    exact va_Zof (hts (.laysStatic "java/util/ArrayList" "DEFAULTCAPACITY_EMPTY_ELEMENTDATA" "[Ljava/lang/Object;") (List.mem_of_getElem? (i := 64) (by decide +kernel))) (h0 _ k_4) ht4 hA
  · show va_T _ (gg 4) 0 _ (fun q => gg 0 ≤ q) s s.heap
    rw [hg0, hg4]
    exact hT4
  · show vk_R RX2 q.1 q.2 (gg (1000 + q.1)) s
    rw [hgs q.1 (xStr_lt q hq)]
    exact hfs q.1 q hq rfl
  · show va_Mi _ (gg 5) s
    rw [hg5]
    exact hm5
  · exact absurd hq List.not_mem_nil
theorem fI_0 : fI (mIni 5 24048) 0 [] 0 := by
  refine ⟨⟨⟨rfl, Nat.zero_le _, ⟨0, Nat.zero_le _, rfl⟩, fun t _ => ⟨0, by omega, rfl⟩, fun t _ => ⟨0, by omega, rfl⟩⟩, ⟨Nat.le_refl _, List.nodup_nil, fun q hq => by cases hq⟩, fun t ht => absurd ht (Nat.not_lt_zero t), fun t ht => absurd ht (Nat.not_lt_zero t), fun t ht => (by cases ht), fun t ht => absurd ht (Nat.not_lt_zero t), fun t ht => absurd ht (Nat.not_lt_zero t), fun t ht => absurd ht (Nat.not_lt_zero t), fun t _ ht => ⟨rfl, rfl, fun d hd => ?_⟩⟩, fun t ht => absurd ht (Nat.not_lt_zero t), rfl, Nat.zero_le _⟩
  show (if 24 * d + t < 24048 then (12 : Int32) else 0) = 12
  rw [if_pos (by omega)]
theorem wI_0 : wI (mIni 5 24048) 0 [] 0 (fun _ _ => 0) 0 := by
  refine ⟨fI_0, ⟨fun c hc => ?_, fun t ht => absurd ht (Nat.not_lt_zero t), fun c hc => by show (0 : Int) ≤ 10; decide, fun t ht => absurd ht (Nat.not_lt_zero t), fun t ht => absurd ht (Nat.not_lt_zero t), fun t ht => absurd ht (Nat.not_lt_zero t), ⟨fun p hp => by show 0 ≤ (0 : Int32).toInt; decide, ?_⟩, ⟨by show 0 ≤ (0 : Int32).toInt; decide, by show (0 : Int32).toInt + 6000 * ((0 : Nat) : Int) ≤ 6000 * ((0 : Nat) : Int); decide⟩, fun t ht => absurd ht (Nat.not_lt_zero t), fun t ht => ?_⟩, by omega, fun t ht => absurd ht (Nat.not_lt_zero t), fun t ht => absurd ht (Nat.not_lt_zero t), fun t _ => Or.inl (by show (0 : Int32) < 10; decide)⟩
  · show (if c < 5 then (10 : Int32) else 0) = 10
    rw [if_pos hc]
  · show psZ (mIni 5 24048) 8 + 300 * ((0 : Nat) : Int) ≤ ((400 * 0 : Nat) : Int)
    decide +kernel
  · show (if t < 24048 then (12 : Int32) else 0) = 12
    rw [if_pos (by omega)]
variable {p : Program} {l : Launch} {e : Env} {s : State} {m : MethodId} {args : Array Value} {below : List Frame} {meth : Method} {c : Code} {G : xG} {Q : State → Prop}
set_option maxRecDepth 100000 in
theorem law_start (Γ : xC p s m meth c G cL_law 17 "LeftThingsLaw" (some .boolean)) (hfl : l.stackTraces = false) (hret : ∀ (P : xW → Prop) (k n : Nat) (lx : List (Nat × Value)), k ≤ 662782 → n ≤ 7113121 → xJ p l e Rm11 s m #[Value.ref (G.2 6)] below meth c G 17 Q P k n 434 lx [.int 1]) : xJ p l e Rm11 s m #[Value.ref (G.2 6)] below meth c G 17 Q (fun w => w = fun _ => none) 0 0 0 [(0, .ref (G.2 6))] [] := by
  refine x_new (F := fun a w2 => w2 a = some (100, .inr (3, [.null, .null, .null, .null, .int 0, .int 0, .int 0]))) Γ kl3 [.null, .null, .null, .null, .int 0, .int 0, .int 0] 100 (by decide) k_2019 k_21 k_1 (fun w1 a h1 h2 => xu_eq _ _ _) ⟨Nat.le_of_ble_eq_true rfl, Nat.le_of_ble_eq_true rfl⟩ dL_law_0 ?_
  intro a1
  refine x_dup Γ dL_law_3 rfl ?_
  refine x_invI (rm := ({ frames := 4, cells := 4, slots := 19, locals := 80 } : Room)) Γ [] (fun w1 _ w2 => ∃ ca th, ca 0 = a1 ∧ CRaw G w2 ca th (mIni 5 24048) 0 [] (fun _ => []) ∧ KpX w1 w2) rfl (fun w1 h1 => t_cinit h1) rfl k_24 k_1 k_22 k_23 hd_X2_init ⟨Nat.le_of_ble_eq_true rfl, Nat.le_of_ble_eq_true rfl⟩ ⟨Nat.le_of_ble_eq_true rfl, Nat.le_of_ble_eq_true rfl⟩ (Nat.le_of_ble_eq_true rfl) dL_law_4 (fun _ => ?_)
  refine x_weak (P' := fun w2 => ∃ ca, ∃ th, ca 0 = a1 ∧ CRaw G w2 ca th (cB (mIni 5 24048)) 0 [] (fun _ => [])) (fun w2 h2 => by obtain ⟨w1, h1, ca, th, h3, h4, -⟩ := h2; exact ⟨ca, th, h3, h4.congr ⟨rfl, rfl, ⟨rfl, rfl, rfl⟩, fun t ht => absurd ht (Nat.not_lt_zero t)⟩⟩) ?_
  refine x_any (F := fun (ca : Nat → Nat) w2 => ∃ th, ca 0 = a1 ∧ CRaw G w2 ca th (cB (mIni 5 24048)) 0 [] (fun _ => [])) (fun ca => ?_)
  refine x_any (F := fun (th : Nat → Nat) w2 => ca 0 = a1 ∧ CRaw G w2 ca th (cB (mIni 5 24048)) 0 [] (fun _ => [])) (fun th => ?_)
  refine x_then (P2 := fun w2 => CRaw G w2 ca th (cB (mIni 5 24048)) 0 [] (fun _ => [])) (φ := ca 0 = a1) (fun w2 h2 => h2) (fun e1 => ?_)
  subst e1
  refine x_astore_n Γ dL_law_7 rfl rfl (by decide) ?_
  refine x_bipush (v := 24) Γ dL_law_8 (by decide) ?_
  refine x_newI (F := fun b1 w2 => CRaw G w2 ca th (cB (mIni 5 24048)) 0 [] (fun _ => []) ∧ w2 b1 = some (1, .inl (G.2 1, 24, .inl (fun _ => 0)))) Γ 1 (N := 24) (by decide) (by decide) (fun w1 a h1 h2 => ⟨h1.kp (xKp.new h2), xu_eq _ _ _⟩) ⟨Nat.le_of_ble_eq_true rfl, Nat.le_of_ble_eq_true rfl⟩ dL_law_10 ?_
  intro b1
  refine x_astore_n Γ dL_law_12 rfl rfl (by decide) ?_
  refine x_bipush (v := 24) Γ dL_law_13 (by decide) ?_
  refine x_newI (F := fun b2 w2 => (CRaw G w2 ca th (cB (mIni 5 24048)) 0 [] (fun _ => []) ∧ w2 b1 = some (1, .inl (G.2 1, 24, .inl (fun _ => 0)))) ∧ w2 b2 = some (2, .inl (G.2 1, 24, .inl (fun _ => 0)))) Γ 2 (N := 24) (by decide) (by decide) (fun w1 a h1 h2 => ⟨⟨h1.1.kp (xKp.new h2), xu_new h1.2 h2⟩, xu_eq _ _ _⟩) ⟨Nat.le_of_ble_eq_true rfl, Nat.le_of_ble_eq_true rfl⟩ dL_law_15 ?_
  intro b2
  refine x_astore_n Γ dL_law_17 rfl rfl (by decide) ?_
  refine x_bipush (v := 24) Γ dL_law_18 (by decide) ?_
  refine x_newI (F := fun b3 w2 => lP G ca (fun j => if j = 1 then b1 else if j = 2 then b2 else b3) (mIni 5 24048) 0 [] 0 th (fun _ _ => 0) w2) Γ 3 (N := 24) (by decide) (by decide) (fun w1 a h1 h2 => ⟨⟨fun _ => [], fun t ht => absurd ht (Nat.not_lt_zero t), h1.1.1.kp (xKp.new h2)⟩, fun j h3 h4 => ?_⟩) ⟨Nat.le_of_ble_eq_true rfl, Nat.le_of_ble_eq_true rfl⟩ dL_law_20 ?_
  · have h5 : j = 1 ∨ j = 2 ∨ j = 3 := by omega
    rcases h5 with rfl | rfl | rfl
    · exact xu_new h1.1.2 h2
    · exact xu_new h1.2 h2
    · exact xu_eq _ _ _
  intro b3
  refine x_astore Γ dL_law_22 rfl (by decide) ?_
  refine x_aload_n Γ dL_law_24 rfl rfl ?_
  refine x_invV (emb := embI) (ci := 3) (rm := RS1) Γ [] (fun w1 r w2 => r = nI 0 ∧ lP G ca (fun j => if j = 1 then b1 else if j = 2 then b2 else b3) (mIni 5 24048) 0 [] 0 th (fun _ _ => 0) w2) rfl (fun w1 h1 => l_day h1 fI_0) lP.obj rfl k_83 k_1 k_2291 k_81 k_82 hd_X2_day ⟨Nat.le_of_ble_eq_true rfl, Nat.le_of_ble_eq_true rfl⟩ ⟨Nat.le_of_ble_eq_true rfl, Nat.le_of_ble_eq_true rfl⟩ (Nat.le_of_ble_eq_true rfl) dL_law_25 (fun r => ?_)
  refine x_then (P2 := lP G ca (fun j => if j = 1 then b1 else if j = 2 then b2 else b3) (mIni 5 24048) 0 [] 0 th (fun _ _ => 0)) (φ := r = nI 0) (fun w2 h2 => by obtain ⟨w1, -, h3, h4⟩ := h2; exact ⟨h3, h4⟩) (fun e9 => ?_)
  subst e9
  refine x_if_ne (tgt := 42) Γ dL_law_28 (by decide) (fun c28 => absurd (nI_0) c28) (fun c28 => ?_)
  refine x_aload_n Γ dL_law_31 rfl rfl ?_
  refine x_invV (emb := embI) (ci := 3) (rm := RS1) Γ [] (fun w1 r w2 => r = nI 0 ∧ lP G ca (fun j => if j = 1 then b1 else if j = 2 then b2 else b3) (mIni 5 24048) 0 [] 0 th (fun _ _ => 0) w2) rfl (fun w1 h1 => l_things h1 fI_0) lP.obj rfl k_87 k_1 k_2295 k_85 k_86 hd_X2_things ⟨Nat.le_of_ble_eq_true rfl, Nat.le_of_ble_eq_true rfl⟩ ⟨Nat.le_of_ble_eq_true rfl, Nat.le_of_ble_eq_true rfl⟩ (Nat.le_of_ble_eq_true rfl) dL_law_32 (fun r => ?_)
  refine x_then (P2 := lP G ca (fun j => if j = 1 then b1 else if j = 2 then b2 else b3) (mIni 5 24048) 0 [] 0 th (fun _ _ => 0)) (φ := r = nI 0) (fun w2 h2 => by obtain ⟨w1, -, h3, h4⟩ := h2; exact ⟨h3, h4⟩) (fun e9 => ?_)
  subst e9
  refine x_if_ne (tgt := 42) Γ dL_law_35 (by decide) (fun c35 => absurd (nI_0) c35) (fun c35 => ?_)
  refine x_iconst (v := 1) Γ dL_law_38 (by decide) ?_
  refine x_goto (tgt := 43) Γ dL_law_39 (by decide) ?_
  refine x_istore Γ dL_law_43 rfl (by decide) ?_
  refine x_iconst (v := 0) Γ dL_law_45 (by decide) ?_
  refine x_istore Γ dL_law_46 rfl (by decide) ?_
  refine x_wide (k' := 30 + 200 * 0) (n' := 200 + 1400 * 0) (Nat.le_of_ble_eq_true rfl) (Nat.le_of_ble_eq_true rfl) ?_
  refine x_lv [0, 1, 2, 3, 4, 5, 6] rfl ?_
  exact lw_loop Γ hfl hret 60 0 rfl (mIni 5 24048) 0 [] 0 th (fun _ _ => 0) _ wI_0 rfl
end XLS

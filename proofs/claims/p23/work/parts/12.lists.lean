section XJ1
variable {l : Launch} {G : xG}
theorem hd_X0_init : (yX0_init).cls ≠ "java/lang/invoke/MethodHandle" ∧ (yX0_init).cls ≠ "java/lang/invoke/VarHandle" ∧ (parseMethodDescriptor (yX0_init).desc).map (fun d => d.parameters.length) = some 3 := by decide +kernel
theorem hd_X1_init : (yX1_init).cls ≠ "java/lang/invoke/MethodHandle" ∧ (yX1_init).cls ≠ "java/lang/invoke/VarHandle" ∧ (parseMethodDescriptor (yX1_init).desc).map (fun d => d.parameters.length) = some 5 := by decide +kernel
theorem hd_X1_isAtCounter : (yX1_isAtCounter).cls ≠ "java/lang/invoke/MethodHandle" ∧ (yX1_isAtCounter).cls ≠ "java/lang/invoke/VarHandle" ∧ (parseMethodDescriptor (yX1_isAtCounter).desc).map (fun d => d.parameters.length) = some 0 := by decide +kernel
theorem hd_X1_hasLoan : (yX1_hasLoan).cls ≠ "java/lang/invoke/MethodHandle" ∧ (yX1_hasLoan).cls ≠ "java/lang/invoke/VarHandle" ∧ (parseMethodDescriptor (yX1_hasLoan).desc).map (fun d => d.parameters.length) = some 0 := by decide +kernel
theorem hd_X1_isCalled : (yX1_isCalled).cls ≠ "java/lang/invoke/MethodHandle" ∧ (yX1_isCalled).cls ≠ "java/lang/invoke/VarHandle" ∧ (parseMethodDescriptor (yX1_isCalled).desc).map (fun d => d.parameters.length) = some 0 := by decide +kernel
theorem hd_X1_beginLoan : (yX1_beginLoan).cls ≠ "java/lang/invoke/MethodHandle" ∧ (yX1_beginLoan).cls ≠ "java/lang/invoke/VarHandle" ∧ (parseMethodDescriptor (yX1_beginLoan).desc).map (fun d => d.parameters.length) = some 2 := by decide +kernel
theorem hd_X1_endLoan : (yX1_endLoan).cls ≠ "java/lang/invoke/MethodHandle" ∧ (yX1_endLoan).cls ≠ "java/lang/invoke/VarHandle" ∧ (parseMethodDescriptor (yX1_endLoan).desc).map (fun d => d.parameters.length) = some 0 := by decide +kernel
theorem hd_X1_moveTo : (yX1_moveTo).cls ≠ "java/lang/invoke/MethodHandle" ∧ (yX1_moveTo).cls ≠ "java/lang/invoke/VarHandle" ∧ (parseMethodDescriptor (yX1_moveTo).desc).map (fun d => d.parameters.length) = some 2 := by decide +kernel
theorem hd_X1_placeAtBeginningOf : (yX1_placeAtBeginningOf).cls ≠ "java/lang/invoke/MethodHandle" ∧ (yX1_placeAtBeginningOf).cls ≠ "java/lang/invoke/VarHandle" ∧ (parseMethodDescriptor (yX1_placeAtBeginningOf).desc).map (fun d => d.parameters.length) = some 1 := by decide +kernel
theorem hd_X2_init : (yX2_init).cls ≠ "java/lang/invoke/MethodHandle" ∧ (yX2_init).cls ≠ "java/lang/invoke/VarHandle" ∧ (parseMethodDescriptor (yX2_init).desc).map (fun d => d.parameters.length) = some 0 := by decide +kernel
theorem hd_X2_leave : (yX2_leave).cls ≠ "java/lang/invoke/MethodHandle" ∧ (yX2_leave).cls ≠ "java/lang/invoke/VarHandle" ∧ (parseMethodDescriptor (yX2_leave).desc).map (fun d => d.parameters.length) = some 3 := by decide +kernel
theorem hd_X2_fetch : (yX2_fetch).cls ≠ "java/lang/invoke/MethodHandle" ∧ (yX2_fetch).cls ≠ "java/lang/invoke/VarHandle" ∧ (parseMethodDescriptor (yX2_fetch).desc).map (fun d => d.parameters.length) = some 1 := by decide +kernel
theorem hd_X2_want : (yX2_want).cls ≠ "java/lang/invoke/MethodHandle" ∧ (yX2_want).cls ≠ "java/lang/invoke/VarHandle" ∧ (parseMethodDescriptor (yX2_want).desc).map (fun d => d.parameters.length) = some 2 := by decide +kernel
theorem hd_X2_value : (yX2_value).cls ≠ "java/lang/invoke/MethodHandle" ∧ (yX2_value).cls ≠ "java/lang/invoke/VarHandle" ∧ (parseMethodDescriptor (yX2_value).desc).map (fun d => d.parameters.length) = some 2 := by decide +kernel
theorem hd_X2_lend : (yX2_lend).cls ≠ "java/lang/invoke/MethodHandle" ∧ (yX2_lend).cls ≠ "java/lang/invoke/VarHandle" ∧ (parseMethodDescriptor (yX2_lend).desc).map (fun d => d.parameters.length) = some 3 := by decide +kernel
theorem hd_X2_repay : (yX2_repay).cls ≠ "java/lang/invoke/MethodHandle" ∧ (yX2_repay).cls ≠ "java/lang/invoke/VarHandle" ∧ (parseMethodDescriptor (yX2_repay).desc).map (fun d => d.parameters.length) = some 1 := by decide +kernel
theorem hd_X2_doubt : (yX2_doubt).cls ≠ "java/lang/invoke/MethodHandle" ∧ (yX2_doubt).cls ≠ "java/lang/invoke/VarHandle" ∧ (parseMethodDescriptor (yX2_doubt).desc).map (fun d => d.parameters.length) = some 1 := by decide +kernel
theorem hd_X2_pass : (yX2_pass).cls ≠ "java/lang/invoke/MethodHandle" ∧ (yX2_pass).cls ≠ "java/lang/invoke/VarHandle" ∧ (parseMethodDescriptor (yX2_pass).desc).map (fun d => d.parameters.length) = some 1 := by decide +kernel
theorem hd_X2_day : (yX2_day).cls ≠ "java/lang/invoke/MethodHandle" ∧ (yX2_day).cls ≠ "java/lang/invoke/VarHandle" ∧ (parseMethodDescriptor (yX2_day).desc).map (fun d => d.parameters.length) = some 0 := by decide +kernel
theorem hd_X2_things : (yX2_things).cls ≠ "java/lang/invoke/MethodHandle" ∧ (yX2_things).cls ≠ "java/lang/invoke/VarHandle" ∧ (parseMethodDescriptor (yX2_things).desc).map (fun d => d.parameters.length) = some 0 := by decide +kernel
theorem hd_X2_where : (yX2_where).cls ≠ "java/lang/invoke/MethodHandle" ∧ (yX2_where).cls ≠ "java/lang/invoke/VarHandle" ∧ (parseMethodDescriptor (yX2_where).desc).map (fun d => d.parameters.length) = some 1 := by decide +kernel
theorem hd_X2_whereOn : (yX2_whereOn).cls ≠ "java/lang/invoke/MethodHandle" ∧ (yX2_whereOn).cls ≠ "java/lang/invoke/VarHandle" ∧ (parseMethodDescriptor (yX2_whereOn).desc).map (fun d => d.parameters.length) = some 2 := by decide +kernel
theorem hd_X2_load : (yX2_load).cls ≠ "java/lang/invoke/MethodHandle" ∧ (yX2_load).cls ≠ "java/lang/invoke/VarHandle" ∧ (parseMethodDescriptor (yX2_load).desc).map (fun d => d.parameters.length) = some 1 := by decide +kernel
theorem hd_X2_fees : (yX2_fees).cls ≠ "java/lang/invoke/MethodHandle" ∧ (yX2_fees).cls ≠ "java/lang/invoke/VarHandle" ∧ (parseMethodDescriptor (yX2_fees).desc).map (fun d => d.parameters.length) = some 1 := by decide +kernel
theorem hd_X2_loan : (yX2_loan).cls ≠ "java/lang/invoke/MethodHandle" ∧ (yX2_loan).cls ≠ "java/lang/invoke/VarHandle" ∧ (parseMethodDescriptor (yX2_loan).desc).map (fun d => d.parameters.length) = some 1 := by decide +kernel
theorem hd_X2_purse : (yX2_purse).cls ≠ "java/lang/invoke/MethodHandle" ∧ (yX2_purse).cls ≠ "java/lang/invoke/VarHandle" ∧ (parseMethodDescriptor (yX2_purse).desc).map (fun d => d.parameters.length) = some 1 := by decide +kernel
theorem hd_X2_taken : (yX2_taken).cls ≠ "java/lang/invoke/MethodHandle" ∧ (yX2_taken).cls ≠ "java/lang/invoke/VarHandle" ∧ (parseMethodDescriptor (yX2_taken).desc).map (fun d => d.parameters.length) = some 0 := by decide +kernel
theorem hd_X2_isCounter : (yX2_isCounter).cls ≠ "java/lang/invoke/MethodHandle" ∧ (yX2_isCounter).cls ≠ "java/lang/invoke/VarHandle" ∧ (parseMethodDescriptor (yX2_isCounter).desc).map (fun d => d.parameters.length) = some 1 := by decide +kernel
theorem hd_X2_isPerson : (yX2_isPerson).cls ≠ "java/lang/invoke/MethodHandle" ∧ (yX2_isPerson).cls ≠ "java/lang/invoke/VarHandle" ∧ (parseMethodDescriptor (yX2_isPerson).desc).map (fun d => d.parameters.length) = some 1 := by decide +kernel
theorem hd_X2_thingNumbered : (yX2_thingNumbered).cls ≠ "java/lang/invoke/MethodHandle" ∧ (yX2_thingNumbered).cls ≠ "java/lang/invoke/VarHandle" ∧ (parseMethodDescriptor (yX2_thingNumbered).desc).map (fun d => d.parameters.length) = some 1 := by decide +kernel
theorem hd_X2_sizesAt : (yX2_sizesAt).cls ≠ "java/lang/invoke/MethodHandle" ∧ (yX2_sizesAt).cls ≠ "java/lang/invoke/VarHandle" ∧ (parseMethodDescriptor (yX2_sizesAt).desc).map (fun d => d.parameters.length) = some 1 := by decide +kernel
theorem hd_X2_hasRoomFor : (yX2_hasRoomFor).cls ≠ "java/lang/invoke/MethodHandle" ∧ (yX2_hasRoomFor).cls ≠ "java/lang/invoke/VarHandle" ∧ (parseMethodDescriptor (yX2_hasRoomFor).desc).map (fun d => d.parameters.length) = some 2 := by decide +kernel
theorem hd_X2_putIntoPurse : (yX2_putIntoPurse).cls ≠ "java/lang/invoke/MethodHandle" ∧ (yX2_putIntoPurse).cls ≠ "java/lang/invoke/VarHandle" ∧ (parseMethodDescriptor (yX2_putIntoPurse).desc).map (fun d => d.parameters.length) = some 2 := by decide +kernel
theorem hd_X2_dropEndedWishes : (yX2_dropEndedWishes).cls ≠ "java/lang/invoke/MethodHandle" ∧ (yX2_dropEndedWishes).cls ≠ "java/lang/invoke/VarHandle" ∧ (parseMethodDescriptor (yX2_dropEndedWishes).desc).map (fun d => d.parameters.length) = some 0 := by decide +kernel
theorem hd_X2_giveAway : (yX2_giveAway).cls ≠ "java/lang/invoke/MethodHandle" ∧ (yX2_giveAway).cls ≠ "java/lang/invoke/VarHandle" ∧ (parseMethodDescriptor (yX2_giveAway).desc).map (fun d => d.parameters.length) = some 3 := by decide +kernel
theorem hd_X2_sell : (yX2_sell).cls ≠ "java/lang/invoke/MethodHandle" ∧ (yX2_sell).cls ≠ "java/lang/invoke/VarHandle" ∧ (parseMethodDescriptor (yX2_sell).desc).map (fun d => d.parameters.length) = some 1 := by decide +kernel
theorem hd_X2_endDay : (yX2_endDay).cls ≠ "java/lang/invoke/MethodHandle" ∧ (yX2_endDay).cls ≠ "java/lang/invoke/VarHandle" ∧ (parseMethodDescriptor (yX2_endDay).desc).map (fun d => d.parameters.length) = some 0 := by decide +kernel
theorem hd_X2_oweFees : (yX2_oweFees).cls ≠ "java/lang/invoke/MethodHandle" ∧ (yX2_oweFees).cls ≠ "java/lang/invoke/VarHandle" ∧ (parseMethodDescriptor (yX2_oweFees).desc).map (fun d => d.parameters.length) = some 0 := by decide +kernel
theorem hd_X2_sellCalled : (yX2_sellCalled).cls ≠ "java/lang/invoke/MethodHandle" ∧ (yX2_sellCalled).cls ≠ "java/lang/invoke/VarHandle" ∧ (parseMethodDescriptor (yX2_sellCalled).desc).map (fun d => d.parameters.length) = some 0 := by decide +kernel
theorem hd_X2_sellUnfetched : (yX2_sellUnfetched).cls ≠ "java/lang/invoke/MethodHandle" ∧ (yX2_sellUnfetched).cls ≠ "java/lang/invoke/VarHandle" ∧ (parseMethodDescriptor (yX2_sellUnfetched).desc).map (fun d => d.parameters.length) = some 0 := by decide +kernel
theorem hd_X2_driveVan : (yX2_driveVan).cls ≠ "java/lang/invoke/MethodHandle" ∧ (yX2_driveVan).cls ≠ "java/lang/invoke/VarHandle" ∧ (parseMethodDescriptor (yX2_driveVan).desc).map (fun d => d.parameters.length) = some 0 := by decide +kernel
theorem hd_J9_max_7cf53 : (yJ9_max_7cf53).cls ≠ "java/lang/invoke/MethodHandle" ∧ (yJ9_max_7cf53).cls ≠ "java/lang/invoke/VarHandle" ∧ (parseMethodDescriptor (yJ9_max_7cf53).desc).map (fun d => d.parameters.length) = some 2 := by decide +kernel
theorem hd_J9_min_7cf53 : (yJ9_min_7cf53).cls ≠ "java/lang/invoke/MethodHandle" ∧ (yJ9_min_7cf53).cls ≠ "java/lang/invoke/VarHandle" ∧ (parseMethodDescriptor (yJ9_min_7cf53).desc).map (fun d => d.parameters.length) = some 2 := by decide +kernel
theorem hd_Jxa1e45_init_da8c8 : (yJxa1e45_init_da8c8).cls ≠ "java/lang/invoke/MethodHandle" ∧ (yJxa1e45_init_da8c8).cls ≠ "java/lang/invoke/VarHandle" ∧ (parseMethodDescriptor (yJxa1e45_init_da8c8).desc).map (fun d => d.parameters.length) = some 0 := by decide +kernel
theorem hd_Jxc12de_init_da8c8 : (yJxc12de_init_da8c8).cls ≠ "java/lang/invoke/MethodHandle" ∧ (yJxc12de_init_da8c8).cls ≠ "java/lang/invoke/VarHandle" ∧ (parseMethodDescriptor (yJxc12de_init_da8c8).desc).map (fun d => d.parameters.length) = some 0 := by decide +kernel
theorem hd_Jx4a65c_init_da8c8 : (yJx4a65c_init_da8c8).cls ≠ "java/lang/invoke/MethodHandle" ∧ (yJx4a65c_init_da8c8).cls ≠ "java/lang/invoke/VarHandle" ∧ (parseMethodDescriptor (yJx4a65c_init_da8c8).desc).map (fun d => d.parameters.length) = some 0 := by decide +kernel
theorem hd_Jx4a65c_grow_92f84 : (yJx4a65c_grow_92f84).cls ≠ "java/lang/invoke/MethodHandle" ∧ (yJx4a65c_grow_92f84).cls ≠ "java/lang/invoke/VarHandle" ∧ (parseMethodDescriptor (yJx4a65c_grow_92f84).desc).map (fun d => d.parameters.length) = some 1 := by decide +kernel
theorem hd_Jx4a65c_grow_d5877 : (yJx4a65c_grow_d5877).cls ≠ "java/lang/invoke/MethodHandle" ∧ (yJx4a65c_grow_d5877).cls ≠ "java/lang/invoke/VarHandle" ∧ (parseMethodDescriptor (yJx4a65c_grow_d5877).desc).map (fun d => d.parameters.length) = some 0 := by decide +kernel
theorem hd_Jx4a65c_size_8abf5 : (yJx4a65c_size_8abf5).cls ≠ "java/lang/invoke/MethodHandle" ∧ (yJx4a65c_size_8abf5).cls ≠ "java/lang/invoke/VarHandle" ∧ (parseMethodDescriptor (yJx4a65c_size_8abf5).desc).map (fun d => d.parameters.length) = some 0 := by decide +kernel
theorem hd_Jx4a65c_elementData_915e3 : (yJx4a65c_elementData_915e3).cls ≠ "java/lang/invoke/MethodHandle" ∧ (yJx4a65c_elementData_915e3).cls ≠ "java/lang/invoke/VarHandle" ∧ (parseMethodDescriptor (yJx4a65c_elementData_915e3).desc).map (fun d => d.parameters.length) = some 1 := by decide +kernel
theorem hd_Jx4a65c_get_915e3 : (yJx4a65c_get_915e3).cls ≠ "java/lang/invoke/MethodHandle" ∧ (yJx4a65c_get_915e3).cls ≠ "java/lang/invoke/VarHandle" ∧ (parseMethodDescriptor (yJx4a65c_get_915e3).desc).map (fun d => d.parameters.length) = some 1 := by decide +kernel
theorem hd_Jx4a65c_add_72be8 : (yJx4a65c_add_72be8).cls ≠ "java/lang/invoke/MethodHandle" ∧ (yJx4a65c_add_72be8).cls ≠ "java/lang/invoke/VarHandle" ∧ (parseMethodDescriptor (yJx4a65c_add_72be8).desc).map (fun d => d.parameters.length) = some 3 := by decide +kernel
theorem hd_Jx4a65c_add_9ea2d : (yJx4a65c_add_9ea2d).cls ≠ "java/lang/invoke/MethodHandle" ∧ (yJx4a65c_add_9ea2d).cls ≠ "java/lang/invoke/VarHandle" ∧ (parseMethodDescriptor (yJx4a65c_add_9ea2d).desc).map (fun d => d.parameters.length) = some 1 := by decide +kernel
theorem hd_Jx4a65c_remove_915e3 : (yJx4a65c_remove_915e3).cls ≠ "java/lang/invoke/MethodHandle" ∧ (yJx4a65c_remove_915e3).cls ≠ "java/lang/invoke/VarHandle" ∧ (parseMethodDescriptor (yJx4a65c_remove_915e3).desc).map (fun d => d.parameters.length) = some 1 := by decide +kernel
theorem hd_Jx4a65c_fastRemove_b59b0 : (yJx4a65c_fastRemove_b59b0).cls ≠ "java/lang/invoke/MethodHandle" ∧ (yJx4a65c_fastRemove_b59b0).cls ≠ "java/lang/invoke/VarHandle" ∧ (parseMethodDescriptor (yJx4a65c_fastRemove_b59b0).desc).map (fun d => d.parameters.length) = some 2 := by decide +kernel
theorem hd_J7_fill_53178 : (yJ7_fill_53178).cls ≠ "java/lang/invoke/MethodHandle" ∧ (yJ7_fill_53178).cls ≠ "java/lang/invoke/VarHandle" ∧ (parseMethodDescriptor (yJ7_fill_53178).desc).map (fun d => d.parameters.length) = some 2 := by decide +kernel
theorem hd_J7_copyOf_1904c : (yJ7_copyOf_1904c).cls ≠ "java/lang/invoke/MethodHandle" ∧ (yJ7_copyOf_1904c).cls ≠ "java/lang/invoke/VarHandle" ∧ (parseMethodDescriptor (yJ7_copyOf_1904c).desc).map (fun d => d.parameters.length) = some 2 := by decide +kernel
theorem hd_J7_copyOf_6403c : (yJ7_copyOf_6403c).cls ≠ "java/lang/invoke/MethodHandle" ∧ (yJ7_copyOf_6403c).cls ≠ "java/lang/invoke/VarHandle" ∧ (parseMethodDescriptor (yJ7_copyOf_6403c).desc).map (fun d => d.parameters.length) = some 3 := by decide +kernel
theorem hd_J15_checkIndex_7cf53 : (yJ15_checkIndex_7cf53).cls ≠ "java/lang/invoke/MethodHandle" ∧ (yJ15_checkIndex_7cf53).cls ≠ "java/lang/invoke/VarHandle" ∧ (parseMethodDescriptor (yJ15_checkIndex_7cf53).desc).map (fun d => d.parameters.length) = some 2 := by decide +kernel
theorem hd_J8_newLength_cabcc : (yJ8_newLength_cabcc).cls ≠ "java/lang/invoke/MethodHandle" ∧ (yJ8_newLength_cabcc).cls ≠ "java/lang/invoke/VarHandle" ∧ (parseMethodDescriptor (yJ8_newLength_cabcc).desc).map (fun d => d.parameters.length) = some 3 := by decide +kernel
theorem hd_J8_hugeLength_7cf53 : (yJ8_hugeLength_7cf53).cls ≠ "java/lang/invoke/MethodHandle" ∧ (yJ8_hugeLength_7cf53).cls ≠ "java/lang/invoke/VarHandle" ∧ (parseMethodDescriptor (yJ8_hugeLength_7cf53).desc).map (fun d => d.parameters.length) = some 2 := by decide +kernel
theorem hd_J3_checkIndex_8e157 : (yJ3_checkIndex_8e157).cls ≠ "java/lang/invoke/MethodHandle" ∧ (yJ3_checkIndex_8e157).cls ≠ "java/lang/invoke/VarHandle" ∧ (parseMethodDescriptor (yJ3_checkIndex_8e157).desc).map (fun d => d.parameters.length) = some 3 := by decide +kernel
theorem hd_L_law : (yL_law).cls ≠ "java/lang/invoke/MethodHandle" ∧ (yL_law).cls ≠ "java/lang/invoke/VarHandle" ∧ (parseMethodDescriptor (yL_law).desc).map (fun d => d.parameters.length) = some 1 := by decide +kernel
theorem xv_get {w : xW} {a k0 ci j : Nat} {fs : List Value} {v : Value} (ha : w a = some (k0, .inr (ci, fs))) (hf : fs[j]? = some v) : ∀ w1, w1 = w → ∃ k0 fs, w1 a = some (k0, .inr (ci, fs)) ∧ fs[j]? = some v := fun w1 e => by rw [e]; exact ⟨_, _, ha, hf⟩
theorem xv_put {w : xW} {a k0 ci j : Nat} {fs : List Value} {v : Value} {P2 : xW → Prop} (ha : w a = some (k0, .inr (ci, fs))) (hl : j < fs.length) (hp : P2 (xu w a (k0, .inr (ci, fs.set j v)))) : ∀ w1, w1 = w → ∃ k0 fs, w1 a = some (k0, .inr (ci, fs)) ∧ j < fs.length ∧ P2 (xu w1 a (k0, .inr (ci, fs.set j v))) := fun w1 e => by rw [e]; exact ⟨_, _, ha, hl, hp⟩
theorem xv_obj {w : xW} {a k0 ci : Nat} {fs : List Value} (ha : w a = some (k0, .inr (ci, fs))) : ∀ w1, w1 = w → ∃ k0 fs, w1 a = some (k0, .inr (ci, fs)) := fun w1 e => by rw [e]; exact ⟨_, _, ha⟩
theorem xv_arr {w : xW} {a k0 : Nat} {x : va_E} (ha : w a = some (k0, x)) : ∀ w1, w1 = w → ∃ k0, w1 a = some (k0, x) := fun w1 e => by rw [e]; exact ⟨_, ha⟩
theorem x_then {p : Program} {e : Env} {R : Room} {s : State} {m : MethodId} {args : Array Value} {below : List Frame} {meth : Method} {c : Code} {nL : Nat} {Q : State → Prop} {P : xW → Prop} {k n pc : Nat} {lv : List (Nat × Value)} {st : List Value} {φ : Prop} {P2 : xW → Prop} (h : ∀ w, P w → φ ∧ P2 w) (kk : φ → xJ p l e R s m args below meth c G nL Q P2 k n pc lv st) : xJ p l e R s m args below meth c G nL Q P k n pc lv st := fun w H locs ls hp => kk (h w hp).1 w H locs ls (h w hp).2
theorem x_pin {p : Program} {e : Env} {R : Room} {s : State} {m : MethodId} {args : Array Value} {below : List Frame} {meth : Method} {c : Code} {nL : Nat} {Q : State → Prop} {P : xW → Prop} {k n pc : Nat} {lv : List (Nat × Value)} {st : List Value} (kk : ∀ w1, P w1 → xJ p l e R s m args below meth c G nL Q (fun w => w = w1) k n pc lv st) : xJ p l e R s m args below meth c G nL Q P k n pc lv st := fun w H locs ls hp => kk w hp w H locs ls rfl
theorem x_ldc {p : Program} {e : Env} {R : Room} {s : State} {m : MethodId} {args : Array Value} {below : List Frame} {meth : Method} {c : Code} {cc : ByteArray} {nL : Nat} {own : String} {rt : Option FieldType} {Q : State → Prop} {P : xW → Prop} {k n pc : Nat} {lv : List (Nat × Value)} {st : List Value} (Γ : xC p s m meth c G cc nL own rt) {idx : Nat} {v : Int32} (hconst : Cond.constant own idx v ∈ xAll) (hd : decode cc pc = .ok (.ldc idx, 2)) (kk : xJ p l e R s m args below meth c G nL Q P k n (pc + 2) lv (.int v :: st)) : xJ p l e R s m args below meth c G nL Q P k n pc lv st := fun w H locs ls hp hh hs hl => lv_ldc Γ.1 Γ.2.1 Γ.2.2.2.1 (Γ.2.2.2.2.2.2.1.w hconst) hd (kk w H locs ls hp hh hs hl)
set_option maxRecDepth 100000 in
theorem t_J3 {w : xW} {j N : Nat} (hj : j < N) (hN : N < 2 ^ 31) : xMet l G yJ3_checkIndex_8e157 cJ3_checkIndex_8e157 3 (some .int) ({ frames := 0, cells := 0, slots := 0, locals := 0 } : Room) [.int (nI j), .int (nI N), .null] w embI (fun r w' => r = nI j ∧ w' = w) := by
  refine xMet_of (by decide) (Nat.le_of_ble_eq_true rfl) ?_
  intro p e s m below meth c Γ hnm
  have h0 : ¬ nI j < 0 := nI_pos (by omega)
  have h1 : nI j < nI N := nI_lt hj hN
  refine x_iload_n Γ dJ3_checkIndex_8e157_0 rfl rfl ?_
  refine x_if_lt (tgt := 9) Γ dJ3_checkIndex_8e157_1 (by decide) (fun c1 => absurd c1 (h0)) (fun c1 => ?_)
  refine x_iload_n Γ dJ3_checkIndex_8e157_4 rfl rfl ?_
  refine x_iload_n Γ dJ3_checkIndex_8e157_5 rfl rfl ?_
  refine x_icmp_lt (tgt := 16) Γ dJ3_checkIndex_8e157_6 (by decide) (fun c6 => ?_) (fun c6 => absurd (h1) c6)
  refine x_iload_n Γ dJ3_checkIndex_8e157_16 rfl rfl ?_
  exact x_iret Γ rfl rfl (fun w1 e => ⟨rfl, e⟩) ⟨Nat.le_of_ble_eq_true rfl, Nat.le_of_ble_eq_true rfl⟩ dJ3_checkIndex_8e157_17
set_option maxRecDepth 100000 in
theorem t_J15 {w : xW} {j N : Nat} (hj : j < N) (hN : N < 2 ^ 31) : xMet l G yJ15_checkIndex_7cf53 cJ15_checkIndex_7cf53 2 (some .int) ({ frames := 1, cells := 0, slots := 0, locals := 22 } : Room) [.int (nI j), .int (nI N)] w embI (fun r w' => r = nI j ∧ w' = w) := by
  refine xMet_of (by decide) (Nat.le_of_ble_eq_true rfl) ?_
  intro p e s m below meth c Γ hnm
  refine x_iload_n Γ dJ15_checkIndex_7cf53_0 rfl rfl ?_
  refine x_iload_n Γ dJ15_checkIndex_7cf53_1 rfl rfl ?_
  refine x_null Γ dJ15_checkIndex_7cf53_2 ?_
  refine x_invS (emb := embI) Γ [.int (nI j), .int (nI N), .null] (fun w r w' => r = nI j ∧ w' = w) rfl (fun w _ => t_J3 hj hN) k_215 k_12 k_213 k_214 hd_J3_checkIndex_8e157 ⟨Nat.le_of_ble_eq_true rfl, Nat.le_of_ble_eq_true rfl⟩ ⟨Nat.le_of_ble_eq_true rfl, Nat.le_of_ble_eq_true rfl⟩ (Nat.le_of_ble_eq_true rfl) dJ15_checkIndex_7cf53_3 (fun r => ?_)
  refine x_then (P2 := fun w1 => w1 = w) (φ := r = nI j) (fun w2 h2 => by obtain ⟨w3, h3, h4, h5⟩ := h2; subst h5; exact ⟨h4, h3⟩) (fun e1 => ?_)
  subst e1
  exact x_iret Γ rfl rfl (fun w1 e => ⟨rfl, e⟩) ⟨Nat.le_of_ble_eq_true rfl, Nat.le_of_ble_eq_true rfl⟩ dJ15_checkIndex_7cf53_6
/-- a list: its object has colour col, its row colour col + 2 -/
def LstAt (G : xG) (w : xW) (a col len : Nat) (f : Nat → Nat) : Prop :=
  ∃ (mc : Int32) (el : Nat), w a = some (col, .inr (0, [.int mc, .ref el, .int (nI len)])) ∧ len ≤ 900 ∧ ((len = 0 ∧ el = G.2 4) ∨ ∃ (cap : Nat) (g : Nat → Option Nat), w el = some (col + 2, .inl (G.2 3, cap, .inr (.inr (.inr (.inr g))))) ∧ len ≤ cap ∧ 10 ≤ cap ∧ cap ≤ 900 ∧ ∀ i, i < len → g i = some (f i))
def KpL (col : Nat) (w w' : xW) : Prop := ∀ (b k : Nat) (e : va_E), w b = some (k, e) → k ≠ col → k ≠ col + 2 → w' b = some (k, e)
theorem KpL.rf {col : Nat} {w : xW} : KpL col w w := fun _ _ _ h _ _ => h
theorem KpL.tr {col : Nat} {w w1 w2 : xW} (h : KpL col w w1) (h2 : KpL col w1 w2) : KpL col w w2 := fun b k e hb h3 h4 => h2 b k e (h b k e hb h3 h4) h3 h4
theorem KpL.set {col : Nat} {w w1 : xW} (h : KpL col w w1) {a k : Nat} {e0 : va_E} {x : Nat × va_E} (ha : w1 a = some (k, e0)) (hk : k = col ∨ k = col + 2) : KpL col w (xu w1 a x) := fun b j e hb h3 h4 => xu_far (h b j e hb h3 h4) ha (by omega)
theorem KpL.new {col : Nat} {w w1 : xW} (h : KpL col w w1) {a : Nat} {x : Nat × va_E} (ha : w1 a = none) : KpL col w (xu w1 a x) := fun b j e hb h3 h4 => xu_new (h b j e hb h3 h4) ha
set_option maxRecDepth 100000 in
theorem t_size {w : xW} {a col len : Nat} {f : Nat → Nat} (h : LstAt G w a col len f) : xMet l G yJx4a65c_size_8abf5 cJx4a65c_size_8abf5 1 (some .int) ({ frames := 0, cells := 0, slots := 0, locals := 0 } : Room) [.ref a] w embI (fun r w' => r = nI len ∧ w' = w) := by
  obtain ⟨mc, el, ha, -⟩ := h
  refine xMet_of (by decide) (Nat.le_of_ble_eq_true rfl) ?_
  intro p e s m below meth c Γ hnm
  refine x_aload_n Γ dJx4a65c_size_8abf5_0 rfl rfl ?_
  refine x_getf Γ kl0 2 (xv_get ha rfl) (by decide) k_43 (Or.inl rfl) dJx4a65c_size_8abf5_1 ?_
  exact x_iret Γ rfl rfl (fun w1 e => ⟨rfl, e⟩) ⟨Nat.le_of_ble_eq_true rfl, Nat.le_of_ble_eq_true rfl⟩ dJx4a65c_size_8abf5_4
set_option maxRecDepth 100000 in
theorem t_elementData {w : xW} {a el j cap q k0 k1 : Nat} {mc x : Int32} {g : Nat → Option Nat} (ha : w a = some (k0, .inr (0, [.int mc, .ref el, .int x]))) (he : w el = some (k1, .inl (G.2 3, cap, .inr (.inr (.inr (.inr g)))))) (hj : j < cap) (hN : cap < 2 ^ 31) (hg : g j = some q) : xMet l G yJx4a65c_elementData_915e3 cJx4a65c_elementData_915e3 2 (some (.object "java/lang/Object")) ({ frames := 0, cells := 0, slots := 0, locals := 0 } : Room) [.ref a, .int (nI j)] w embA (fun r w' => r = q ∧ w' = w) := by
  refine xMet_of (by decide) (Nat.le_of_ble_eq_true rfl) ?_
  intro p e s m below meth c Γ hnm
  refine x_aload_n Γ dJx4a65c_elementData_915e3_0 rfl rfl ?_
  refine x_getf Γ kl0 1 (xv_get ha rfl) (by decide) k_42 (Or.inl rfl) dJx4a65c_elementData_915e3_1 ?_
  refine x_iload_n Γ dJx4a65c_elementData_915e3_4 rfl rfl ?_
  refine x_aald Γ (xv_arr he) (vp_in_nI hj hN) (b := q) (by rw [nI_clamp (by omega)]; exact hg) dJx4a65c_elementData_915e3_5 ?_
  exact x_aret Γ rfl (Or.inl ⟨_, rfl⟩) (fun w1 e => ⟨rfl, e⟩) ⟨Nat.le_of_ble_eq_true rfl, Nat.le_of_ble_eq_true rfl⟩ dJx4a65c_elementData_915e3_6
set_option maxRecDepth 100000 in
theorem t_get {w : xW} {a col len j : Nat} {f : Nat → Nat} (h : LstAt G w a col len f) (hj : j < len) : xMet l G yJx4a65c_get_915e3 cJx4a65c_get_915e3 2 (some (.object "java/lang/Object")) ({ frames := 2, cells := 0, slots := 0, locals := 43 } : Room) [.ref a, .int (nI j)] w embA (fun r w' => r = f j ∧ w' = w) := by
  obtain ⟨mc, el, ha, hlen, h | ⟨cap, g, he, h1, h2, h3, h4⟩⟩ := h
  · omega
  · refine xMet_of (by decide) (Nat.le_of_ble_eq_true rfl) ?_
    intro p e s m below meth c Γ hnm
    refine x_iload_n Γ dJx4a65c_get_915e3_0 rfl rfl ?_
    refine x_aload_n Γ dJx4a65c_get_915e3_1 rfl rfl ?_
    refine x_getf Γ kl0 2 (xv_get ha rfl) (by decide) k_43 (Or.inl rfl) dJx4a65c_get_915e3_2 ?_
    refine x_invS (emb := embI) Γ [.int (nI j), .int (nI len)] (fun w r w' => r = nI j ∧ w' = w) rfl (fun w _ => t_J15 hj (by omega)) k_212 k_11 k_210 k_211 hd_J15_checkIndex_7cf53 ⟨Nat.le_of_ble_eq_true rfl, Nat.le_of_ble_eq_true rfl⟩ ⟨Nat.le_of_ble_eq_true rfl, Nat.le_of_ble_eq_true rfl⟩ (Nat.le_of_ble_eq_true rfl) dJx4a65c_get_915e3_5 (fun r => ?_)
    refine x_then (P2 := fun w1 => w1 = w) (φ := r = nI j) (fun w2 h2 => by obtain ⟨w3, h3, h4, h5⟩ := h2; subst h5; exact ⟨h4, h3⟩) (fun e1 => ?_)
    subst e1
    refine x_pop Γ dJx4a65c_get_915e3_8 rfl ?_
    refine x_aload_n Γ dJx4a65c_get_915e3_9 rfl rfl ?_
    refine x_iload_n Γ dJx4a65c_get_915e3_10 rfl rfl ?_
    refine x_invV (emb := embA) (ci := 0) Γ [.int (nI j)] (fun w r w' => r = f j ∧ w' = w) rfl (fun w1 e1 => by subst e1; exact t_elementData ha he (by omega) (by omega) (h4 j hj)) (xv_obj ha) rfl k_219 k_4 k_216 k_217 k_218 hd_Jx4a65c_elementData_915e3 ⟨Nat.le_of_ble_eq_true rfl, Nat.le_of_ble_eq_true rfl⟩ ⟨Nat.le_of_ble_eq_true rfl, Nat.le_of_ble_eq_true rfl⟩ (Nat.le_of_ble_eq_true rfl) dJx4a65c_get_915e3_11 (fun r => ?_)
    refine x_then (P2 := fun w1 => w1 = w) (φ := r = f j) (fun w2 h2 => by obtain ⟨w3, h3, h4, h5⟩ := h2; subst h5; exact ⟨h4, h3⟩) (fun e1 => ?_)
    subst e1
    exact x_aret Γ rfl (Or.inl ⟨_, rfl⟩) (fun w1 e => ⟨rfl, e⟩) ⟨Nat.le_of_ble_eq_true rfl, Nat.le_of_ble_eq_true rfl⟩ dJx4a65c_get_915e3_14
end XJ1

section XM3
variable {l : Launch} {G : xG}
end XM3
section XM4
variable {l : Launch} {G : xG}
theorem fFor_len (t : Nat) (L : List Nat) : (fFor t L).length ≤ L.length := List.length_filter_le _ _
theorem fFor_eq {t k q : Nat} {L : List Nat} (hq : L[k]? = some q) (h : q = t) : fFor t (L.take (k + 1)) = fFor t (L.take k) := by
  unfold fFor
  rw [List.take_add_one, hq, List.filter_append]
  simp [h]
theorem fFor_ne {t k q : Nat} {L : List Nat} (hq : L[k]? = some q) (h : ¬ q = t) : fFor t (L.take (k + 1)) = fFor t (L.take k) ++ [q] := by
  unfold fFor
  rw [List.take_add_one, hq, List.filter_append]
  simp [h]
theorem fFor_mem {t q : Nat} {L : List Nat} (h : q ∈ fFor t L) : q ∈ L ∧ q ≠ t := by
  unfold fFor at h
  have h2 := List.mem_filter.mp h
  exact ⟨h2.1, by simpa using h2.2⟩
end XM4
section XM5
variable {l : Launch} {G : xG}
theorem ldF_thr (A : xS) (x c : Int32) (n : Nat) : ldF (mU A 19 0 x) c n = ldF A c n := by
  induction n with
  | zero => rfl
  | succ t ih => rw [ldF, ldF, ih]; rfl
theorem aI_thr {A : xS} {n : Nat} (h : aI A n) (x : Int32) : aI (mU A 19 0 x) n := h
end XM5

theorem Inv0.clm {w : Nat → Int} (hI : Inv0 w) : 0 ≤ clmS w ∧ clmS w ≤ 16 := by
  have h := itF_ind (g := clmG w) (P := fun p a => 0 ≤ a ∧ a ≤ (p : Int)) (m := nP w) (i := 0) (a := 0) ⟨by omega, by omega⟩ (fun p a _ h2 h3 => by
    unfold clmG
    split <;> omega)
  have h5 := hI.pNe
  have h6 : clmS w = itF (clmG w) 0 (nP w) 0 := rfl
  rw [← h6] at h
  omega

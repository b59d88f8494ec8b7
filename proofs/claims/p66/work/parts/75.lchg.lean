/-! THE LAW: its cases that change (written by wip/whole/gen75.py) -/
theorem MS.rem {s P kd tx s' P' b0 w : Nat → Int} {t : Int} {ps : List (Nat → Int)} {kp : Option (Nat → Int)} {T : Nat} {ek eo : Int} {rl : Nat} (S : MS s P kd tx t ps kp T ek eo rl) (hl : ps.length ≤ 8) (R : RmP (va_up s 15 0) ps.length P (cpF w 0 0 0 211 b0) s' P') : MS s' P' kd tx 0 (pus w ps) kp T ek eo rl := by
  obtain ⟨a1, a2, a3, a4, a5, a6, -, a8, a9, a10⟩ := S
  obtain ⟨r1, r2, r3⟩ := R
  refine ⟨?_, (r2 6 (by decide)).trans a2, (r2 9 (by decide)).trans a3, (r2 11 (by decide)).trans a4, (r2 12 (by decide)).trans a5, (r2 14 (by decide)).trans a6, (r2 15 (by decide)).trans (vu_at _ _ _), a8, fun q v hq j hj => ?_, a10⟩
  · rw [r1, pus_len hl]
    by_cases e : ps.length = 8
    · rw [if_pos e, if_pos e]; rfl
    · rw [if_neg e, if_neg e]; omega
  · have hw : ∀ j, j < 211 → cpF w 0 0 0 211 b0 j = w j := fun j hj => by
      rw [cpF_at, if_pos (by omega), show 0 + (j - 0) = j by omega]
    rw [pus_len hl, r3]
    rcases pus_at hq with ⟨rfl, rfl⟩ | ⟨i, rfl, hi, hp⟩
    · by_cases e : ps.length = 8
      · rw [if_pos e, if_pos e, cpF_at, if_pos (by omega), show 0 + (211 * (8 - 1 - 0) + j - 211 * 7) = j by omega]
        exact hw j hj
      · rw [if_neg e, if_neg e, cpF_at, if_pos (by omega), show 0 + (211 * (ps.length + 1 - 1 - 0) + j - 211 * ps.length) = j by omega]
        exact hw j hj
    · have hl2 : i < ps.length := by
        rcases Nat.lt_or_ge i ps.length with h | h
        · exact h
        · rw [List.getElem?_eq_none h] at hp; cases hp
      have hv := a9 i v hp j hj
      by_cases e : ps.length = 8
      · rw [if_pos e, if_pos e, cpF_at, if_neg (by omega), shF_at (by omega), if_pos (by omega), show 211 * (8 - 1 - (i + 1)) + j + 211 = 211 * (ps.length - 1 - i) + j by omega]
        exact hv
      · rw [if_neg e, if_neg e, cpF_at, if_neg (by omega), show 211 * (ps.length + 1 - 1 - (i + 1)) + j = 211 * (ps.length - 1 - i) + j by omega]
        exact hv
section LCHG
variable {h : aH} {t : Int} {g : Nat → Int64} {w : Nat → Int} {ps : List (Nat → Int)} {kp : Option (Nat → Int)} {T : Nat} {bu : Nat → Int} {ek eo : Int} {rl : Nat} {rp : Nat → Int} {s b0 as P kd tx nu : Nat → Int} {Kw yw Km ym : Nat} {ar : List aV}
theorem post_6 (hI : Inv0 w) {y0 y1 y2 y3 : Int} : postW w y0 y1 y2 y3 6 - 1 = ((nP w : Nat) : Int) := by
  have hp := hI.pNe
  have e : po1 w y0 y1 y2 y3 6 = w 6 := by
    unfold po1
    rw [vu_ne (by omega), vu_ne (by omega), vu_ne (by omega), vu_ne (by omega), vu_ne (by omega), vu_ne (by omega)]
  unfold postW
  rw [vu_at, e]
  omega
theorem fill_1 {b : Nat} {x : Int} : bo (fillW w b x) b 1 = bo w b 1 + x := by
  show va_up (va_up (sbo w b 1 (bo w b 1 + x)) 2 _) 9 _ (83 + 4 * b + 1) = _
  rw [vu_ne (by omega), vu_ne (by omega)]
  exact vu_at _ _ _
theorem tie_n2 {p b : Nat} (h : whyT w p b = 0) : ¬ pa w p 4 = 2 := by
  intro e
  unfold whyT at h
  rw [if_pos (by omega)] at h
  cases h
end LCHG

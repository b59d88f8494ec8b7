/-! BOTH SIDES in one state; the law's wrappers (written by wip/whole/gen71.py) -/
/-- the reference's cells -/
def MC (h : aH) (s w b0 as P kd bu tx rp nu : Nat → Int) : Prop := h.2.2 226 = .inr (8, Mo s) ∧ h.2.2 227 = .inl (0, 211, .inl w) ∧ h.2.2 228 = .inl (0, 211, .inl b0) ∧ h.2.2 229 = .inl (0, 211, .inl as) ∧ h.2.2 230 = .inl (0, 1688, .inl P) ∧ h.2.2 231 = .inl (0, 211, .inl kd) ∧ h.2.2 232 = .inl (0, 600, .inl bu) ∧ h.2.2 233 = .inl (0, 600, .inl tx) ∧ h.2.2 234 = .inl (2, 30, .inl rp) ∧ h.2.2 235 = .inl (0, 4, .inl nu)
def MS (s P kd tx : Nat → Int) (t : Int) (ps : List (Nat → Int)) (kp : Option (Nat → Int)) (T : Nat) (ek eo : Int) (rl : Nat) : Prop := s 5 = ((ps.length : Nat) : Int) ∧ s 6 = kI kp ∧ s 9 = ((T : Nat) : Int) ∧ s 11 = ek ∧ s 12 = eo ∧ s 14 = ((rl : Nat) : Int) ∧ s 15 = t ∧ TxB tx ∧ (∀ q v, ps[q]? = some v → ∀ j, j < 211 → P (211 * (ps.length - 1 - q) + j) = v j) ∧ ∀ v, kp = some v → ∀ j, j < 211 → kd j = v j
theorem MC.s {h : aH} {s w b0 as P kd bu tx rp nu s' : Nat → Int} (M : MC h s w b0 as P kd bu tx rp nu) : MC (sw h 226 (.inr (8, Mo s'))) s' w b0 as P kd bu tx rp nu := by
  obtain ⟨-, m2, m3, m4, m5, m6, m7, m8, m9, m10⟩ := M
  exact ⟨sw_at _ _ _, (sw_ne (by decide)).trans m2, (sw_ne (by decide)).trans m3, (sw_ne (by decide)).trans m4, (sw_ne (by decide)).trans m5, (sw_ne (by decide)).trans m6, (sw_ne (by decide)).trans m7, (sw_ne (by decide)).trans m8, (sw_ne (by decide)).trans m9, (sw_ne (by decide)).trans m10⟩
theorem MC.mv {h h' : aH} {s w b0 as P kd bu tx rp nu : Nat → Int} (M : MC h s w b0 as P kd bu tx rp nu) (e : ∀ a, 226 ≤ a → a < 236 → h'.2.2 a = h.2.2 a) : MC h' s w b0 as P kd bu tx rp nu := by
  obtain ⟨m1, m2, m3, m4, m5, m6, m7, m8, m9, m10⟩ := M
  exact ⟨(e _ (by decide) (by decide)).trans m1, (e _ (by decide) (by decide)).trans m2, (e _ (by decide) (by decide)).trans m3, (e _ (by decide) (by decide)).trans m4, (e _ (by decide) (by decide)).trans m5, (e _ (by decide) (by decide)).trans m6, (e _ (by decide) (by decide)).trans m7, (e _ (by decide) (by decide)).trans m8, (e _ (by decide) (by decide)).trans m9, (e _ (by decide) (by decide)).trans m10⟩
theorem MS.t {s P kd tx : Nat → Int} {t c : Int} {ps : List (Nat → Int)} {kp : Option (Nat → Int)} {T : Nat} {ek eo : Int} {rl : Nat} (S : MS s P kd tx t ps kp T ek eo rl) : MS (va_up s 15 c) P kd tx c ps kp T ek eo rl := by
  obtain ⟨a1, a2, a3, a4, a5, a6, -, a8⟩ := S
  exact ⟨a1, a2, a3, a4, a5, a6, vu_at _ _ _, a8⟩
section FACE
variable {h : aH} {t : Int} {g : Nat → Int64} {w : Nat → Int} {ps : List (Nat → Int)} {kp : Option (Nat → Int)} {T : Nat} {bu : Nat → Int} {ek eo : Int} {rl : Nat} {rp : Nat → Int} {s b0 as P kd tx nu : Nat → Int} {Kw yw Km ym : Nat} {ar : List aV}
end FACE

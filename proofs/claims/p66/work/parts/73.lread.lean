/-! THE LAW: its cases that read (written by wip/whole/gen73.py) -/
section LREAD
variable {h : aH} {t : Int} {g : Nat → Int64} {w : Nat → Int} {ps : List (Nat → Int)} {kp : Option (Nat → Int)} {T : Nat} {bu : Nat → Int} {ek eo : Int} {rl : Nat} {rp : Nat → Int}
theorem x_110 (C : CR h w ps kp T bu ek eo rl rp) : Ct 1 110 [aR 0] h (.inl (some (aI (((ps.length : Nat) : Int)))), h) := by
  obtain ⟨h0, -, -, -, ⟨lt, hl, h55, -⟩, ⟨⟨dp, ex, h201⟩, -⟩, -⟩ := id C
  refine Ct.of [aR 0] rfl ?_
  refine r_aldR cd_110_0 rfl rfl ?_
  refine r_get cd_110_1 rfl h0 rfl ?_
  refine r_get cd_110_4 rfl h55 rfl ?_
  exact r_ret cd_110_7 True.intro (rfl)
end LREAD

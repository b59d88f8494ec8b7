/-! PREDICTIONS (written by wip/whole/gen76.py) -/
/-- a parcel's numbers are as before -/
def Kp (p : Nat) (w u : Nat → Int) : Prop := ∀ k, k < 6 → pa u p k = pa w p k
section KPS
variable {p : Nat} {w u v : Nat → Int}
theorem Kp.rf : Kp p w w := fun _ _ => rfl
theorem Kp.tr (a : Kp p w u) (b : Kp p u v) : Kp p w v := fun k h => (b k h).trans (a k h)
theorem Kp.sb {b k : Nat} {x : Int} (hb : b < 8) (hk : k < 4) : Kp p w (sbo w b k x) := fun _ _ => sbo_pa hb hk
theorem Kp.los {b : Nat} {l : Int} (hb : b < 8) : Kp p w (losW w b l) := fun _ _ => los_pa hb
theorem Kp.rlF {b p : Nat} : ∀ {m : Nat} {w : Nat → Int} {n : Int}, Inv0 w → b < nB w → ¬ pa w p 4 = 1 → Kp p w (relF b m w n).1
  | 0, _, _, _, _, _ => Kp.rf
  | m + 1, w, n, hI, hb, hp => by
    by_cases hs : 0 < spare w b
    · rw [relF, if_pos hs]
      exact Kp.rf
    · obtain ⟨q, h1, h2, h3⟩ := heavy_some (load_pos hI hb hs)
      rw [relF, if_neg hs, h2, Int.toNat_natCast]
      have hq := tied_iff.mp h3
      have hne : ¬ p = q := fun e => hp (by rw [e]; exact hq.1)
      have h4 : Kp p w (untW w q) := fun k hk => by
        unfold untW
        rw [put_pa hk, if_neg (fun e => hne e.1), if_neg (fun e => hne e.1)]
      exact h4.tr (Kp.rlF (m := m) (hI.unt hb h1 h3) (by rw [unt_bN]; exact hb) (by rw [h4 4 (by decide)]; exact hp))
theorem Kp.car {b p : Nat} {sense : Int} (hb : b < 8) : ∀ {m : Nat} {w : Nat → Int}, Kp p w (carF b sense m w)
  | 0, _ => Kp.rf
  | m + 1, w => by
    rw [carF]
    split
    · exact Kp.rf
    · split
      · exact Kp.rf
      · split
        · exact Kp.rf
        · exact ((Kp.sb hb (by decide)).tr (Kp.sb hb (by decide))).tr (Kp.car hb (m := m))
theorem Kp.dr {b : Nat} (hb : b < 8) : Kp p w (drG b w) := by
  unfold drG
  split
  · exact Kp.car hb
  · exact Kp.rf
theorem Kp.drI {b : Nat} : ∀ {m : Nat}, b + m ≤ 8 → Kp p w (itF drG b m w)
  | 0, _ => Kp.rf
  | m + 1, h => by
    rw [itF_last]
    exact (Kp.drI (m := m) (by omega)).tr (Kp.dr (by omega))
theorem Kp.leak (hI : Inv0 w) {b : Nat} (hb : b < nB w) (hp : ¬ pa w p 4 = 1) : Kp p w (leakW w b) := by
  have hb8 := nB_8 hI
  obtain ⟨h1, h2⟩ := le1_inv hI hb
  have hb2 : b < nB (le1 w b) := by rw [Sm.eB fun j hj => h2 j (by omega) (by omega)]; exact hb
  unfold leakW
  split
  · exact Kp.rf
  · have k1 : Kp p w (le1 w b) := Kp.los (by omega)
    split
    · have h3 : Inv0 (sbo (le1 w b) b 3 0) := h1.setB (k := 3) hb2 (by omega) (by omega) (by omega) (by omega) (by omega)
      have hb3 : b < nB (sbo (le1 w b) b 3 0) := by rw [sbo_bN]; exact hb2
      have k2 : Kp p w (sbo (le1 w b) b 3 0) := k1.tr (Kp.sb (by omega) (by decide))
      exact k2.tr (Kp.rlF h3 hb3 (by rw [k2 4 (by decide)]; exact hp))
    · exact k1
theorem Kp.lkI (hI : Inv0 w) (hp : ¬ pa w p 4 = 1) {b : Nat} : ∀ {m : Nat}, b + m ≤ nB w → Kp p w (itF (fun b u => leakW u b) b m w)
  | 0, _ => Kp.rf
  | m + 1, h => by
    rw [itF_last]
    obtain ⟨h1, h2⟩ := lkI_inv hI (b := b) (m := m) (by omega)
    have k1 := Kp.lkI hI hp (b := b) (m := m) (by omega)
    exact k1.tr (Kp.leak h1 (by rw [Sm.eB fun j hj => h2 j (by omega) (by omega)]; omega) (by rw [k1 4 (by decide)]; exact hp))
theorem Kp.hr (hI : Inv0 w) (hp : ¬ pa w p 4 = 1) (h9 : w 1 < 100000) : Kp p w (hrW w) := by
  have hb8 := nB_8 hI
  obtain ⟨h1, h2⟩ := drI_inv hI (b := 0) (m := nB w) (by omega)
  have h3 : Inv0 (tkW (drW w)) := tk_inv h1 (by rw [show drW w 1 = w 1 from h2 1 (by omega)]; exact h9)
  have k1 : Kp p w (drW w) := Kp.drI (by omega)
  have k2 : Kp p w (tkW (drW w)) := k1.tr fun _ _ => tk_pa
  unfold hrW lkW
  split
  · exact k2.tr (Kp.lkI h3 (by rw [k2 4 (by decide)]; exact hp) (by omega))
  · exact k2
theorem Kp.pl (K : Kp p w u) (hp : ¬ pa w p 4 = 1) : plOf u p = plOf w p := by
  have h4 := K 4 (by decide)
  have h5 := K 5 (by decide)
  unfold plOf
  rw [h4, h5]
  by_cases e : pa w p 4 = 0
  · rw [if_pos e, if_pos e]
  · rw [if_neg e, if_neg e, if_neg hp, if_neg hp]
end KPS
section PRED
variable {h : aH} {w : Nat → Int} {ps : List (Nat → Int)} {kp : Option (Nat → Int)} {T : Nat} {bu : Nat → Int} {ek eo : Int} {rl : Nat} {rp : Nat → Int}
end PRED

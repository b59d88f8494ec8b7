/-! THE CLASS: the commands of a script (written by wip/whole/gen63.py) -/
/-- the cells but the script's, the tokens', the values and the script's World are as before -/
def NC (h h' : aH) : Prop := (∀ a, a < 201 ∨ a = 203 ∨ 223 ≤ a → h'.2.2 a = h.2.2 a) ∧ h'.1 = h.1 ∧ h'.2.1 = h.2.1
theorem NC.rf {h : aH} : NC h h := ⟨fun _ _ => rfl, rfl, rfl⟩
theorem NC.tr {h h1 h2 : aH} (a : NC h h1) (b : NC h1 h2) : NC h h2 := ⟨fun q x => (b.1 q x).trans (a.1 q x), b.2.1.trans a.2.1, b.2.2.trans a.2.2⟩
theorem NV.nc {h h' : aH} (a : NV h h') : NC h h' := ⟨fun q x => a.1 q (by omega) (by omega) (by omega), a.2⟩
theorem NO.nc {h h' : aH} (a : NO h h') : NC h h' := a.nv.nc
theorem Fr.nc {h h' : aH} (a : Fr 204 h h') : NC h h' := ⟨fun q x => a.1 q (by omega), a.2⟩
theorem NC.s {h h' : aH} {c : aCell} (a : NC h h') : NC h (sw h' 201 c) := ⟨fun q x => (sw_ne (by omega)).trans (a.1 q x), a.2⟩
theorem Rp.o {h : aH} {B : Nat} {w : Nat → Int} (R : Rp h B w) : ∃ fs, h.2.2 B = .inr (6, fs) := by
  obtain ⟨c, W, -⟩ := R
  exact ⟨_, W.1⟩
theorem bnd_e {α β : Type} {r : Er ⊕ α} {f : α → Er ⊕ β} {e : Er} (h : r = .inl e) : bnd r f = .inl e := by subst h; rfl
theorem bnd_r {α β : Type} {r : Er ⊕ α} {f : α → Er ⊕ β} {a : α} (h : r = .inr a) : bnd r f = f a := by subst h; rfl
/-- a command of a script is carried out, or refused -/
def CmdP (K y : Nat) (args : List aV) (h : aH) (N : Nat) (dp ex ek eo : Int) (r : Er ⊕ (Nat × (Nat → Int))) : Prop := match r with
  | .inl e => ∃ h', Ct K y args h (.inl (some (aI 0)), h') ∧ h'.2.2 201 = SO dp ex e.1 e.2 ∧ (∃ st nx kd vl, h'.2.2 202 = TO N st nx kd vl) ∧ Ex h' 204 ∧ (∃ va', h'.2.2 222 = .inl (0, 4, .inl va')) ∧ NC h h'
  | .inr a => ∃ h', Ct K y args h (.inl (some (aI 1)), h') ∧ h'.2.2 201 = SO dp (ex + 1) ek eo ∧ (∃ st kd vl, h'.2.2 202 = TO N st ((a.1 : Nat) : Int) kd vl) ∧ Rp h' 204 a.2 ∧ (∃ va', h'.2.2 222 = .inl (0, 4, .inl va')) ∧ NC h h'
theorem v_45_0 {h : aH} {tx tb : Nat → Int} {N : Nat} (hN : N ≤ 600) (hT : ∀ k, k < N → BT (tx k) (tb k)) (dp ex ek eo : Int) (hS : h.2.2 201 = SO dp ex ek eo) (hx0 : 0 ≤ ex) (hx : ex < 200) {w : Nat → Int} (hR : Rp h 204 w) (hI : Inv w) {va : Nat → Int} (hV : h.2.2 222 = .inl (0, 4, .inl va)) (hb : TxB tx) (st kd vl : Int) (i : Nat) (hi : i ≤ N) (hO : h.2.2 202 = TO N st ((i : Nat) : Int) kd vl) (hB : h.2.2 203 = .inl (1, 600, .inl tb)) : CmdP 8 45 [aR 201, aC 4] h N dp ex ek eo (cRow 23 tx N i w) := by
  have hbn := hI.1.bNe
  have hpn := hI.1.pNe
  have x0 := hI.1.len
  have x1 := hI.2.1
  have x1b := hI.1.hour
  have x4 := hI.1.gn
  have x5 := hI.1.bn
  have x6 := hI.1.pn
  have P1 := v_46_p0 hN hT dp ex ek eo hS hR hI.1 hV hb st kd vl i hi hO hB
  rcases hA1 : numA tx N i 0 (w 0 - 1) with e | ⟨q1, j1⟩
  · rw [hA1] at P1
    obtain ⟨g1, d1_, s1, t1, v1, m1⟩ := P1
    rw [show cRow 23 tx N i w = .inl e from bnd_e hA1]
    refine ⟨g1, Ct.of [aR 201, aC 4, aU] rfl ?_, s1, t1, (m1.rp hR).ex, v1, NC.rf.tr m1.nc⟩
    refine r_aldC cd_45_0 rfl rfl ?_
    refine r_nnC cd_45_1 ⟨by decide, by decide⟩ ?_
    refine r_aldR cd_45_10 rfl rfl ?_
    refine r_get cd_45_11 rfl hS rfl ?_
    refine r_con (v := 200) cd_45_14 rfl (by decide) ?_
    refine r_ic63 cd_45_17 rfl ⟨by omega, by omega⟩ ⟨by omega, by omega⟩ (fun n61 => ?_) (fun n61 => ?_)
    · refine r_con (v := 0) cd_45_26 rfl (by decide) ?_
      refine r_ist cd_45_27 rfl rfl (L' := [aR 201, aC 4, aI 0]) rfl ?_
      refine r_ild cd_45_28 rfl rfl ?_
      refine r_aldC cd_45_29 rfl rfl ?_
      refine r_cget (v := aC 54) cd_45_30 rfl (rfl) ?_
      refine r_cI (c_378 54 (by decide) (by decide)) cd_45_33 rfl rfl rfl ⟨by decide, by decide⟩ rfl rfl rfl ?_
      refine RU.cast (pc2 := 36) (S2 := [aI 2, aI 0]) rfl rfl rfl ?_
      refine r_ic64 cd_45_36 rfl ⟨by omega, by omega⟩ ⟨by omega, by omega⟩ (fun n62 => ?_) (fun n62 => ?_)
      · refine r_ild cd_45_39 rfl rfl ?_
        refine r_con (v := 4) cd_45_40 rfl (by decide) ?_
        refine r_ic64 cd_45_41 rfl ⟨by omega, by omega⟩ ⟨by omega, by omega⟩ (fun n63 => ?_) (fun n63 => ?_)
        · refine r_aldR cd_45_44 rfl rfl ?_
          refine r_aldC cd_45_45 rfl rfl ?_
          refine r_cget (v := aC 54) cd_45_46 rfl (rfl) ?_
          refine r_ild cd_45_49 rfl rfl ?_
          refine r_cI (c_380 54 0 (by decide) (by decide) (by decide)) cd_45_50 rfl rfl rfl ⟨by decide, by decide⟩ rfl rfl rfl ?_
          refine RU.cast (pc2 := 53) (S2 := [aI 112, aR 201]) rfl rfl rfl ?_
          refine r_ild cd_45_53 rfl rfl ?_
          refine r_cI d1_ cd_45_54 rfl rfl rfl (rc0 hS rfl) rfl rfl rfl ?_
          refine r_if52 cd_45_57 rfl ⟨by omega, by omega⟩ (fun n64 => ?_) (fun n64 => ?_)
          · refine r_con (v := 0) cd_45_60 rfl (by decide) ?_
            exact r_ret cd_45_61 (Or.inl rfl) (rfl)
          · exact absurd n64 (by decide)
        · exact absurd n63 (by decide)
      · exact absurd n62 (by decide)
    · exact absurd n61 (by omega)
  · rw [hA1] at P1
    obtain ⟨g1, d1_, s1, ⟨st1, kd1, vl1, t1⟩, vv1, m1⟩ := P1
    have v1 : g1.2.2 222 = .inl (0, 4, .inl (va_up va 0 ((q1 : Nat) : Int))) := vv1
    have b1 : g1.2.2 203 = .inl (1, 600, .inl tb) := (m1.1 203 (by decide) (by decide) (by decide)).trans hB
    have R1 : Rp g1 204 w := m1.rp hR
    obtain ⟨z1a, z1b, z1c, z1j, -⟩ := numA_o hA1 (by decide)
    have i1 : j1 ≤ N := by rw [z1j]; exact (tPos hi).2
    have N1 : NC h g1 := NC.rf.tr m1.nc
    have P2 := v_46_h1 hN hT dp ex ek eo s1 R1 hI.1 v1 hb st1 kd1 vl1 j1 i1 t1 b1
    rcases hA2 : numA tx N j1 0 9 with e | ⟨q2, j2⟩
    · rw [hA2] at P2
      obtain ⟨g2, d2_, s2, t2, v2, m2⟩ := P2
      rw [show cRow 23 tx N i w = .inl e from (bnd_r hA1).trans (bnd_e hA2)]
      refine ⟨g2, Ct.of [aR 201, aC 4, aU] rfl ?_, s2, t2, (m2.rp R1).ex, v2, N1.tr m2.nc⟩
      refine r_aldC cd_45_0 rfl rfl ?_
      refine r_nnC cd_45_1 ⟨by decide, by decide⟩ ?_
      refine r_aldR cd_45_10 rfl rfl ?_
      refine r_get cd_45_11 rfl hS rfl ?_
      refine r_con (v := 200) cd_45_14 rfl (by decide) ?_
      refine r_ic63 cd_45_17 rfl ⟨by omega, by omega⟩ ⟨by omega, by omega⟩ (fun n61 => ?_) (fun n61 => ?_)
      · refine r_con (v := 0) cd_45_26 rfl (by decide) ?_
        refine r_ist cd_45_27 rfl rfl (L' := [aR 201, aC 4, aI 0]) rfl ?_
        refine r_ild cd_45_28 rfl rfl ?_
        refine r_aldC cd_45_29 rfl rfl ?_
        refine r_cget (v := aC 54) cd_45_30 rfl (rfl) ?_
        refine r_cI (c_378 54 (by decide) (by decide)) cd_45_33 rfl rfl rfl ⟨by decide, by decide⟩ rfl rfl rfl ?_
        refine RU.cast (pc2 := 36) (S2 := [aI 2, aI 0]) rfl rfl rfl ?_
        refine r_ic64 cd_45_36 rfl ⟨by omega, by omega⟩ ⟨by omega, by omega⟩ (fun n62 => ?_) (fun n62 => ?_)
        · refine r_ild cd_45_39 rfl rfl ?_
          refine r_con (v := 4) cd_45_40 rfl (by decide) ?_
          refine r_ic64 cd_45_41 rfl ⟨by omega, by omega⟩ ⟨by omega, by omega⟩ (fun n63 => ?_) (fun n63 => ?_)
          · refine r_aldR cd_45_44 rfl rfl ?_
            refine r_aldC cd_45_45 rfl rfl ?_
            refine r_cget (v := aC 54) cd_45_46 rfl (rfl) ?_
            refine r_ild cd_45_49 rfl rfl ?_
            refine r_cI (c_380 54 0 (by decide) (by decide) (by decide)) cd_45_50 rfl rfl rfl ⟨by decide, by decide⟩ rfl rfl rfl ?_
            refine RU.cast (pc2 := 53) (S2 := [aI 112, aR 201]) rfl rfl rfl ?_
            refine r_ild cd_45_53 rfl rfl ?_
            refine r_cI d1_ cd_45_54 rfl rfl rfl (rc0 hS rfl) rfl rfl rfl ?_
            refine r_if52 cd_45_57 rfl ⟨by omega, by omega⟩ (fun n64 => ?_) (fun n64 => ?_)
            · exact absurd n64 (by decide)
            · refine r_inc (v := 1) cd_45_62 rfl rfl rfl (by omega) (L' := [aR 201, aC 4, aI 1]) rfl ?_
              refine r_goto cd_45_65 ?_
              refine r_ild cd_45_28 rfl rfl ?_
              refine r_aldC cd_45_29 rfl rfl ?_
              refine r_cget (v := aC 54) cd_45_30 rfl (rfl) ?_
              refine r_cI (c_378 54 (by decide) (by decide)) cd_45_33 rfl rfl rfl ⟨by decide, by decide⟩ rfl rfl rfl ?_
              refine RU.cast (pc2 := 36) (S2 := [aI 2, aI 1]) rfl rfl rfl ?_
              refine r_ic64 cd_45_36 rfl ⟨by omega, by omega⟩ ⟨by omega, by omega⟩ (fun n65 => ?_) (fun n65 => ?_)
              · refine r_ild cd_45_39 rfl rfl ?_
                refine r_con (v := 4) cd_45_40 rfl (by decide) ?_
                refine r_ic64 cd_45_41 rfl ⟨by omega, by omega⟩ ⟨by omega, by omega⟩ (fun n66 => ?_) (fun n66 => ?_)
                · refine r_aldR cd_45_44 rfl rfl ?_
                  refine r_aldC cd_45_45 rfl rfl ?_
                  refine r_cget (v := aC 54) cd_45_46 rfl (rfl) ?_
                  refine r_ild cd_45_49 rfl rfl ?_
                  refine r_cI (c_380 54 1 (by decide) (by decide) (by decide)) cd_45_50 rfl rfl rfl ⟨by decide, by decide⟩ rfl rfl rfl ?_
                  refine RU.cast (pc2 := 53) (S2 := [aI 104, aR 201]) rfl rfl rfl ?_
                  refine r_ild cd_45_53 rfl rfl ?_
                  refine r_cI d2_ cd_45_54 rfl rfl rfl (rc0 s1 rfl) rfl rfl rfl ?_
                  refine r_if52 cd_45_57 rfl ⟨by omega, by omega⟩ (fun n67 => ?_) (fun n67 => ?_)
                  · refine r_con (v := 0) cd_45_60 rfl (by decide) ?_
                    exact r_ret cd_45_61 (Or.inl rfl) (rfl)
                  · exact absurd n67 (by decide)
                · exact absurd n66 (by decide)
              · exact absurd n65 (by decide)
          · exact absurd n63 (by decide)
        · exact absurd n62 (by decide)
      · exact absurd n61 (by omega)
    · rw [hA2] at P2
      obtain ⟨g2, d2_, s2, ⟨st2, kd2, vl2, t2⟩, vv2, m2⟩ := P2
      have v2 : g2.2.2 222 = .inl (0, 4, .inl (va_up (va_up va 0 ((q1 : Nat) : Int)) 1 ((q2 : Nat) : Int))) := vv2
      have b2 : g2.2.2 203 = .inl (1, 600, .inl tb) := (m2.1 203 (by decide) (by decide) (by decide)).trans b1
      have R2 : Rp g2 204 w := m2.rp R1
      obtain ⟨z2a, z2b, z2c, z2j, -⟩ := numA_o hA2 (by decide)
      have i2 : j2 ≤ N := by rw [z2j]; exact (tPos i1).2
      have N2 : NC h g2 := N1.tr m2.nc
      by_cases hk : tKnd tx N j2 = 1
      rotate_left
      · obtain ⟨gs, ds, ss, ts, ms⟩ := v_41_5b hN hT dp ex ek eo s2 st2 kd2 vl2 j2 i2 t2 b2 hk
        rw [show cRow 23 tx N i w = .inl (1, ((tOff tx N j2 : Nat) : Int)) from (bnd_r hA1).trans ((bnd_r hA2).trans (bnd_e (if_pos hk)))]
        refine ⟨gs, Ct.of [aR 201, aC 4, aU] rfl ?_, ss, ts, (ms.rp R2).ex, ⟨_, (ms.1 222 (by decide) (by decide)).trans v2⟩, N2.tr ms.nc⟩
        refine r_aldC cd_45_0 rfl rfl ?_
        refine r_nnC cd_45_1 ⟨by decide, by decide⟩ ?_
        refine r_aldR cd_45_10 rfl rfl ?_
        refine r_get cd_45_11 rfl hS rfl ?_
        refine r_con (v := 200) cd_45_14 rfl (by decide) ?_
        refine r_ic63 cd_45_17 rfl ⟨by omega, by omega⟩ ⟨by omega, by omega⟩ (fun n61 => ?_) (fun n61 => ?_)
        · refine r_con (v := 0) cd_45_26 rfl (by decide) ?_
          refine r_ist cd_45_27 rfl rfl (L' := [aR 201, aC 4, aI 0]) rfl ?_
          refine r_ild cd_45_28 rfl rfl ?_
          refine r_aldC cd_45_29 rfl rfl ?_
          refine r_cget (v := aC 54) cd_45_30 rfl (rfl) ?_
          refine r_cI (c_378 54 (by decide) (by decide)) cd_45_33 rfl rfl rfl ⟨by decide, by decide⟩ rfl rfl rfl ?_
          refine RU.cast (pc2 := 36) (S2 := [aI 2, aI 0]) rfl rfl rfl ?_
          refine r_ic64 cd_45_36 rfl ⟨by omega, by omega⟩ ⟨by omega, by omega⟩ (fun n62 => ?_) (fun n62 => ?_)
          · refine r_ild cd_45_39 rfl rfl ?_
            refine r_con (v := 4) cd_45_40 rfl (by decide) ?_
            refine r_ic64 cd_45_41 rfl ⟨by omega, by omega⟩ ⟨by omega, by omega⟩ (fun n63 => ?_) (fun n63 => ?_)
            · refine r_aldR cd_45_44 rfl rfl ?_
              refine r_aldC cd_45_45 rfl rfl ?_
              refine r_cget (v := aC 54) cd_45_46 rfl (rfl) ?_
              refine r_ild cd_45_49 rfl rfl ?_
              refine r_cI (c_380 54 0 (by decide) (by decide) (by decide)) cd_45_50 rfl rfl rfl ⟨by decide, by decide⟩ rfl rfl rfl ?_
              refine RU.cast (pc2 := 53) (S2 := [aI 112, aR 201]) rfl rfl rfl ?_
              refine r_ild cd_45_53 rfl rfl ?_
              refine r_cI d1_ cd_45_54 rfl rfl rfl (rc0 hS rfl) rfl rfl rfl ?_
              refine r_if52 cd_45_57 rfl ⟨by omega, by omega⟩ (fun n64 => ?_) (fun n64 => ?_)
              · exact absurd n64 (by decide)
              · refine r_inc (v := 1) cd_45_62 rfl rfl rfl (by omega) (L' := [aR 201, aC 4, aI 1]) rfl ?_
                refine r_goto cd_45_65 ?_
                refine r_ild cd_45_28 rfl rfl ?_
                refine r_aldC cd_45_29 rfl rfl ?_
                refine r_cget (v := aC 54) cd_45_30 rfl (rfl) ?_
                refine r_cI (c_378 54 (by decide) (by decide)) cd_45_33 rfl rfl rfl ⟨by decide, by decide⟩ rfl rfl rfl ?_
                refine RU.cast (pc2 := 36) (S2 := [aI 2, aI 1]) rfl rfl rfl ?_
                refine r_ic64 cd_45_36 rfl ⟨by omega, by omega⟩ ⟨by omega, by omega⟩ (fun n65 => ?_) (fun n65 => ?_)
                · refine r_ild cd_45_39 rfl rfl ?_
                  refine r_con (v := 4) cd_45_40 rfl (by decide) ?_
                  refine r_ic64 cd_45_41 rfl ⟨by omega, by omega⟩ ⟨by omega, by omega⟩ (fun n66 => ?_) (fun n66 => ?_)
                  · refine r_aldR cd_45_44 rfl rfl ?_
                    refine r_aldC cd_45_45 rfl rfl ?_
                    refine r_cget (v := aC 54) cd_45_46 rfl (rfl) ?_
                    refine r_ild cd_45_49 rfl rfl ?_
                    refine r_cI (c_380 54 1 (by decide) (by decide) (by decide)) cd_45_50 rfl rfl rfl ⟨by decide, by decide⟩ rfl rfl rfl ?_
                    refine RU.cast (pc2 := 53) (S2 := [aI 104, aR 201]) rfl rfl rfl ?_
                    refine r_ild cd_45_53 rfl rfl ?_
                    refine r_cI d2_ cd_45_54 rfl rfl rfl (rc0 s1 rfl) rfl rfl rfl ?_
                    refine r_if52 cd_45_57 rfl ⟨by omega, by omega⟩ (fun n67 => ?_) (fun n67 => ?_)
                    · exact absurd n67 (by decide)
                    · refine r_inc (v := 2) cd_45_62 rfl rfl rfl (by omega) (L' := [aR 201, aC 4, aI 2]) rfl ?_
                      refine r_goto cd_45_65 ?_
                      refine r_ild cd_45_28 rfl rfl ?_
                      refine r_aldC cd_45_29 rfl rfl ?_
                      refine r_cget (v := aC 54) cd_45_30 rfl (rfl) ?_
                      refine r_cI (c_378 54 (by decide) (by decide)) cd_45_33 rfl rfl rfl ⟨by decide, by decide⟩ rfl rfl rfl ?_
                      refine RU.cast (pc2 := 36) (S2 := [aI 2, aI 2]) rfl rfl rfl ?_
                      refine r_ic64 cd_45_36 rfl ⟨by omega, by omega⟩ ⟨by omega, by omega⟩ (fun n68 => ?_) (fun n68 => ?_)
                      · exact absurd n68 (by decide)
                      · refine r_aldR cd_45_68 rfl rfl ?_
                        refine r_con (v := 5) cd_45_69 rfl (by decide) ?_
                        refine r_cI ds cd_45_70 rfl rfl rfl (rc0 s2 rfl) rfl rfl rfl ?_
                        refine r_if52 cd_45_73 rfl ⟨by omega, by omega⟩ (fun n69 => ?_) (fun n69 => ?_)
                        · refine r_con (v := 0) cd_45_76 rfl (by decide) ?_
                          exact r_ret cd_45_77 (Or.inl rfl) (rfl)
                        · exact absurd n69 (by decide)
                  · exact absurd n66 (by decide)
                · exact absurd n65 (by decide)
            · exact absurd n63 (by decide)
          · exact absurd n62 (by decide)
        · exact absurd n61 (by omega)
      obtain ⟨gs, ds, ss, ⟨kds, vls, ts⟩, ms⟩ := v_41_5a hN hT dp ex ek eo s2 st2 kd2 vl2 j2 i2 t2 b2 hk
      have Rs := ms.rp R2
      have vs : gs.2.2 222 = .inl (0, 4, .inl (va_up (va_up va 0 ((q1 : Nat) : Int)) 1 ((q2 : Nat) : Int))) := (ms.1 222 (by decide) (by decide)).trans v2
      have nk : ¬ ¬ tKnd tx N j2 = 1 := fun e => e hk
      obtain ⟨fs, o204⟩ := Rs.o
      have hr : false = false := rfl
      obtain ⟨gc, dc, Rc, Fc⟩ := v_84_0 (B := 204) Rs hI.1 q1 (by omega) ((q2 : Nat) : Int) ((va_up (va_up va 0 ((q1 : Nat) : Int)) 1 ((q2 : Nat) : Int)) 2) ((va_up (va_up va 0 ((q1 : Nat) : Int)) 1 ((q2 : Nat) : Int)) 3)
      have sc := (Fc.1 201 (by decide)).trans ss
      have vc := (Fc.1 222 (by decide)).trans vs
      have tc := (Fc.1 202 (by decide)).trans ts
      rw [show cRow 23 tx N i w = .inr (tEnd tx N j2, va_up w (23 + q1) ((q2 : Nat) : Int)) from (bnd_r hA1).trans ((bnd_r hA2).trans ((bnd_r ((if_neg nk).trans (if_pos rfl)))))]
      refine ⟨sw gc 201 (SO dp (ex + 1) ek eo), Ct.of [aR 201, aC 4, aU] rfl ?_, sw_at _ _ _, ⟨_, _, _, (sw_ne (by decide)).trans tc⟩, Rc.mv fun a h1 h2 => sw_ne (by omega), ⟨_, (sw_ne (by decide)).trans vc⟩, ((N2.tr ms.nc).tr Fc.nc).s⟩
      refine r_aldC cd_45_0 rfl rfl ?_
      refine r_nnC cd_45_1 ⟨by decide, by decide⟩ ?_
      refine r_aldR cd_45_10 rfl rfl ?_
      refine r_get cd_45_11 rfl hS rfl ?_
      refine r_con (v := 200) cd_45_14 rfl (by decide) ?_
      refine r_ic63 cd_45_17 rfl ⟨by omega, by omega⟩ ⟨by omega, by omega⟩ (fun n61 => ?_) (fun n61 => ?_)
      · refine r_con (v := 0) cd_45_26 rfl (by decide) ?_
        refine r_ist cd_45_27 rfl rfl (L' := [aR 201, aC 4, aI 0]) rfl ?_
        refine r_ild cd_45_28 rfl rfl ?_
        refine r_aldC cd_45_29 rfl rfl ?_
        refine r_cget (v := aC 54) cd_45_30 rfl (rfl) ?_
        refine r_cI (c_378 54 (by decide) (by decide)) cd_45_33 rfl rfl rfl ⟨by decide, by decide⟩ rfl rfl rfl ?_
        refine RU.cast (pc2 := 36) (S2 := [aI 2, aI 0]) rfl rfl rfl ?_
        refine r_ic64 cd_45_36 rfl ⟨by omega, by omega⟩ ⟨by omega, by omega⟩ (fun n62 => ?_) (fun n62 => ?_)
        · refine r_ild cd_45_39 rfl rfl ?_
          refine r_con (v := 4) cd_45_40 rfl (by decide) ?_
          refine r_ic64 cd_45_41 rfl ⟨by omega, by omega⟩ ⟨by omega, by omega⟩ (fun n63 => ?_) (fun n63 => ?_)
          · refine r_aldR cd_45_44 rfl rfl ?_
            refine r_aldC cd_45_45 rfl rfl ?_
            refine r_cget (v := aC 54) cd_45_46 rfl (rfl) ?_
            refine r_ild cd_45_49 rfl rfl ?_
            refine r_cI (c_380 54 0 (by decide) (by decide) (by decide)) cd_45_50 rfl rfl rfl ⟨by decide, by decide⟩ rfl rfl rfl ?_
            refine RU.cast (pc2 := 53) (S2 := [aI 112, aR 201]) rfl rfl rfl ?_
            refine r_ild cd_45_53 rfl rfl ?_
            refine r_cI d1_ cd_45_54 rfl rfl rfl (rc0 hS rfl) rfl rfl rfl ?_
            refine r_if52 cd_45_57 rfl ⟨by omega, by omega⟩ (fun n64 => ?_) (fun n64 => ?_)
            · exact absurd n64 (by decide)
            · refine r_inc (v := 1) cd_45_62 rfl rfl rfl (by omega) (L' := [aR 201, aC 4, aI 1]) rfl ?_
              refine r_goto cd_45_65 ?_
              refine r_ild cd_45_28 rfl rfl ?_
              refine r_aldC cd_45_29 rfl rfl ?_
              refine r_cget (v := aC 54) cd_45_30 rfl (rfl) ?_
              refine r_cI (c_378 54 (by decide) (by decide)) cd_45_33 rfl rfl rfl ⟨by decide, by decide⟩ rfl rfl rfl ?_
              refine RU.cast (pc2 := 36) (S2 := [aI 2, aI 1]) rfl rfl rfl ?_
              refine r_ic64 cd_45_36 rfl ⟨by omega, by omega⟩ ⟨by omega, by omega⟩ (fun n65 => ?_) (fun n65 => ?_)
              · refine r_ild cd_45_39 rfl rfl ?_
                refine r_con (v := 4) cd_45_40 rfl (by decide) ?_
                refine r_ic64 cd_45_41 rfl ⟨by omega, by omega⟩ ⟨by omega, by omega⟩ (fun n66 => ?_) (fun n66 => ?_)
                · refine r_aldR cd_45_44 rfl rfl ?_
                  refine r_aldC cd_45_45 rfl rfl ?_
                  refine r_cget (v := aC 54) cd_45_46 rfl (rfl) ?_
                  refine r_ild cd_45_49 rfl rfl ?_
                  refine r_cI (c_380 54 1 (by decide) (by decide) (by decide)) cd_45_50 rfl rfl rfl ⟨by decide, by decide⟩ rfl rfl rfl ?_
                  refine RU.cast (pc2 := 53) (S2 := [aI 104, aR 201]) rfl rfl rfl ?_
                  refine r_ild cd_45_53 rfl rfl ?_
                  refine r_cI d2_ cd_45_54 rfl rfl rfl (rc0 s1 rfl) rfl rfl rfl ?_
                  refine r_if52 cd_45_57 rfl ⟨by omega, by omega⟩ (fun n67 => ?_) (fun n67 => ?_)
                  · exact absurd n67 (by decide)
                  · refine r_inc (v := 2) cd_45_62 rfl rfl rfl (by omega) (L' := [aR 201, aC 4, aI 2]) rfl ?_
                    refine r_goto cd_45_65 ?_
                    refine r_ild cd_45_28 rfl rfl ?_
                    refine r_aldC cd_45_29 rfl rfl ?_
                    refine r_cget (v := aC 54) cd_45_30 rfl (rfl) ?_
                    refine r_cI (c_378 54 (by decide) (by decide)) cd_45_33 rfl rfl rfl ⟨by decide, by decide⟩ rfl rfl rfl ?_
                    refine RU.cast (pc2 := 36) (S2 := [aI 2, aI 2]) rfl rfl rfl ?_
                    refine r_ic64 cd_45_36 rfl ⟨by omega, by omega⟩ ⟨by omega, by omega⟩ (fun n68 => ?_) (fun n68 => ?_)
                    · exact absurd n68 (by decide)
                    · refine r_aldR cd_45_68 rfl rfl ?_
                      refine r_con (v := 5) cd_45_69 rfl (by decide) ?_
                      refine r_cI ds cd_45_70 rfl rfl rfl (rc0 s2 rfl) rfl rfl rfl ?_
                      refine r_if52 cd_45_73 rfl ⟨by omega, by omega⟩ (fun n69 => ?_) (fun n69 => ?_)
                      · exact absurd n69 (by decide)
                      · refine r_aldR cd_45_78 rfl rfl ?_
                        refine r_get cd_45_79 rfl ss rfl ?_
                        refine r_aldC cd_45_82 rfl rfl ?_
                        refine r_aldR cd_45_83 rfl rfl ?_
                        refine r_get cd_45_84 rfl ss rfl ?_
                        refine r_con (v := 0) cd_45_87 rfl (by decide) ?_
                        refine r_arr (i := 0) cd_45_88 rfl vs rfl (by omega) rfl ?_
                        refine RU.cast (pc2 := 89) (S2 := [aI ((q1 : Nat) : Int), aC 4, aR 204]) rfl rfl rfl ?_
                        refine r_aldR cd_45_89 rfl rfl ?_
                        refine r_get cd_45_90 rfl ss rfl ?_
                        refine r_con (v := 1) cd_45_93 rfl (by decide) ?_
                        refine r_arr (i := 1) cd_45_94 rfl vs rfl (by omega) rfl ?_
                        refine RU.cast (pc2 := 95) (S2 := [aI ((q2 : Nat) : Int), aI ((q1 : Nat) : Int), aC 4, aR 204]) rfl rfl rfl ?_
                        refine r_aldR cd_45_95 rfl rfl ?_
                        refine r_get cd_45_96 rfl ss rfl ?_
                        refine r_con (v := 3) cd_45_99 rfl (by decide) ?_
                        refine r_arr (i := 3) cd_45_100 rfl vs rfl (by omega) rfl ?_
                        refine r_cI (k_76_0 Rs hI.1 _ _ _) cd_45_101 rfl rfl rfl (rc0 o204 rfl) rfl rfl rfl ?_
                        refine r_if51b cd_45_104 rfl (fun n70 => ?_) (fun n70 => ?_)
                        · refine r_aldR cd_45_113 rfl rfl ?_
                          refine r_get cd_45_114 rfl ss rfl ?_
                          refine r_aldC cd_45_117 rfl rfl ?_
                          refine r_aldR cd_45_118 rfl rfl ?_
                          refine r_get cd_45_119 rfl ss rfl ?_
                          refine r_con (v := 0) cd_45_122 rfl (by decide) ?_
                          refine r_arr (i := 0) cd_45_123 rfl vs rfl (by omega) rfl ?_
                          refine RU.cast (pc2 := 124) (S2 := [aI ((q1 : Nat) : Int), aC 4, aR 204]) rfl rfl rfl ?_
                          refine r_aldR cd_45_124 rfl rfl ?_
                          refine r_get cd_45_125 rfl ss rfl ?_
                          refine r_con (v := 1) cd_45_128 rfl (by decide) ?_
                          refine r_arr (i := 1) cd_45_129 rfl vs rfl (by omega) rfl ?_
                          refine RU.cast (pc2 := 130) (S2 := [aI ((q2 : Nat) : Int), aI ((q1 : Nat) : Int), aC 4, aR 204]) rfl rfl rfl ?_
                          refine r_aldR cd_45_130 rfl rfl ?_
                          refine r_get cd_45_131 rfl ss rfl ?_
                          refine r_con (v := 2) cd_45_134 rfl (by decide) ?_
                          refine r_arr (i := 2) cd_45_135 rfl vs rfl (by omega) rfl ?_
                          refine r_aldR cd_45_136 rfl rfl ?_
                          refine r_get cd_45_137 rfl ss rfl ?_
                          refine r_con (v := 3) cd_45_140 rfl (by decide) ?_
                          refine r_arr (i := 3) cd_45_141 rfl vs rfl (by omega) rfl ?_
                          refine r_cI dc cd_45_142 rfl rfl rfl (rc0 o204 rfl) rfl rfl rfl ?_
                          refine r_pop cd_45_145 rfl rfl ?_
                          refine r_aldR cd_45_146 rfl rfl ?_
                          refine r_dup cd_45_147 rfl rfl ?_
                          refine r_get cd_45_148 rfl sc rfl ?_
                          refine r_con (v := 1) cd_45_151 rfl (by decide) ?_
                          refine r_add (v := ex + 1) cd_45_152 rfl (by rfl) ?_
                          refine r_put (fs' := [aR 202, aR 204, aR 222, aR 223, aR 224, aI dp, aI (ex + 1), aI ek, aI eo]) cd_45_153 rfl sc rfl rfl ?_
                          refine r_con (v := 1) cd_45_156 rfl (by decide) ?_
                          exact r_ret cd_45_157 (Or.inr rfl) (rfl)
                        · exact absurd n70 (by decide)
                · exact absurd n66 (by decide)
              · exact absurd n65 (by decide)
          · exact absurd n63 (by decide)
        · exact absurd n62 (by decide)
      · exact absurd n61 (by omega)
theorem v_45_1 {h : aH} {tx tb : Nat → Int} {N : Nat} (hN : N ≤ 600) (hT : ∀ k, k < N → BT (tx k) (tb k)) (dp ex ek eo : Int) (hS : h.2.2 201 = SO dp ex ek eo) (hx0 : 0 ≤ ex) (hx : ex < 200) {w : Nat → Int} (hR : Rp h 204 w) (hI : Inv w) {va : Nat → Int} (hV : h.2.2 222 = .inl (0, 4, .inl va)) (hb : TxB tx) (st kd vl : Int) (i : Nat) (hi : i ≤ N) (hO : h.2.2 202 = TO N st ((i : Nat) : Int) kd vl) (hB : h.2.2 203 = .inl (1, 600, .inl tb)) : CmdP 8 45 [aR 201, aC 5] h N dp ex ek eo (cRow 53 tx N i w) := by
  have hbn := hI.1.bNe
  have hpn := hI.1.pNe
  have x0 := hI.1.len
  have x1 := hI.2.1
  have x1b := hI.1.hour
  have x4 := hI.1.gn
  have x5 := hI.1.bn
  have x6 := hI.1.pn
  have P1 := v_46_p0 hN hT dp ex ek eo hS hR hI.1 hV hb st kd vl i hi hO hB
  rcases hA1 : numA tx N i 0 (w 0 - 1) with e | ⟨q1, j1⟩
  · rw [hA1] at P1
    obtain ⟨g1, d1_, s1, t1, v1, m1⟩ := P1
    rw [show cRow 53 tx N i w = .inl e from bnd_e hA1]
    refine ⟨g1, Ct.of [aR 201, aC 5, aU] rfl ?_, s1, t1, (m1.rp hR).ex, v1, NC.rf.tr m1.nc⟩
    refine r_aldC cd_45_0 rfl rfl ?_
    refine r_nnC cd_45_1 ⟨by decide, by decide⟩ ?_
    refine r_aldR cd_45_10 rfl rfl ?_
    refine r_get cd_45_11 rfl hS rfl ?_
    refine r_con (v := 200) cd_45_14 rfl (by decide) ?_
    refine r_ic63 cd_45_17 rfl ⟨by omega, by omega⟩ ⟨by omega, by omega⟩ (fun n61 => ?_) (fun n61 => ?_)
    · refine r_con (v := 0) cd_45_26 rfl (by decide) ?_
      refine r_ist cd_45_27 rfl rfl (L' := [aR 201, aC 5, aI 0]) rfl ?_
      refine r_ild cd_45_28 rfl rfl ?_
      refine r_aldC cd_45_29 rfl rfl ?_
      refine r_cget (v := aC 54) cd_45_30 rfl (rfl) ?_
      refine r_cI (c_378 54 (by decide) (by decide)) cd_45_33 rfl rfl rfl ⟨by decide, by decide⟩ rfl rfl rfl ?_
      refine RU.cast (pc2 := 36) (S2 := [aI 2, aI 0]) rfl rfl rfl ?_
      refine r_ic64 cd_45_36 rfl ⟨by omega, by omega⟩ ⟨by omega, by omega⟩ (fun n62 => ?_) (fun n62 => ?_)
      · refine r_ild cd_45_39 rfl rfl ?_
        refine r_con (v := 4) cd_45_40 rfl (by decide) ?_
        refine r_ic64 cd_45_41 rfl ⟨by omega, by omega⟩ ⟨by omega, by omega⟩ (fun n63 => ?_) (fun n63 => ?_)
        · refine r_aldR cd_45_44 rfl rfl ?_
          refine r_aldC cd_45_45 rfl rfl ?_
          refine r_cget (v := aC 54) cd_45_46 rfl (rfl) ?_
          refine r_ild cd_45_49 rfl rfl ?_
          refine r_cI (c_380 54 0 (by decide) (by decide) (by decide)) cd_45_50 rfl rfl rfl ⟨by decide, by decide⟩ rfl rfl rfl ?_
          refine RU.cast (pc2 := 53) (S2 := [aI 112, aR 201]) rfl rfl rfl ?_
          refine r_ild cd_45_53 rfl rfl ?_
          refine r_cI d1_ cd_45_54 rfl rfl rfl (rc0 hS rfl) rfl rfl rfl ?_
          refine r_if52 cd_45_57 rfl ⟨by omega, by omega⟩ (fun n64 => ?_) (fun n64 => ?_)
          · refine r_con (v := 0) cd_45_60 rfl (by decide) ?_
            exact r_ret cd_45_61 (Or.inl rfl) (rfl)
          · exact absurd n64 (by decide)
        · exact absurd n63 (by decide)
      · exact absurd n62 (by decide)
    · exact absurd n61 (by omega)
  · rw [hA1] at P1
    obtain ⟨g1, d1_, s1, ⟨st1, kd1, vl1, t1⟩, vv1, m1⟩ := P1
    have v1 : g1.2.2 222 = .inl (0, 4, .inl (va_up va 0 ((q1 : Nat) : Int))) := vv1
    have b1 : g1.2.2 203 = .inl (1, 600, .inl tb) := (m1.1 203 (by decide) (by decide) (by decide)).trans hB
    have R1 : Rp g1 204 w := m1.rp hR
    obtain ⟨z1a, z1b, z1c, z1j, -⟩ := numA_o hA1 (by decide)
    have i1 : j1 ≤ N := by rw [z1j]; exact (tPos hi).2
    have N1 : NC h g1 := NC.rf.tr m1.nc
    have P2 := v_46_h1 hN hT dp ex ek eo s1 R1 hI.1 v1 hb st1 kd1 vl1 j1 i1 t1 b1
    rcases hA2 : numA tx N j1 0 9 with e | ⟨q2, j2⟩
    · rw [hA2] at P2
      obtain ⟨g2, d2_, s2, t2, v2, m2⟩ := P2
      rw [show cRow 53 tx N i w = .inl e from (bnd_r hA1).trans (bnd_e hA2)]
      refine ⟨g2, Ct.of [aR 201, aC 5, aU] rfl ?_, s2, t2, (m2.rp R1).ex, v2, N1.tr m2.nc⟩
      refine r_aldC cd_45_0 rfl rfl ?_
      refine r_nnC cd_45_1 ⟨by decide, by decide⟩ ?_
      refine r_aldR cd_45_10 rfl rfl ?_
      refine r_get cd_45_11 rfl hS rfl ?_
      refine r_con (v := 200) cd_45_14 rfl (by decide) ?_
      refine r_ic63 cd_45_17 rfl ⟨by omega, by omega⟩ ⟨by omega, by omega⟩ (fun n61 => ?_) (fun n61 => ?_)
      · refine r_con (v := 0) cd_45_26 rfl (by decide) ?_
        refine r_ist cd_45_27 rfl rfl (L' := [aR 201, aC 5, aI 0]) rfl ?_
        refine r_ild cd_45_28 rfl rfl ?_
        refine r_aldC cd_45_29 rfl rfl ?_
        refine r_cget (v := aC 54) cd_45_30 rfl (rfl) ?_
        refine r_cI (c_378 54 (by decide) (by decide)) cd_45_33 rfl rfl rfl ⟨by decide, by decide⟩ rfl rfl rfl ?_
        refine RU.cast (pc2 := 36) (S2 := [aI 2, aI 0]) rfl rfl rfl ?_
        refine r_ic64 cd_45_36 rfl ⟨by omega, by omega⟩ ⟨by omega, by omega⟩ (fun n62 => ?_) (fun n62 => ?_)
        · refine r_ild cd_45_39 rfl rfl ?_
          refine r_con (v := 4) cd_45_40 rfl (by decide) ?_
          refine r_ic64 cd_45_41 rfl ⟨by omega, by omega⟩ ⟨by omega, by omega⟩ (fun n63 => ?_) (fun n63 => ?_)
          · refine r_aldR cd_45_44 rfl rfl ?_
            refine r_aldC cd_45_45 rfl rfl ?_
            refine r_cget (v := aC 54) cd_45_46 rfl (rfl) ?_
            refine r_ild cd_45_49 rfl rfl ?_
            refine r_cI (c_380 54 0 (by decide) (by decide) (by decide)) cd_45_50 rfl rfl rfl ⟨by decide, by decide⟩ rfl rfl rfl ?_
            refine RU.cast (pc2 := 53) (S2 := [aI 112, aR 201]) rfl rfl rfl ?_
            refine r_ild cd_45_53 rfl rfl ?_
            refine r_cI d1_ cd_45_54 rfl rfl rfl (rc0 hS rfl) rfl rfl rfl ?_
            refine r_if52 cd_45_57 rfl ⟨by omega, by omega⟩ (fun n64 => ?_) (fun n64 => ?_)
            · exact absurd n64 (by decide)
            · refine r_inc (v := 1) cd_45_62 rfl rfl rfl (by omega) (L' := [aR 201, aC 5, aI 1]) rfl ?_
              refine r_goto cd_45_65 ?_
              refine r_ild cd_45_28 rfl rfl ?_
              refine r_aldC cd_45_29 rfl rfl ?_
              refine r_cget (v := aC 54) cd_45_30 rfl (rfl) ?_
              refine r_cI (c_378 54 (by decide) (by decide)) cd_45_33 rfl rfl rfl ⟨by decide, by decide⟩ rfl rfl rfl ?_
              refine RU.cast (pc2 := 36) (S2 := [aI 2, aI 1]) rfl rfl rfl ?_
              refine r_ic64 cd_45_36 rfl ⟨by omega, by omega⟩ ⟨by omega, by omega⟩ (fun n65 => ?_) (fun n65 => ?_)
              · refine r_ild cd_45_39 rfl rfl ?_
                refine r_con (v := 4) cd_45_40 rfl (by decide) ?_
                refine r_ic64 cd_45_41 rfl ⟨by omega, by omega⟩ ⟨by omega, by omega⟩ (fun n66 => ?_) (fun n66 => ?_)
                · refine r_aldR cd_45_44 rfl rfl ?_
                  refine r_aldC cd_45_45 rfl rfl ?_
                  refine r_cget (v := aC 54) cd_45_46 rfl (rfl) ?_
                  refine r_ild cd_45_49 rfl rfl ?_
                  refine r_cI (c_380 54 1 (by decide) (by decide) (by decide)) cd_45_50 rfl rfl rfl ⟨by decide, by decide⟩ rfl rfl rfl ?_
                  refine RU.cast (pc2 := 53) (S2 := [aI 104, aR 201]) rfl rfl rfl ?_
                  refine r_ild cd_45_53 rfl rfl ?_
                  refine r_cI d2_ cd_45_54 rfl rfl rfl (rc0 s1 rfl) rfl rfl rfl ?_
                  refine r_if52 cd_45_57 rfl ⟨by omega, by omega⟩ (fun n67 => ?_) (fun n67 => ?_)
                  · refine r_con (v := 0) cd_45_60 rfl (by decide) ?_
                    exact r_ret cd_45_61 (Or.inl rfl) (rfl)
                  · exact absurd n67 (by decide)
                · exact absurd n66 (by decide)
              · exact absurd n65 (by decide)
          · exact absurd n63 (by decide)
        · exact absurd n62 (by decide)
      · exact absurd n61 (by omega)
    · rw [hA2] at P2
      obtain ⟨g2, d2_, s2, ⟨st2, kd2, vl2, t2⟩, vv2, m2⟩ := P2
      have v2 : g2.2.2 222 = .inl (0, 4, .inl (va_up (va_up va 0 ((q1 : Nat) : Int)) 1 ((q2 : Nat) : Int))) := vv2
      have b2 : g2.2.2 203 = .inl (1, 600, .inl tb) := (m2.1 203 (by decide) (by decide) (by decide)).trans b1
      have R2 : Rp g2 204 w := m2.rp R1
      obtain ⟨z2a, z2b, z2c, z2j, -⟩ := numA_o hA2 (by decide)
      have i2 : j2 ≤ N := by rw [z2j]; exact (tPos i1).2
      have N2 : NC h g2 := N1.tr m2.nc
      by_cases hk : tKnd tx N j2 = 1
      rotate_left
      · obtain ⟨gs, ds, ss, ts, ms⟩ := v_41_5b hN hT dp ex ek eo s2 st2 kd2 vl2 j2 i2 t2 b2 hk
        rw [show cRow 53 tx N i w = .inl (1, ((tOff tx N j2 : Nat) : Int)) from (bnd_r hA1).trans ((bnd_r hA2).trans (bnd_e (if_pos hk)))]
        refine ⟨gs, Ct.of [aR 201, aC 5, aU] rfl ?_, ss, ts, (ms.rp R2).ex, ⟨_, (ms.1 222 (by decide) (by decide)).trans v2⟩, N2.tr ms.nc⟩
        refine r_aldC cd_45_0 rfl rfl ?_
        refine r_nnC cd_45_1 ⟨by decide, by decide⟩ ?_
        refine r_aldR cd_45_10 rfl rfl ?_
        refine r_get cd_45_11 rfl hS rfl ?_
        refine r_con (v := 200) cd_45_14 rfl (by decide) ?_
        refine r_ic63 cd_45_17 rfl ⟨by omega, by omega⟩ ⟨by omega, by omega⟩ (fun n61 => ?_) (fun n61 => ?_)
        · refine r_con (v := 0) cd_45_26 rfl (by decide) ?_
          refine r_ist cd_45_27 rfl rfl (L' := [aR 201, aC 5, aI 0]) rfl ?_
          refine r_ild cd_45_28 rfl rfl ?_
          refine r_aldC cd_45_29 rfl rfl ?_
          refine r_cget (v := aC 54) cd_45_30 rfl (rfl) ?_
          refine r_cI (c_378 54 (by decide) (by decide)) cd_45_33 rfl rfl rfl ⟨by decide, by decide⟩ rfl rfl rfl ?_
          refine RU.cast (pc2 := 36) (S2 := [aI 2, aI 0]) rfl rfl rfl ?_
          refine r_ic64 cd_45_36 rfl ⟨by omega, by omega⟩ ⟨by omega, by omega⟩ (fun n62 => ?_) (fun n62 => ?_)
          · refine r_ild cd_45_39 rfl rfl ?_
            refine r_con (v := 4) cd_45_40 rfl (by decide) ?_
            refine r_ic64 cd_45_41 rfl ⟨by omega, by omega⟩ ⟨by omega, by omega⟩ (fun n63 => ?_) (fun n63 => ?_)
            · refine r_aldR cd_45_44 rfl rfl ?_
              refine r_aldC cd_45_45 rfl rfl ?_
              refine r_cget (v := aC 54) cd_45_46 rfl (rfl) ?_
              refine r_ild cd_45_49 rfl rfl ?_
              refine r_cI (c_380 54 0 (by decide) (by decide) (by decide)) cd_45_50 rfl rfl rfl ⟨by decide, by decide⟩ rfl rfl rfl ?_
              refine RU.cast (pc2 := 53) (S2 := [aI 112, aR 201]) rfl rfl rfl ?_
              refine r_ild cd_45_53 rfl rfl ?_
              refine r_cI d1_ cd_45_54 rfl rfl rfl (rc0 hS rfl) rfl rfl rfl ?_
              refine r_if52 cd_45_57 rfl ⟨by omega, by omega⟩ (fun n64 => ?_) (fun n64 => ?_)
              · exact absurd n64 (by decide)
              · refine r_inc (v := 1) cd_45_62 rfl rfl rfl (by omega) (L' := [aR 201, aC 5, aI 1]) rfl ?_
                refine r_goto cd_45_65 ?_
                refine r_ild cd_45_28 rfl rfl ?_
                refine r_aldC cd_45_29 rfl rfl ?_
                refine r_cget (v := aC 54) cd_45_30 rfl (rfl) ?_
                refine r_cI (c_378 54 (by decide) (by decide)) cd_45_33 rfl rfl rfl ⟨by decide, by decide⟩ rfl rfl rfl ?_
                refine RU.cast (pc2 := 36) (S2 := [aI 2, aI 1]) rfl rfl rfl ?_
                refine r_ic64 cd_45_36 rfl ⟨by omega, by omega⟩ ⟨by omega, by omega⟩ (fun n65 => ?_) (fun n65 => ?_)
                · refine r_ild cd_45_39 rfl rfl ?_
                  refine r_con (v := 4) cd_45_40 rfl (by decide) ?_
                  refine r_ic64 cd_45_41 rfl ⟨by omega, by omega⟩ ⟨by omega, by omega⟩ (fun n66 => ?_) (fun n66 => ?_)
                  · refine r_aldR cd_45_44 rfl rfl ?_
                    refine r_aldC cd_45_45 rfl rfl ?_
                    refine r_cget (v := aC 54) cd_45_46 rfl (rfl) ?_
                    refine r_ild cd_45_49 rfl rfl ?_
                    refine r_cI (c_380 54 1 (by decide) (by decide) (by decide)) cd_45_50 rfl rfl rfl ⟨by decide, by decide⟩ rfl rfl rfl ?_
                    refine RU.cast (pc2 := 53) (S2 := [aI 104, aR 201]) rfl rfl rfl ?_
                    refine r_ild cd_45_53 rfl rfl ?_
                    refine r_cI d2_ cd_45_54 rfl rfl rfl (rc0 s1 rfl) rfl rfl rfl ?_
                    refine r_if52 cd_45_57 rfl ⟨by omega, by omega⟩ (fun n67 => ?_) (fun n67 => ?_)
                    · exact absurd n67 (by decide)
                    · refine r_inc (v := 2) cd_45_62 rfl rfl rfl (by omega) (L' := [aR 201, aC 5, aI 2]) rfl ?_
                      refine r_goto cd_45_65 ?_
                      refine r_ild cd_45_28 rfl rfl ?_
                      refine r_aldC cd_45_29 rfl rfl ?_
                      refine r_cget (v := aC 54) cd_45_30 rfl (rfl) ?_
                      refine r_cI (c_378 54 (by decide) (by decide)) cd_45_33 rfl rfl rfl ⟨by decide, by decide⟩ rfl rfl rfl ?_
                      refine RU.cast (pc2 := 36) (S2 := [aI 2, aI 2]) rfl rfl rfl ?_
                      refine r_ic64 cd_45_36 rfl ⟨by omega, by omega⟩ ⟨by omega, by omega⟩ (fun n68 => ?_) (fun n68 => ?_)
                      · exact absurd n68 (by decide)
                      · refine r_aldR cd_45_68 rfl rfl ?_
                        refine r_con (v := 5) cd_45_69 rfl (by decide) ?_
                        refine r_cI ds cd_45_70 rfl rfl rfl (rc0 s2 rfl) rfl rfl rfl ?_
                        refine r_if52 cd_45_73 rfl ⟨by omega, by omega⟩ (fun n69 => ?_) (fun n69 => ?_)
                        · refine r_con (v := 0) cd_45_76 rfl (by decide) ?_
                          exact r_ret cd_45_77 (Or.inl rfl) (rfl)
                        · exact absurd n69 (by decide)
                  · exact absurd n66 (by decide)
                · exact absurd n65 (by decide)
            · exact absurd n63 (by decide)
          · exact absurd n62 (by decide)
        · exact absurd n61 (by omega)
      obtain ⟨gs, ds, ss, ⟨kds, vls, ts⟩, ms⟩ := v_41_5a hN hT dp ex ek eo s2 st2 kd2 vl2 j2 i2 t2 b2 hk
      have Rs := ms.rp R2
      have vs : gs.2.2 222 = .inl (0, 4, .inl (va_up (va_up va 0 ((q1 : Nat) : Int)) 1 ((q2 : Nat) : Int))) := (ms.1 222 (by decide) (by decide)).trans v2
      have nk : ¬ ¬ tKnd tx N j2 = 1 := fun e => e hk
      obtain ⟨fs, o204⟩ := Rs.o
      have hr : false = false := rfl
      obtain ⟨gc, dc, Rc, Fc⟩ := v_84_1 (B := 204) Rs hI.1 q1 (by omega) ((q2 : Nat) : Int) ((va_up (va_up va 0 ((q1 : Nat) : Int)) 1 ((q2 : Nat) : Int)) 2) ((va_up (va_up va 0 ((q1 : Nat) : Int)) 1 ((q2 : Nat) : Int)) 3)
      have sc := (Fc.1 201 (by decide)).trans ss
      have vc := (Fc.1 222 (by decide)).trans vs
      have tc := (Fc.1 202 (by decide)).trans ts
      rw [show cRow 53 tx N i w = .inr (tEnd tx N j2, va_up w (53 + q1) ((q2 : Nat) : Int)) from (bnd_r hA1).trans ((bnd_r hA2).trans ((bnd_r ((if_neg nk).trans (if_pos rfl)))))]
      refine ⟨sw gc 201 (SO dp (ex + 1) ek eo), Ct.of [aR 201, aC 5, aU] rfl ?_, sw_at _ _ _, ⟨_, _, _, (sw_ne (by decide)).trans tc⟩, Rc.mv fun a h1 h2 => sw_ne (by omega), ⟨_, (sw_ne (by decide)).trans vc⟩, ((N2.tr ms.nc).tr Fc.nc).s⟩
      refine r_aldC cd_45_0 rfl rfl ?_
      refine r_nnC cd_45_1 ⟨by decide, by decide⟩ ?_
      refine r_aldR cd_45_10 rfl rfl ?_
      refine r_get cd_45_11 rfl hS rfl ?_
      refine r_con (v := 200) cd_45_14 rfl (by decide) ?_
      refine r_ic63 cd_45_17 rfl ⟨by omega, by omega⟩ ⟨by omega, by omega⟩ (fun n61 => ?_) (fun n61 => ?_)
      · refine r_con (v := 0) cd_45_26 rfl (by decide) ?_
        refine r_ist cd_45_27 rfl rfl (L' := [aR 201, aC 5, aI 0]) rfl ?_
        refine r_ild cd_45_28 rfl rfl ?_
        refine r_aldC cd_45_29 rfl rfl ?_
        refine r_cget (v := aC 54) cd_45_30 rfl (rfl) ?_
        refine r_cI (c_378 54 (by decide) (by decide)) cd_45_33 rfl rfl rfl ⟨by decide, by decide⟩ rfl rfl rfl ?_
        refine RU.cast (pc2 := 36) (S2 := [aI 2, aI 0]) rfl rfl rfl ?_
        refine r_ic64 cd_45_36 rfl ⟨by omega, by omega⟩ ⟨by omega, by omega⟩ (fun n62 => ?_) (fun n62 => ?_)
        · refine r_ild cd_45_39 rfl rfl ?_
          refine r_con (v := 4) cd_45_40 rfl (by decide) ?_
          refine r_ic64 cd_45_41 rfl ⟨by omega, by omega⟩ ⟨by omega, by omega⟩ (fun n63 => ?_) (fun n63 => ?_)
          · refine r_aldR cd_45_44 rfl rfl ?_
            refine r_aldC cd_45_45 rfl rfl ?_
            refine r_cget (v := aC 54) cd_45_46 rfl (rfl) ?_
            refine r_ild cd_45_49 rfl rfl ?_
            refine r_cI (c_380 54 0 (by decide) (by decide) (by decide)) cd_45_50 rfl rfl rfl ⟨by decide, by decide⟩ rfl rfl rfl ?_
            refine RU.cast (pc2 := 53) (S2 := [aI 112, aR 201]) rfl rfl rfl ?_
            refine r_ild cd_45_53 rfl rfl ?_
            refine r_cI d1_ cd_45_54 rfl rfl rfl (rc0 hS rfl) rfl rfl rfl ?_
            refine r_if52 cd_45_57 rfl ⟨by omega, by omega⟩ (fun n64 => ?_) (fun n64 => ?_)
            · exact absurd n64 (by decide)
            · refine r_inc (v := 1) cd_45_62 rfl rfl rfl (by omega) (L' := [aR 201, aC 5, aI 1]) rfl ?_
              refine r_goto cd_45_65 ?_
              refine r_ild cd_45_28 rfl rfl ?_
              refine r_aldC cd_45_29 rfl rfl ?_
              refine r_cget (v := aC 54) cd_45_30 rfl (rfl) ?_
              refine r_cI (c_378 54 (by decide) (by decide)) cd_45_33 rfl rfl rfl ⟨by decide, by decide⟩ rfl rfl rfl ?_
              refine RU.cast (pc2 := 36) (S2 := [aI 2, aI 1]) rfl rfl rfl ?_
              refine r_ic64 cd_45_36 rfl ⟨by omega, by omega⟩ ⟨by omega, by omega⟩ (fun n65 => ?_) (fun n65 => ?_)
              · refine r_ild cd_45_39 rfl rfl ?_
                refine r_con (v := 4) cd_45_40 rfl (by decide) ?_
                refine r_ic64 cd_45_41 rfl ⟨by omega, by omega⟩ ⟨by omega, by omega⟩ (fun n66 => ?_) (fun n66 => ?_)
                · refine r_aldR cd_45_44 rfl rfl ?_
                  refine r_aldC cd_45_45 rfl rfl ?_
                  refine r_cget (v := aC 54) cd_45_46 rfl (rfl) ?_
                  refine r_ild cd_45_49 rfl rfl ?_
                  refine r_cI (c_380 54 1 (by decide) (by decide) (by decide)) cd_45_50 rfl rfl rfl ⟨by decide, by decide⟩ rfl rfl rfl ?_
                  refine RU.cast (pc2 := 53) (S2 := [aI 104, aR 201]) rfl rfl rfl ?_
                  refine r_ild cd_45_53 rfl rfl ?_
                  refine r_cI d2_ cd_45_54 rfl rfl rfl (rc0 s1 rfl) rfl rfl rfl ?_
                  refine r_if52 cd_45_57 rfl ⟨by omega, by omega⟩ (fun n67 => ?_) (fun n67 => ?_)
                  · exact absurd n67 (by decide)
                  · refine r_inc (v := 2) cd_45_62 rfl rfl rfl (by omega) (L' := [aR 201, aC 5, aI 2]) rfl ?_
                    refine r_goto cd_45_65 ?_
                    refine r_ild cd_45_28 rfl rfl ?_
                    refine r_aldC cd_45_29 rfl rfl ?_
                    refine r_cget (v := aC 54) cd_45_30 rfl (rfl) ?_
                    refine r_cI (c_378 54 (by decide) (by decide)) cd_45_33 rfl rfl rfl ⟨by decide, by decide⟩ rfl rfl rfl ?_
                    refine RU.cast (pc2 := 36) (S2 := [aI 2, aI 2]) rfl rfl rfl ?_
                    refine r_ic64 cd_45_36 rfl ⟨by omega, by omega⟩ ⟨by omega, by omega⟩ (fun n68 => ?_) (fun n68 => ?_)
                    · exact absurd n68 (by decide)
                    · refine r_aldR cd_45_68 rfl rfl ?_
                      refine r_con (v := 5) cd_45_69 rfl (by decide) ?_
                      refine r_cI ds cd_45_70 rfl rfl rfl (rc0 s2 rfl) rfl rfl rfl ?_
                      refine r_if52 cd_45_73 rfl ⟨by omega, by omega⟩ (fun n69 => ?_) (fun n69 => ?_)
                      · exact absurd n69 (by decide)
                      · refine r_aldR cd_45_78 rfl rfl ?_
                        refine r_get cd_45_79 rfl ss rfl ?_
                        refine r_aldC cd_45_82 rfl rfl ?_
                        refine r_aldR cd_45_83 rfl rfl ?_
                        refine r_get cd_45_84 rfl ss rfl ?_
                        refine r_con (v := 0) cd_45_87 rfl (by decide) ?_
                        refine r_arr (i := 0) cd_45_88 rfl vs rfl (by omega) rfl ?_
                        refine RU.cast (pc2 := 89) (S2 := [aI ((q1 : Nat) : Int), aC 5, aR 204]) rfl rfl rfl ?_
                        refine r_aldR cd_45_89 rfl rfl ?_
                        refine r_get cd_45_90 rfl ss rfl ?_
                        refine r_con (v := 1) cd_45_93 rfl (by decide) ?_
                        refine r_arr (i := 1) cd_45_94 rfl vs rfl (by omega) rfl ?_
                        refine RU.cast (pc2 := 95) (S2 := [aI ((q2 : Nat) : Int), aI ((q1 : Nat) : Int), aC 5, aR 204]) rfl rfl rfl ?_
                        refine r_aldR cd_45_95 rfl rfl ?_
                        refine r_get cd_45_96 rfl ss rfl ?_
                        refine r_con (v := 3) cd_45_99 rfl (by decide) ?_
                        refine r_arr (i := 3) cd_45_100 rfl vs rfl (by omega) rfl ?_
                        refine r_cI (k_76_1 Rs hI.1 _ _ _) cd_45_101 rfl rfl rfl (rc0 o204 rfl) rfl rfl rfl ?_
                        refine r_if51b cd_45_104 rfl (fun n70 => ?_) (fun n70 => ?_)
                        · refine r_aldR cd_45_113 rfl rfl ?_
                          refine r_get cd_45_114 rfl ss rfl ?_
                          refine r_aldC cd_45_117 rfl rfl ?_
                          refine r_aldR cd_45_118 rfl rfl ?_
                          refine r_get cd_45_119 rfl ss rfl ?_
                          refine r_con (v := 0) cd_45_122 rfl (by decide) ?_
                          refine r_arr (i := 0) cd_45_123 rfl vs rfl (by omega) rfl ?_
                          refine RU.cast (pc2 := 124) (S2 := [aI ((q1 : Nat) : Int), aC 5, aR 204]) rfl rfl rfl ?_
                          refine r_aldR cd_45_124 rfl rfl ?_
                          refine r_get cd_45_125 rfl ss rfl ?_
                          refine r_con (v := 1) cd_45_128 rfl (by decide) ?_
                          refine r_arr (i := 1) cd_45_129 rfl vs rfl (by omega) rfl ?_
                          refine RU.cast (pc2 := 130) (S2 := [aI ((q2 : Nat) : Int), aI ((q1 : Nat) : Int), aC 5, aR 204]) rfl rfl rfl ?_
                          refine r_aldR cd_45_130 rfl rfl ?_
                          refine r_get cd_45_131 rfl ss rfl ?_
                          refine r_con (v := 2) cd_45_134 rfl (by decide) ?_
                          refine r_arr (i := 2) cd_45_135 rfl vs rfl (by omega) rfl ?_
                          refine r_aldR cd_45_136 rfl rfl ?_
                          refine r_get cd_45_137 rfl ss rfl ?_
                          refine r_con (v := 3) cd_45_140 rfl (by decide) ?_
                          refine r_arr (i := 3) cd_45_141 rfl vs rfl (by omega) rfl ?_
                          refine r_cI dc cd_45_142 rfl rfl rfl (rc0 o204 rfl) rfl rfl rfl ?_
                          refine r_pop cd_45_145 rfl rfl ?_
                          refine r_aldR cd_45_146 rfl rfl ?_
                          refine r_dup cd_45_147 rfl rfl ?_
                          refine r_get cd_45_148 rfl sc rfl ?_
                          refine r_con (v := 1) cd_45_151 rfl (by decide) ?_
                          refine r_add (v := ex + 1) cd_45_152 rfl (by rfl) ?_
                          refine r_put (fs' := [aR 202, aR 204, aR 222, aR 223, aR 224, aI dp, aI (ex + 1), aI ek, aI eo]) cd_45_153 rfl sc rfl rfl ?_
                          refine r_con (v := 1) cd_45_156 rfl (by decide) ?_
                          exact r_ret cd_45_157 (Or.inr rfl) (rfl)
                        · exact absurd n70 (by decide)
                · exact absurd n66 (by decide)
              · exact absurd n65 (by decide)
          · exact absurd n63 (by decide)
        · exact absurd n62 (by decide)
      · exact absurd n61 (by omega)
theorem v_45_2 {h : aH} {tx tb : Nat → Int} {N : Nat} (hN : N ≤ 600) (hT : ∀ k, k < N → BT (tx k) (tb k)) (dp ex ek eo : Int) (hS : h.2.2 201 = SO dp ex ek eo) (hx0 : 0 ≤ ex) (hx : ex < 200) {w : Nat → Int} (hR : Rp h 204 w) (hI : Inv w) {va : Nat → Int} (hV : h.2.2 222 = .inl (0, 4, .inl va)) (hb : TxB tx) (st kd vl : Int) (i : Nat) (hi : i ≤ N) (hO : h.2.2 202 = TO N st ((i : Nat) : Int) kd vl) (hB : h.2.2 203 = .inl (1, 600, .inl tb)) : CmdP 8 45 [aR 201, aC 6] h N dp ex ek eo (cGus tx N i w) := by
  have hbn := hI.1.bNe
  have hpn := hI.1.pNe
  have x0 := hI.1.len
  have x1 := hI.2.1
  have x1b := hI.1.hour
  have x4 := hI.1.gn
  have x5 := hI.1.bn
  have x6 := hI.1.pn
  have P1 := v_46_d0 hN hT dp ex ek eo hS hV st kd vl i hi hO hB
  rcases hA1 : dirA tx N i with e | ⟨d1, j1⟩
  · rw [hA1] at P1
    obtain ⟨g1, d1_, s1, t1, v1, m1⟩ := P1
    rw [show cGus tx N i w = .inl e from bnd_e hA1]
    refine ⟨g1, Ct.of [aR 201, aC 6, aU] rfl ?_, s1, t1, (m1.rp hR).ex, v1, NC.rf.tr m1.nc⟩
    refine r_aldC cd_45_0 rfl rfl ?_
    refine r_nnC cd_45_1 ⟨by decide, by decide⟩ ?_
    refine r_aldR cd_45_10 rfl rfl ?_
    refine r_get cd_45_11 rfl hS rfl ?_
    refine r_con (v := 200) cd_45_14 rfl (by decide) ?_
    refine r_ic63 cd_45_17 rfl ⟨by omega, by omega⟩ ⟨by omega, by omega⟩ (fun n61 => ?_) (fun n61 => ?_)
    · refine r_con (v := 0) cd_45_26 rfl (by decide) ?_
      refine r_ist cd_45_27 rfl rfl (L' := [aR 201, aC 6, aI 0]) rfl ?_
      refine r_ild cd_45_28 rfl rfl ?_
      refine r_aldC cd_45_29 rfl rfl ?_
      refine r_cget (v := aC 57) cd_45_30 rfl (rfl) ?_
      refine r_cI (c_378 57 (by decide) (by decide)) cd_45_33 rfl rfl rfl ⟨by decide, by decide⟩ rfl rfl rfl ?_
      refine RU.cast (pc2 := 36) (S2 := [aI 2, aI 0]) rfl rfl rfl ?_
      refine r_ic64 cd_45_36 rfl ⟨by omega, by omega⟩ ⟨by omega, by omega⟩ (fun n62 => ?_) (fun n62 => ?_)
      · refine r_ild cd_45_39 rfl rfl ?_
        refine r_con (v := 4) cd_45_40 rfl (by decide) ?_
        refine r_ic64 cd_45_41 rfl ⟨by omega, by omega⟩ ⟨by omega, by omega⟩ (fun n63 => ?_) (fun n63 => ?_)
        · refine r_aldR cd_45_44 rfl rfl ?_
          refine r_aldC cd_45_45 rfl rfl ?_
          refine r_cget (v := aC 57) cd_45_46 rfl (rfl) ?_
          refine r_ild cd_45_49 rfl rfl ?_
          refine r_cI (c_380 57 0 (by decide) (by decide) (by decide)) cd_45_50 rfl rfl rfl ⟨by decide, by decide⟩ rfl rfl rfl ?_
          refine RU.cast (pc2 := 53) (S2 := [aI 100, aR 201]) rfl rfl rfl ?_
          refine r_ild cd_45_53 rfl rfl ?_
          refine r_cI d1_ cd_45_54 rfl rfl rfl (rc0 hS rfl) rfl rfl rfl ?_
          refine r_if52 cd_45_57 rfl ⟨by omega, by omega⟩ (fun n64 => ?_) (fun n64 => ?_)
          · refine r_con (v := 0) cd_45_60 rfl (by decide) ?_
            exact r_ret cd_45_61 (Or.inl rfl) (rfl)
          · exact absurd n64 (by decide)
        · exact absurd n63 (by decide)
      · exact absurd n62 (by decide)
    · exact absurd n61 (by omega)
  · rw [hA1] at P1
    obtain ⟨g1, d1_, s1, ⟨st1, kd1, vl1, t1⟩, vv1, m1⟩ := P1
    have v1 : g1.2.2 222 = .inl (0, 4, .inl (va_up va 0 d1)) := vv1
    have b1 : g1.2.2 203 = .inl (1, 600, .inl tb) := (m1.1 203 (by decide) (by decide) (by decide)).trans hB
    have R1 : Rp g1 204 w := m1.rp hR
    obtain ⟨z1, z1j⟩ := dirA_o hA1
    have i1 : j1 ≤ N := by rw [z1j]; exact (tPos hi).2
    have N1 : NC h g1 := NC.rf.tr m1.nc
    have P2 := v_46_g1 hN hT dp ex ek eo s1 R1 hI.1 v1 hb st1 kd1 vl1 j1 i1 t1 b1
    rcases hA2 : numA tx N j1 0 3 with e | ⟨q2, j2⟩
    · rw [hA2] at P2
      obtain ⟨g2, d2_, s2, t2, v2, m2⟩ := P2
      rw [show cGus tx N i w = .inl e from (bnd_r hA1).trans (bnd_e hA2)]
      refine ⟨g2, Ct.of [aR 201, aC 6, aU] rfl ?_, s2, t2, (m2.rp R1).ex, v2, N1.tr m2.nc⟩
      refine r_aldC cd_45_0 rfl rfl ?_
      refine r_nnC cd_45_1 ⟨by decide, by decide⟩ ?_
      refine r_aldR cd_45_10 rfl rfl ?_
      refine r_get cd_45_11 rfl hS rfl ?_
      refine r_con (v := 200) cd_45_14 rfl (by decide) ?_
      refine r_ic63 cd_45_17 rfl ⟨by omega, by omega⟩ ⟨by omega, by omega⟩ (fun n61 => ?_) (fun n61 => ?_)
      · refine r_con (v := 0) cd_45_26 rfl (by decide) ?_
        refine r_ist cd_45_27 rfl rfl (L' := [aR 201, aC 6, aI 0]) rfl ?_
        refine r_ild cd_45_28 rfl rfl ?_
        refine r_aldC cd_45_29 rfl rfl ?_
        refine r_cget (v := aC 57) cd_45_30 rfl (rfl) ?_
        refine r_cI (c_378 57 (by decide) (by decide)) cd_45_33 rfl rfl rfl ⟨by decide, by decide⟩ rfl rfl rfl ?_
        refine RU.cast (pc2 := 36) (S2 := [aI 2, aI 0]) rfl rfl rfl ?_
        refine r_ic64 cd_45_36 rfl ⟨by omega, by omega⟩ ⟨by omega, by omega⟩ (fun n62 => ?_) (fun n62 => ?_)
        · refine r_ild cd_45_39 rfl rfl ?_
          refine r_con (v := 4) cd_45_40 rfl (by decide) ?_
          refine r_ic64 cd_45_41 rfl ⟨by omega, by omega⟩ ⟨by omega, by omega⟩ (fun n63 => ?_) (fun n63 => ?_)
          · refine r_aldR cd_45_44 rfl rfl ?_
            refine r_aldC cd_45_45 rfl rfl ?_
            refine r_cget (v := aC 57) cd_45_46 rfl (rfl) ?_
            refine r_ild cd_45_49 rfl rfl ?_
            refine r_cI (c_380 57 0 (by decide) (by decide) (by decide)) cd_45_50 rfl rfl rfl ⟨by decide, by decide⟩ rfl rfl rfl ?_
            refine RU.cast (pc2 := 53) (S2 := [aI 100, aR 201]) rfl rfl rfl ?_
            refine r_ild cd_45_53 rfl rfl ?_
            refine r_cI d1_ cd_45_54 rfl rfl rfl (rc0 hS rfl) rfl rfl rfl ?_
            refine r_if52 cd_45_57 rfl ⟨by omega, by omega⟩ (fun n64 => ?_) (fun n64 => ?_)
            · exact absurd n64 (by decide)
            · refine r_inc (v := 1) cd_45_62 rfl rfl rfl (by omega) (L' := [aR 201, aC 6, aI 1]) rfl ?_
              refine r_goto cd_45_65 ?_
              refine r_ild cd_45_28 rfl rfl ?_
              refine r_aldC cd_45_29 rfl rfl ?_
              refine r_cget (v := aC 57) cd_45_30 rfl (rfl) ?_
              refine r_cI (c_378 57 (by decide) (by decide)) cd_45_33 rfl rfl rfl ⟨by decide, by decide⟩ rfl rfl rfl ?_
              refine RU.cast (pc2 := 36) (S2 := [aI 2, aI 1]) rfl rfl rfl ?_
              refine r_ic64 cd_45_36 rfl ⟨by omega, by omega⟩ ⟨by omega, by omega⟩ (fun n65 => ?_) (fun n65 => ?_)
              · refine r_ild cd_45_39 rfl rfl ?_
                refine r_con (v := 4) cd_45_40 rfl (by decide) ?_
                refine r_ic64 cd_45_41 rfl ⟨by omega, by omega⟩ ⟨by omega, by omega⟩ (fun n66 => ?_) (fun n66 => ?_)
                · refine r_aldR cd_45_44 rfl rfl ?_
                  refine r_aldC cd_45_45 rfl rfl ?_
                  refine r_cget (v := aC 57) cd_45_46 rfl (rfl) ?_
                  refine r_ild cd_45_49 rfl rfl ?_
                  refine r_cI (c_380 57 1 (by decide) (by decide) (by decide)) cd_45_50 rfl rfl rfl ⟨by decide, by decide⟩ rfl rfl rfl ?_
                  refine RU.cast (pc2 := 53) (S2 := [aI 103, aR 201]) rfl rfl rfl ?_
                  refine r_ild cd_45_53 rfl rfl ?_
                  refine r_cI d2_ cd_45_54 rfl rfl rfl (rc0 s1 rfl) rfl rfl rfl ?_
                  refine r_if52 cd_45_57 rfl ⟨by omega, by omega⟩ (fun n67 => ?_) (fun n67 => ?_)
                  · refine r_con (v := 0) cd_45_60 rfl (by decide) ?_
                    exact r_ret cd_45_61 (Or.inl rfl) (rfl)
                  · exact absurd n67 (by decide)
                · exact absurd n66 (by decide)
              · exact absurd n65 (by decide)
          · exact absurd n63 (by decide)
        · exact absurd n62 (by decide)
      · exact absurd n61 (by omega)
    · rw [hA2] at P2
      obtain ⟨g2, d2_, s2, ⟨st2, kd2, vl2, t2⟩, vv2, m2⟩ := P2
      have v2 : g2.2.2 222 = .inl (0, 4, .inl (va_up (va_up va 0 d1) 0 ((va_up va 0 d1) 0 * ((q2 : Nat) : Int)))) := vv2
      have b2 : g2.2.2 203 = .inl (1, 600, .inl tb) := (m2.1 203 (by decide) (by decide) (by decide)).trans b1
      have R2 : Rp g2 204 w := m2.rp R1
      obtain ⟨z2a, z2b, z2c, z2j, -⟩ := numA_o hA2 (by decide)
      have i2 : j2 ≤ N := by rw [z2j]; exact (tPos i1).2
      have N2 : NC h g2 := N1.tr m2.nc
      by_cases hk : tKnd tx N j2 = 1
      rotate_left
      · obtain ⟨gs, ds, ss, ts, ms⟩ := v_41_5b hN hT dp ex ek eo s2 st2 kd2 vl2 j2 i2 t2 b2 hk
        rw [show cGus tx N i w = .inl (1, ((tOff tx N j2 : Nat) : Int)) from (bnd_r hA1).trans ((bnd_r hA2).trans (bnd_e (if_pos hk)))]
        refine ⟨gs, Ct.of [aR 201, aC 6, aU] rfl ?_, ss, ts, (ms.rp R2).ex, ⟨_, (ms.1 222 (by decide) (by decide)).trans v2⟩, N2.tr ms.nc⟩
        refine r_aldC cd_45_0 rfl rfl ?_
        refine r_nnC cd_45_1 ⟨by decide, by decide⟩ ?_
        refine r_aldR cd_45_10 rfl rfl ?_
        refine r_get cd_45_11 rfl hS rfl ?_
        refine r_con (v := 200) cd_45_14 rfl (by decide) ?_
        refine r_ic63 cd_45_17 rfl ⟨by omega, by omega⟩ ⟨by omega, by omega⟩ (fun n61 => ?_) (fun n61 => ?_)
        · refine r_con (v := 0) cd_45_26 rfl (by decide) ?_
          refine r_ist cd_45_27 rfl rfl (L' := [aR 201, aC 6, aI 0]) rfl ?_
          refine r_ild cd_45_28 rfl rfl ?_
          refine r_aldC cd_45_29 rfl rfl ?_
          refine r_cget (v := aC 57) cd_45_30 rfl (rfl) ?_
          refine r_cI (c_378 57 (by decide) (by decide)) cd_45_33 rfl rfl rfl ⟨by decide, by decide⟩ rfl rfl rfl ?_
          refine RU.cast (pc2 := 36) (S2 := [aI 2, aI 0]) rfl rfl rfl ?_
          refine r_ic64 cd_45_36 rfl ⟨by omega, by omega⟩ ⟨by omega, by omega⟩ (fun n62 => ?_) (fun n62 => ?_)
          · refine r_ild cd_45_39 rfl rfl ?_
            refine r_con (v := 4) cd_45_40 rfl (by decide) ?_
            refine r_ic64 cd_45_41 rfl ⟨by omega, by omega⟩ ⟨by omega, by omega⟩ (fun n63 => ?_) (fun n63 => ?_)
            · refine r_aldR cd_45_44 rfl rfl ?_
              refine r_aldC cd_45_45 rfl rfl ?_
              refine r_cget (v := aC 57) cd_45_46 rfl (rfl) ?_
              refine r_ild cd_45_49 rfl rfl ?_
              refine r_cI (c_380 57 0 (by decide) (by decide) (by decide)) cd_45_50 rfl rfl rfl ⟨by decide, by decide⟩ rfl rfl rfl ?_
              refine RU.cast (pc2 := 53) (S2 := [aI 100, aR 201]) rfl rfl rfl ?_
              refine r_ild cd_45_53 rfl rfl ?_
              refine r_cI d1_ cd_45_54 rfl rfl rfl (rc0 hS rfl) rfl rfl rfl ?_
              refine r_if52 cd_45_57 rfl ⟨by omega, by omega⟩ (fun n64 => ?_) (fun n64 => ?_)
              · exact absurd n64 (by decide)
              · refine r_inc (v := 1) cd_45_62 rfl rfl rfl (by omega) (L' := [aR 201, aC 6, aI 1]) rfl ?_
                refine r_goto cd_45_65 ?_
                refine r_ild cd_45_28 rfl rfl ?_
                refine r_aldC cd_45_29 rfl rfl ?_
                refine r_cget (v := aC 57) cd_45_30 rfl (rfl) ?_
                refine r_cI (c_378 57 (by decide) (by decide)) cd_45_33 rfl rfl rfl ⟨by decide, by decide⟩ rfl rfl rfl ?_
                refine RU.cast (pc2 := 36) (S2 := [aI 2, aI 1]) rfl rfl rfl ?_
                refine r_ic64 cd_45_36 rfl ⟨by omega, by omega⟩ ⟨by omega, by omega⟩ (fun n65 => ?_) (fun n65 => ?_)
                · refine r_ild cd_45_39 rfl rfl ?_
                  refine r_con (v := 4) cd_45_40 rfl (by decide) ?_
                  refine r_ic64 cd_45_41 rfl ⟨by omega, by omega⟩ ⟨by omega, by omega⟩ (fun n66 => ?_) (fun n66 => ?_)
                  · refine r_aldR cd_45_44 rfl rfl ?_
                    refine r_aldC cd_45_45 rfl rfl ?_
                    refine r_cget (v := aC 57) cd_45_46 rfl (rfl) ?_
                    refine r_ild cd_45_49 rfl rfl ?_
                    refine r_cI (c_380 57 1 (by decide) (by decide) (by decide)) cd_45_50 rfl rfl rfl ⟨by decide, by decide⟩ rfl rfl rfl ?_
                    refine RU.cast (pc2 := 53) (S2 := [aI 103, aR 201]) rfl rfl rfl ?_
                    refine r_ild cd_45_53 rfl rfl ?_
                    refine r_cI d2_ cd_45_54 rfl rfl rfl (rc0 s1 rfl) rfl rfl rfl ?_
                    refine r_if52 cd_45_57 rfl ⟨by omega, by omega⟩ (fun n67 => ?_) (fun n67 => ?_)
                    · exact absurd n67 (by decide)
                    · refine r_inc (v := 2) cd_45_62 rfl rfl rfl (by omega) (L' := [aR 201, aC 6, aI 2]) rfl ?_
                      refine r_goto cd_45_65 ?_
                      refine r_ild cd_45_28 rfl rfl ?_
                      refine r_aldC cd_45_29 rfl rfl ?_
                      refine r_cget (v := aC 57) cd_45_30 rfl (rfl) ?_
                      refine r_cI (c_378 57 (by decide) (by decide)) cd_45_33 rfl rfl rfl ⟨by decide, by decide⟩ rfl rfl rfl ?_
                      refine RU.cast (pc2 := 36) (S2 := [aI 2, aI 2]) rfl rfl rfl ?_
                      refine r_ic64 cd_45_36 rfl ⟨by omega, by omega⟩ ⟨by omega, by omega⟩ (fun n68 => ?_) (fun n68 => ?_)
                      · exact absurd n68 (by decide)
                      · refine r_aldR cd_45_68 rfl rfl ?_
                        refine r_con (v := 5) cd_45_69 rfl (by decide) ?_
                        refine r_cI ds cd_45_70 rfl rfl rfl (rc0 s2 rfl) rfl rfl rfl ?_
                        refine r_if52 cd_45_73 rfl ⟨by omega, by omega⟩ (fun n69 => ?_) (fun n69 => ?_)
                        · refine r_con (v := 0) cd_45_76 rfl (by decide) ?_
                          exact r_ret cd_45_77 (Or.inl rfl) (rfl)
                        · exact absurd n69 (by decide)
                  · exact absurd n66 (by decide)
                · exact absurd n65 (by decide)
            · exact absurd n63 (by decide)
          · exact absurd n62 (by decide)
        · exact absurd n61 (by omega)
      obtain ⟨gs, ds, ss, ⟨kds, vls, ts⟩, ms⟩ := v_41_5a hN hT dp ex ek eo s2 st2 kd2 vl2 j2 i2 t2 b2 hk
      have Rs := ms.rp R2
      have vs : gs.2.2 222 = .inl (0, 4, .inl (va_up (va_up va 0 d1) 0 ((va_up va 0 d1) 0 * ((q2 : Nat) : Int)))) := (ms.1 222 (by decide) (by decide)).trans v2
      have nk : ¬ ¬ tKnd tx N j2 = 1 := fun e => e hk
      obtain ⟨fs, o204⟩ := Rs.o
      by_cases hc : (decide (w 4 < 12)) = true
      rotate_left
      · have hr : (decide (w 4 = 12)) = true := decide_eq_true (show w 4 = 12 by have : ¬ w 4 < 12 := fun e => hc (decide_eq_true e); omega)
        rw [show cGus tx N i w = .inl (3, ((tOff tx N j2 : Nat) : Int)) from (bnd_r hA1).trans ((bnd_r hA2).trans (bnd_e ((if_neg nk).trans (if_neg hc))))]
        refine ⟨sw gs 201 (SO dp ex 3 ((tOff tx N j2 : Nat) : Int)), Ct.of [aR 201, aC 6, aU] rfl ?_, sw_at _ _ _, ⟨_, _, _, _, (sw_ne (by decide)).trans ts⟩, (Rs.mv fun a h1 h2 => sw_ne (by omega)).ex, ⟨_, (sw_ne (by decide)).trans vs⟩, (N2.tr ms.nc).s⟩
        refine r_aldC cd_45_0 rfl rfl ?_
        refine r_nnC cd_45_1 ⟨by decide, by decide⟩ ?_
        refine r_aldR cd_45_10 rfl rfl ?_
        refine r_get cd_45_11 rfl hS rfl ?_
        refine r_con (v := 200) cd_45_14 rfl (by decide) ?_
        refine r_ic63 cd_45_17 rfl ⟨by omega, by omega⟩ ⟨by omega, by omega⟩ (fun n61 => ?_) (fun n61 => ?_)
        · refine r_con (v := 0) cd_45_26 rfl (by decide) ?_
          refine r_ist cd_45_27 rfl rfl (L' := [aR 201, aC 6, aI 0]) rfl ?_
          refine r_ild cd_45_28 rfl rfl ?_
          refine r_aldC cd_45_29 rfl rfl ?_
          refine r_cget (v := aC 57) cd_45_30 rfl (rfl) ?_
          refine r_cI (c_378 57 (by decide) (by decide)) cd_45_33 rfl rfl rfl ⟨by decide, by decide⟩ rfl rfl rfl ?_
          refine RU.cast (pc2 := 36) (S2 := [aI 2, aI 0]) rfl rfl rfl ?_
          refine r_ic64 cd_45_36 rfl ⟨by omega, by omega⟩ ⟨by omega, by omega⟩ (fun n62 => ?_) (fun n62 => ?_)
          · refine r_ild cd_45_39 rfl rfl ?_
            refine r_con (v := 4) cd_45_40 rfl (by decide) ?_
            refine r_ic64 cd_45_41 rfl ⟨by omega, by omega⟩ ⟨by omega, by omega⟩ (fun n63 => ?_) (fun n63 => ?_)
            · refine r_aldR cd_45_44 rfl rfl ?_
              refine r_aldC cd_45_45 rfl rfl ?_
              refine r_cget (v := aC 57) cd_45_46 rfl (rfl) ?_
              refine r_ild cd_45_49 rfl rfl ?_
              refine r_cI (c_380 57 0 (by decide) (by decide) (by decide)) cd_45_50 rfl rfl rfl ⟨by decide, by decide⟩ rfl rfl rfl ?_
              refine RU.cast (pc2 := 53) (S2 := [aI 100, aR 201]) rfl rfl rfl ?_
              refine r_ild cd_45_53 rfl rfl ?_
              refine r_cI d1_ cd_45_54 rfl rfl rfl (rc0 hS rfl) rfl rfl rfl ?_
              refine r_if52 cd_45_57 rfl ⟨by omega, by omega⟩ (fun n64 => ?_) (fun n64 => ?_)
              · exact absurd n64 (by decide)
              · refine r_inc (v := 1) cd_45_62 rfl rfl rfl (by omega) (L' := [aR 201, aC 6, aI 1]) rfl ?_
                refine r_goto cd_45_65 ?_
                refine r_ild cd_45_28 rfl rfl ?_
                refine r_aldC cd_45_29 rfl rfl ?_
                refine r_cget (v := aC 57) cd_45_30 rfl (rfl) ?_
                refine r_cI (c_378 57 (by decide) (by decide)) cd_45_33 rfl rfl rfl ⟨by decide, by decide⟩ rfl rfl rfl ?_
                refine RU.cast (pc2 := 36) (S2 := [aI 2, aI 1]) rfl rfl rfl ?_
                refine r_ic64 cd_45_36 rfl ⟨by omega, by omega⟩ ⟨by omega, by omega⟩ (fun n65 => ?_) (fun n65 => ?_)
                · refine r_ild cd_45_39 rfl rfl ?_
                  refine r_con (v := 4) cd_45_40 rfl (by decide) ?_
                  refine r_ic64 cd_45_41 rfl ⟨by omega, by omega⟩ ⟨by omega, by omega⟩ (fun n66 => ?_) (fun n66 => ?_)
                  · refine r_aldR cd_45_44 rfl rfl ?_
                    refine r_aldC cd_45_45 rfl rfl ?_
                    refine r_cget (v := aC 57) cd_45_46 rfl (rfl) ?_
                    refine r_ild cd_45_49 rfl rfl ?_
                    refine r_cI (c_380 57 1 (by decide) (by decide) (by decide)) cd_45_50 rfl rfl rfl ⟨by decide, by decide⟩ rfl rfl rfl ?_
                    refine RU.cast (pc2 := 53) (S2 := [aI 103, aR 201]) rfl rfl rfl ?_
                    refine r_ild cd_45_53 rfl rfl ?_
                    refine r_cI d2_ cd_45_54 rfl rfl rfl (rc0 s1 rfl) rfl rfl rfl ?_
                    refine r_if52 cd_45_57 rfl ⟨by omega, by omega⟩ (fun n67 => ?_) (fun n67 => ?_)
                    · exact absurd n67 (by decide)
                    · refine r_inc (v := 2) cd_45_62 rfl rfl rfl (by omega) (L' := [aR 201, aC 6, aI 2]) rfl ?_
                      refine r_goto cd_45_65 ?_
                      refine r_ild cd_45_28 rfl rfl ?_
                      refine r_aldC cd_45_29 rfl rfl ?_
                      refine r_cget (v := aC 57) cd_45_30 rfl (rfl) ?_
                      refine r_cI (c_378 57 (by decide) (by decide)) cd_45_33 rfl rfl rfl ⟨by decide, by decide⟩ rfl rfl rfl ?_
                      refine RU.cast (pc2 := 36) (S2 := [aI 2, aI 2]) rfl rfl rfl ?_
                      refine r_ic64 cd_45_36 rfl ⟨by omega, by omega⟩ ⟨by omega, by omega⟩ (fun n68 => ?_) (fun n68 => ?_)
                      · exact absurd n68 (by decide)
                      · refine r_aldR cd_45_68 rfl rfl ?_
                        refine r_con (v := 5) cd_45_69 rfl (by decide) ?_
                        refine r_cI ds cd_45_70 rfl rfl rfl (rc0 s2 rfl) rfl rfl rfl ?_
                        refine r_if52 cd_45_73 rfl ⟨by omega, by omega⟩ (fun n69 => ?_) (fun n69 => ?_)
                        · exact absurd n69 (by decide)
                        · refine r_aldR cd_45_78 rfl rfl ?_
                          refine r_get cd_45_79 rfl ss rfl ?_
                          refine r_aldC cd_45_82 rfl rfl ?_
                          refine r_aldR cd_45_83 rfl rfl ?_
                          refine r_get cd_45_84 rfl ss rfl ?_
                          refine r_con (v := 0) cd_45_87 rfl (by decide) ?_
                          refine r_arr (i := 0) cd_45_88 rfl vs rfl (by omega) rfl ?_
                          refine RU.cast (pc2 := 89) (S2 := [aI (d1 * ((q2 : Nat) : Int)), aC 6, aR 204]) rfl rfl rfl ?_
                          refine r_aldR cd_45_89 rfl rfl ?_
                          refine r_get cd_45_90 rfl ss rfl ?_
                          refine r_con (v := 1) cd_45_93 rfl (by decide) ?_
                          refine r_arr (i := 1) cd_45_94 rfl vs rfl (by omega) rfl ?_
                          refine r_aldR cd_45_95 rfl rfl ?_
                          refine r_get cd_45_96 rfl ss rfl ?_
                          refine r_con (v := 3) cd_45_99 rfl (by decide) ?_
                          refine r_arr (i := 3) cd_45_100 rfl vs rfl (by omega) rfl ?_
                          refine r_cI (k_76_2 Rs hI.1 _ _ _) cd_45_101 rfl rfl rfl (rc0 o204 rfl) rfl rfl rfl ?_
                          refine r_if51b cd_45_104 rfl (fun n70 => ?_) (fun n70 => ?_)
                          · exact Bool.noConfusion (n70.symm.trans hr)
                          · refine r_aldR cd_45_107 rfl rfl ?_
                            refine r_con (v := 3) cd_45_108 rfl (by decide) ?_
                            refine r_cI (k_36 dp ex ek eo ss N _ _ _ _ ts 3) cd_45_109 rfl rfl rfl (rc0 ss rfl) rfl rfl rfl ?_
                            exact r_ret cd_45_112 (Or.inl rfl) (rfl)
                  · exact absurd n66 (by decide)
                · exact absurd n65 (by decide)
            · exact absurd n63 (by decide)
          · exact absurd n62 (by decide)
        · exact absurd n61 (by omega)
      have h4 : w 4 < 12 := of_decide_eq_true hc
      have hr : (decide (w 4 = 12)) = false := decide_eq_false (show ¬ w 4 = 12 by omega)
      obtain ⟨gc, dc, Rc, Fc⟩ := v_84_2 (B := 204) Rs hI.1 (d1 * ((q2 : Nat) : Int)) h4 ((va_up (va_up va 0 d1) 0 ((va_up va 0 d1) 0 * ((q2 : Nat) : Int))) 1) ((va_up (va_up va 0 d1) 0 ((va_up va 0 d1) 0 * ((q2 : Nat) : Int))) 2) ((va_up (va_up va 0 d1) 0 ((va_up va 0 d1) 0 * ((q2 : Nat) : Int))) 3)
      have sc := (Fc.1 201 (by decide)).trans ss
      have vc := (Fc.1 222 (by decide)).trans vs
      have tc := (Fc.1 202 (by decide)).trans ts
      rw [show cGus tx N i w = .inr (tEnd tx N j2, blowW w (d1 * ((q2 : Nat) : Int))) from (bnd_r hA1).trans ((bnd_r hA2).trans ((bnd_r ((if_neg nk).trans (if_pos hc)))))]
      refine ⟨sw gc 201 (SO dp (ex + 1) ek eo), Ct.of [aR 201, aC 6, aU] rfl ?_, sw_at _ _ _, ⟨_, _, _, (sw_ne (by decide)).trans tc⟩, Rc.mv fun a h1 h2 => sw_ne (by omega), ⟨_, (sw_ne (by decide)).trans vc⟩, ((N2.tr ms.nc).tr Fc.nc).s⟩
      refine r_aldC cd_45_0 rfl rfl ?_
      refine r_nnC cd_45_1 ⟨by decide, by decide⟩ ?_
      refine r_aldR cd_45_10 rfl rfl ?_
      refine r_get cd_45_11 rfl hS rfl ?_
      refine r_con (v := 200) cd_45_14 rfl (by decide) ?_
      refine r_ic63 cd_45_17 rfl ⟨by omega, by omega⟩ ⟨by omega, by omega⟩ (fun n61 => ?_) (fun n61 => ?_)
      · refine r_con (v := 0) cd_45_26 rfl (by decide) ?_
        refine r_ist cd_45_27 rfl rfl (L' := [aR 201, aC 6, aI 0]) rfl ?_
        refine r_ild cd_45_28 rfl rfl ?_
        refine r_aldC cd_45_29 rfl rfl ?_
        refine r_cget (v := aC 57) cd_45_30 rfl (rfl) ?_
        refine r_cI (c_378 57 (by decide) (by decide)) cd_45_33 rfl rfl rfl ⟨by decide, by decide⟩ rfl rfl rfl ?_
        refine RU.cast (pc2 := 36) (S2 := [aI 2, aI 0]) rfl rfl rfl ?_
        refine r_ic64 cd_45_36 rfl ⟨by omega, by omega⟩ ⟨by omega, by omega⟩ (fun n62 => ?_) (fun n62 => ?_)
        · refine r_ild cd_45_39 rfl rfl ?_
          refine r_con (v := 4) cd_45_40 rfl (by decide) ?_
          refine r_ic64 cd_45_41 rfl ⟨by omega, by omega⟩ ⟨by omega, by omega⟩ (fun n63 => ?_) (fun n63 => ?_)
          · refine r_aldR cd_45_44 rfl rfl ?_
            refine r_aldC cd_45_45 rfl rfl ?_
            refine r_cget (v := aC 57) cd_45_46 rfl (rfl) ?_
            refine r_ild cd_45_49 rfl rfl ?_
            refine r_cI (c_380 57 0 (by decide) (by decide) (by decide)) cd_45_50 rfl rfl rfl ⟨by decide, by decide⟩ rfl rfl rfl ?_
            refine RU.cast (pc2 := 53) (S2 := [aI 100, aR 201]) rfl rfl rfl ?_
            refine r_ild cd_45_53 rfl rfl ?_
            refine r_cI d1_ cd_45_54 rfl rfl rfl (rc0 hS rfl) rfl rfl rfl ?_
            refine r_if52 cd_45_57 rfl ⟨by omega, by omega⟩ (fun n64 => ?_) (fun n64 => ?_)
            · exact absurd n64 (by decide)
            · refine r_inc (v := 1) cd_45_62 rfl rfl rfl (by omega) (L' := [aR 201, aC 6, aI 1]) rfl ?_
              refine r_goto cd_45_65 ?_
              refine r_ild cd_45_28 rfl rfl ?_
              refine r_aldC cd_45_29 rfl rfl ?_
              refine r_cget (v := aC 57) cd_45_30 rfl (rfl) ?_
              refine r_cI (c_378 57 (by decide) (by decide)) cd_45_33 rfl rfl rfl ⟨by decide, by decide⟩ rfl rfl rfl ?_
              refine RU.cast (pc2 := 36) (S2 := [aI 2, aI 1]) rfl rfl rfl ?_
              refine r_ic64 cd_45_36 rfl ⟨by omega, by omega⟩ ⟨by omega, by omega⟩ (fun n65 => ?_) (fun n65 => ?_)
              · refine r_ild cd_45_39 rfl rfl ?_
                refine r_con (v := 4) cd_45_40 rfl (by decide) ?_
                refine r_ic64 cd_45_41 rfl ⟨by omega, by omega⟩ ⟨by omega, by omega⟩ (fun n66 => ?_) (fun n66 => ?_)
                · refine r_aldR cd_45_44 rfl rfl ?_
                  refine r_aldC cd_45_45 rfl rfl ?_
                  refine r_cget (v := aC 57) cd_45_46 rfl (rfl) ?_
                  refine r_ild cd_45_49 rfl rfl ?_
                  refine r_cI (c_380 57 1 (by decide) (by decide) (by decide)) cd_45_50 rfl rfl rfl ⟨by decide, by decide⟩ rfl rfl rfl ?_
                  refine RU.cast (pc2 := 53) (S2 := [aI 103, aR 201]) rfl rfl rfl ?_
                  refine r_ild cd_45_53 rfl rfl ?_
                  refine r_cI d2_ cd_45_54 rfl rfl rfl (rc0 s1 rfl) rfl rfl rfl ?_
                  refine r_if52 cd_45_57 rfl ⟨by omega, by omega⟩ (fun n67 => ?_) (fun n67 => ?_)
                  · exact absurd n67 (by decide)
                  · refine r_inc (v := 2) cd_45_62 rfl rfl rfl (by omega) (L' := [aR 201, aC 6, aI 2]) rfl ?_
                    refine r_goto cd_45_65 ?_
                    refine r_ild cd_45_28 rfl rfl ?_
                    refine r_aldC cd_45_29 rfl rfl ?_
                    refine r_cget (v := aC 57) cd_45_30 rfl (rfl) ?_
                    refine r_cI (c_378 57 (by decide) (by decide)) cd_45_33 rfl rfl rfl ⟨by decide, by decide⟩ rfl rfl rfl ?_
                    refine RU.cast (pc2 := 36) (S2 := [aI 2, aI 2]) rfl rfl rfl ?_
                    refine r_ic64 cd_45_36 rfl ⟨by omega, by omega⟩ ⟨by omega, by omega⟩ (fun n68 => ?_) (fun n68 => ?_)
                    · exact absurd n68 (by decide)
                    · refine r_aldR cd_45_68 rfl rfl ?_
                      refine r_con (v := 5) cd_45_69 rfl (by decide) ?_
                      refine r_cI ds cd_45_70 rfl rfl rfl (rc0 s2 rfl) rfl rfl rfl ?_
                      refine r_if52 cd_45_73 rfl ⟨by omega, by omega⟩ (fun n69 => ?_) (fun n69 => ?_)
                      · exact absurd n69 (by decide)
                      · refine r_aldR cd_45_78 rfl rfl ?_
                        refine r_get cd_45_79 rfl ss rfl ?_
                        refine r_aldC cd_45_82 rfl rfl ?_
                        refine r_aldR cd_45_83 rfl rfl ?_
                        refine r_get cd_45_84 rfl ss rfl ?_
                        refine r_con (v := 0) cd_45_87 rfl (by decide) ?_
                        refine r_arr (i := 0) cd_45_88 rfl vs rfl (by omega) rfl ?_
                        refine RU.cast (pc2 := 89) (S2 := [aI (d1 * ((q2 : Nat) : Int)), aC 6, aR 204]) rfl rfl rfl ?_
                        refine r_aldR cd_45_89 rfl rfl ?_
                        refine r_get cd_45_90 rfl ss rfl ?_
                        refine r_con (v := 1) cd_45_93 rfl (by decide) ?_
                        refine r_arr (i := 1) cd_45_94 rfl vs rfl (by omega) rfl ?_
                        refine r_aldR cd_45_95 rfl rfl ?_
                        refine r_get cd_45_96 rfl ss rfl ?_
                        refine r_con (v := 3) cd_45_99 rfl (by decide) ?_
                        refine r_arr (i := 3) cd_45_100 rfl vs rfl (by omega) rfl ?_
                        refine r_cI (k_76_2 Rs hI.1 _ _ _) cd_45_101 rfl rfl rfl (rc0 o204 rfl) rfl rfl rfl ?_
                        refine r_if51b cd_45_104 rfl (fun n70 => ?_) (fun n70 => ?_)
                        · refine r_aldR cd_45_113 rfl rfl ?_
                          refine r_get cd_45_114 rfl ss rfl ?_
                          refine r_aldC cd_45_117 rfl rfl ?_
                          refine r_aldR cd_45_118 rfl rfl ?_
                          refine r_get cd_45_119 rfl ss rfl ?_
                          refine r_con (v := 0) cd_45_122 rfl (by decide) ?_
                          refine r_arr (i := 0) cd_45_123 rfl vs rfl (by omega) rfl ?_
                          refine RU.cast (pc2 := 124) (S2 := [aI (d1 * ((q2 : Nat) : Int)), aC 6, aR 204]) rfl rfl rfl ?_
                          refine r_aldR cd_45_124 rfl rfl ?_
                          refine r_get cd_45_125 rfl ss rfl ?_
                          refine r_con (v := 1) cd_45_128 rfl (by decide) ?_
                          refine r_arr (i := 1) cd_45_129 rfl vs rfl (by omega) rfl ?_
                          refine r_aldR cd_45_130 rfl rfl ?_
                          refine r_get cd_45_131 rfl ss rfl ?_
                          refine r_con (v := 2) cd_45_134 rfl (by decide) ?_
                          refine r_arr (i := 2) cd_45_135 rfl vs rfl (by omega) rfl ?_
                          refine r_aldR cd_45_136 rfl rfl ?_
                          refine r_get cd_45_137 rfl ss rfl ?_
                          refine r_con (v := 3) cd_45_140 rfl (by decide) ?_
                          refine r_arr (i := 3) cd_45_141 rfl vs rfl (by omega) rfl ?_
                          refine r_cI dc cd_45_142 rfl rfl rfl (rc0 o204 rfl) rfl rfl rfl ?_
                          refine r_pop cd_45_145 rfl rfl ?_
                          refine r_aldR cd_45_146 rfl rfl ?_
                          refine r_dup cd_45_147 rfl rfl ?_
                          refine r_get cd_45_148 rfl sc rfl ?_
                          refine r_con (v := 1) cd_45_151 rfl (by decide) ?_
                          refine r_add (v := ex + 1) cd_45_152 rfl (by rfl) ?_
                          refine r_put (fs' := [aR 202, aR 204, aR 222, aR 223, aR 224, aI dp, aI (ex + 1), aI ek, aI eo]) cd_45_153 rfl sc rfl rfl ?_
                          refine r_con (v := 1) cd_45_156 rfl (by decide) ?_
                          exact r_ret cd_45_157 (Or.inr rfl) (rfl)
                        · exact Bool.noConfusion (n70.symm.trans hr)
                · exact absurd n66 (by decide)
              · exact absurd n65 (by decide)
          · exact absurd n63 (by decide)
        · exact absurd n62 (by decide)
      · exact absurd n61 (by omega)
theorem v_45_3 {h : aH} {tx tb : Nat → Int} {N : Nat} (hN : N ≤ 600) (hT : ∀ k, k < N → BT (tx k) (tb k)) (dp ex ek eo : Int) (hS : h.2.2 201 = SO dp ex ek eo) (hx0 : 0 ≤ ex) (hx : ex < 200) {w : Nat → Int} (hR : Rp h 204 w) (hI : Inv w) {va : Nat → Int} (hV : h.2.2 222 = .inl (0, 4, .inl va)) (hb : TxB tx) (st kd vl : Int) (i : Nat) (hi : i ≤ N) (hO : h.2.2 202 = TO N st ((i : Nat) : Int) kd vl) (hB : h.2.2 203 = .inl (1, 600, .inl tb)) : CmdP 8 45 [aR 201, aC 7] h N dp ex ek eo (cLea tx N i w) := by
  have hbn := hI.1.bNe
  have hpn := hI.1.pNe
  have x0 := hI.1.len
  have x1 := hI.2.1
  have x1b := hI.1.hour
  have x4 := hI.1.gn
  have x5 := hI.1.bn
  have x6 := hI.1.pn
  have P1 := v_46_l0 hN hT dp ex ek eo hS hR hI.1 hV hb st kd vl i hi hO hB
  rcases hA1 : numA tx N i 1 9 with e | ⟨q1, j1⟩
  · rw [hA1] at P1
    obtain ⟨g1, d1_, s1, t1, v1, m1⟩ := P1
    rw [show cLea tx N i w = .inl e from bnd_e hA1]
    refine ⟨g1, Ct.of [aR 201, aC 7, aU] rfl ?_, s1, t1, (m1.rp hR).ex, v1, NC.rf.tr m1.nc⟩
    refine r_aldC cd_45_0 rfl rfl ?_
    refine r_nnC cd_45_1 ⟨by decide, by decide⟩ ?_
    refine r_aldR cd_45_10 rfl rfl ?_
    refine r_get cd_45_11 rfl hS rfl ?_
    refine r_con (v := 200) cd_45_14 rfl (by decide) ?_
    refine r_ic63 cd_45_17 rfl ⟨by omega, by omega⟩ ⟨by omega, by omega⟩ (fun n61 => ?_) (fun n61 => ?_)
    · refine r_con (v := 0) cd_45_26 rfl (by decide) ?_
      refine r_ist cd_45_27 rfl rfl (L' := [aR 201, aC 7, aI 0]) rfl ?_
      refine r_ild cd_45_28 rfl rfl ?_
      refine r_aldC cd_45_29 rfl rfl ?_
      refine r_cget (v := aC 59) cd_45_30 rfl (rfl) ?_
      refine r_cI (c_378 59 (by decide) (by decide)) cd_45_33 rfl rfl rfl ⟨by decide, by decide⟩ rfl rfl rfl ?_
      refine RU.cast (pc2 := 36) (S2 := [aI 1, aI 0]) rfl rfl rfl ?_
      refine r_ic64 cd_45_36 rfl ⟨by omega, by omega⟩ ⟨by omega, by omega⟩ (fun n62 => ?_) (fun n62 => ?_)
      · refine r_ild cd_45_39 rfl rfl ?_
        refine r_con (v := 4) cd_45_40 rfl (by decide) ?_
        refine r_ic64 cd_45_41 rfl ⟨by omega, by omega⟩ ⟨by omega, by omega⟩ (fun n63 => ?_) (fun n63 => ?_)
        · refine r_aldR cd_45_44 rfl rfl ?_
          refine r_aldC cd_45_45 rfl rfl ?_
          refine r_cget (v := aC 59) cd_45_46 rfl (rfl) ?_
          refine r_ild cd_45_49 rfl rfl ?_
          refine r_cI (c_380 59 0 (by decide) (by decide) (by decide)) cd_45_50 rfl rfl rfl ⟨by decide, by decide⟩ rfl rfl rfl ?_
          refine RU.cast (pc2 := 53) (S2 := [aI 108, aR 201]) rfl rfl rfl ?_
          refine r_ild cd_45_53 rfl rfl ?_
          refine r_cI d1_ cd_45_54 rfl rfl rfl (rc0 hS rfl) rfl rfl rfl ?_
          refine r_if52 cd_45_57 rfl ⟨by omega, by omega⟩ (fun n64 => ?_) (fun n64 => ?_)
          · refine r_con (v := 0) cd_45_60 rfl (by decide) ?_
            exact r_ret cd_45_61 (Or.inl rfl) (rfl)
          · exact absurd n64 (by decide)
        · exact absurd n63 (by decide)
      · exact absurd n62 (by decide)
    · exact absurd n61 (by omega)
  · rw [hA1] at P1
    obtain ⟨g1, d1_, s1, ⟨st1, kd1, vl1, t1⟩, vv1, m1⟩ := P1
    have v1 : g1.2.2 222 = .inl (0, 4, .inl (va_up va 0 ((q1 : Nat) : Int))) := vv1
    have b1 : g1.2.2 203 = .inl (1, 600, .inl tb) := (m1.1 203 (by decide) (by decide) (by decide)).trans hB
    have R1 : Rp g1 204 w := m1.rp hR
    obtain ⟨z1a, z1b, z1c, z1j, -⟩ := numA_o hA1 (by decide)
    have i1 : j1 ≤ N := by rw [z1j]; exact (tPos hi).2
    have N1 : NC h g1 := NC.rf.tr m1.nc
    by_cases hk : tKnd tx N j1 = 1
    rotate_left
    · obtain ⟨gs, ds, ss, ts, ms⟩ := v_41_5b hN hT dp ex ek eo s1 st1 kd1 vl1 j1 i1 t1 b1 hk
      rw [show cLea tx N i w = .inl (1, ((tOff tx N j1 : Nat) : Int)) from (bnd_r hA1).trans (bnd_e (if_pos hk))]
      refine ⟨gs, Ct.of [aR 201, aC 7, aU] rfl ?_, ss, ts, (ms.rp R1).ex, ⟨_, (ms.1 222 (by decide) (by decide)).trans v1⟩, N1.tr ms.nc⟩
      refine r_aldC cd_45_0 rfl rfl ?_
      refine r_nnC cd_45_1 ⟨by decide, by decide⟩ ?_
      refine r_aldR cd_45_10 rfl rfl ?_
      refine r_get cd_45_11 rfl hS rfl ?_
      refine r_con (v := 200) cd_45_14 rfl (by decide) ?_
      refine r_ic63 cd_45_17 rfl ⟨by omega, by omega⟩ ⟨by omega, by omega⟩ (fun n61 => ?_) (fun n61 => ?_)
      · refine r_con (v := 0) cd_45_26 rfl (by decide) ?_
        refine r_ist cd_45_27 rfl rfl (L' := [aR 201, aC 7, aI 0]) rfl ?_
        refine r_ild cd_45_28 rfl rfl ?_
        refine r_aldC cd_45_29 rfl rfl ?_
        refine r_cget (v := aC 59) cd_45_30 rfl (rfl) ?_
        refine r_cI (c_378 59 (by decide) (by decide)) cd_45_33 rfl rfl rfl ⟨by decide, by decide⟩ rfl rfl rfl ?_
        refine RU.cast (pc2 := 36) (S2 := [aI 1, aI 0]) rfl rfl rfl ?_
        refine r_ic64 cd_45_36 rfl ⟨by omega, by omega⟩ ⟨by omega, by omega⟩ (fun n62 => ?_) (fun n62 => ?_)
        · refine r_ild cd_45_39 rfl rfl ?_
          refine r_con (v := 4) cd_45_40 rfl (by decide) ?_
          refine r_ic64 cd_45_41 rfl ⟨by omega, by omega⟩ ⟨by omega, by omega⟩ (fun n63 => ?_) (fun n63 => ?_)
          · refine r_aldR cd_45_44 rfl rfl ?_
            refine r_aldC cd_45_45 rfl rfl ?_
            refine r_cget (v := aC 59) cd_45_46 rfl (rfl) ?_
            refine r_ild cd_45_49 rfl rfl ?_
            refine r_cI (c_380 59 0 (by decide) (by decide) (by decide)) cd_45_50 rfl rfl rfl ⟨by decide, by decide⟩ rfl rfl rfl ?_
            refine RU.cast (pc2 := 53) (S2 := [aI 108, aR 201]) rfl rfl rfl ?_
            refine r_ild cd_45_53 rfl rfl ?_
            refine r_cI d1_ cd_45_54 rfl rfl rfl (rc0 hS rfl) rfl rfl rfl ?_
            refine r_if52 cd_45_57 rfl ⟨by omega, by omega⟩ (fun n64 => ?_) (fun n64 => ?_)
            · exact absurd n64 (by decide)
            · refine r_inc (v := 1) cd_45_62 rfl rfl rfl (by omega) (L' := [aR 201, aC 7, aI 1]) rfl ?_
              refine r_goto cd_45_65 ?_
              refine r_ild cd_45_28 rfl rfl ?_
              refine r_aldC cd_45_29 rfl rfl ?_
              refine r_cget (v := aC 59) cd_45_30 rfl (rfl) ?_
              refine r_cI (c_378 59 (by decide) (by decide)) cd_45_33 rfl rfl rfl ⟨by decide, by decide⟩ rfl rfl rfl ?_
              refine RU.cast (pc2 := 36) (S2 := [aI 1, aI 1]) rfl rfl rfl ?_
              refine r_ic64 cd_45_36 rfl ⟨by omega, by omega⟩ ⟨by omega, by omega⟩ (fun n65 => ?_) (fun n65 => ?_)
              · exact absurd n65 (by decide)
              · refine r_aldR cd_45_68 rfl rfl ?_
                refine r_con (v := 5) cd_45_69 rfl (by decide) ?_
                refine r_cI ds cd_45_70 rfl rfl rfl (rc0 s1 rfl) rfl rfl rfl ?_
                refine r_if52 cd_45_73 rfl ⟨by omega, by omega⟩ (fun n66 => ?_) (fun n66 => ?_)
                · refine r_con (v := 0) cd_45_76 rfl (by decide) ?_
                  exact r_ret cd_45_77 (Or.inl rfl) (rfl)
                · exact absurd n66 (by decide)
          · exact absurd n63 (by decide)
        · exact absurd n62 (by decide)
      · exact absurd n61 (by omega)
    obtain ⟨gs, ds, ss, ⟨kds, vls, ts⟩, ms⟩ := v_41_5a hN hT dp ex ek eo s1 st1 kd1 vl1 j1 i1 t1 b1 hk
    have Rs := ms.rp R1
    have vs : gs.2.2 222 = .inl (0, 4, .inl (va_up va 0 ((q1 : Nat) : Int))) := (ms.1 222 (by decide) (by decide)).trans v1
    have nk : ¬ ¬ tKnd tx N j1 = 1 := fun e => e hk
    obtain ⟨fs, o204⟩ := Rs.o
    have hr : false = false := rfl
    obtain ⟨gc, dc, Rc, Fc⟩ := v_84_3 (B := 204) Rs hI.1 ((q1 : Nat) : Int) ((va_up va 0 ((q1 : Nat) : Int)) 1) ((va_up va 0 ((q1 : Nat) : Int)) 2) ((va_up va 0 ((q1 : Nat) : Int)) 3)
    have sc := (Fc.1 201 (by decide)).trans ss
    have vc := (Fc.1 222 (by decide)).trans vs
    have tc := (Fc.1 202 (by decide)).trans ts
    rw [show cLea tx N i w = .inr (tEnd tx N j1, va_up w 3 ((q1 : Nat) : Int)) from (bnd_r hA1).trans ((bnd_r ((if_neg nk).trans (if_pos rfl))))]
    refine ⟨sw gc 201 (SO dp (ex + 1) ek eo), Ct.of [aR 201, aC 7, aU] rfl ?_, sw_at _ _ _, ⟨_, _, _, (sw_ne (by decide)).trans tc⟩, Rc.mv fun a h1 h2 => sw_ne (by omega), ⟨_, (sw_ne (by decide)).trans vc⟩, ((N1.tr ms.nc).tr Fc.nc).s⟩
    refine r_aldC cd_45_0 rfl rfl ?_
    refine r_nnC cd_45_1 ⟨by decide, by decide⟩ ?_
    refine r_aldR cd_45_10 rfl rfl ?_
    refine r_get cd_45_11 rfl hS rfl ?_
    refine r_con (v := 200) cd_45_14 rfl (by decide) ?_
    refine r_ic63 cd_45_17 rfl ⟨by omega, by omega⟩ ⟨by omega, by omega⟩ (fun n61 => ?_) (fun n61 => ?_)
    · refine r_con (v := 0) cd_45_26 rfl (by decide) ?_
      refine r_ist cd_45_27 rfl rfl (L' := [aR 201, aC 7, aI 0]) rfl ?_
      refine r_ild cd_45_28 rfl rfl ?_
      refine r_aldC cd_45_29 rfl rfl ?_
      refine r_cget (v := aC 59) cd_45_30 rfl (rfl) ?_
      refine r_cI (c_378 59 (by decide) (by decide)) cd_45_33 rfl rfl rfl ⟨by decide, by decide⟩ rfl rfl rfl ?_
      refine RU.cast (pc2 := 36) (S2 := [aI 1, aI 0]) rfl rfl rfl ?_
      refine r_ic64 cd_45_36 rfl ⟨by omega, by omega⟩ ⟨by omega, by omega⟩ (fun n62 => ?_) (fun n62 => ?_)
      · refine r_ild cd_45_39 rfl rfl ?_
        refine r_con (v := 4) cd_45_40 rfl (by decide) ?_
        refine r_ic64 cd_45_41 rfl ⟨by omega, by omega⟩ ⟨by omega, by omega⟩ (fun n63 => ?_) (fun n63 => ?_)
        · refine r_aldR cd_45_44 rfl rfl ?_
          refine r_aldC cd_45_45 rfl rfl ?_
          refine r_cget (v := aC 59) cd_45_46 rfl (rfl) ?_
          refine r_ild cd_45_49 rfl rfl ?_
          refine r_cI (c_380 59 0 (by decide) (by decide) (by decide)) cd_45_50 rfl rfl rfl ⟨by decide, by decide⟩ rfl rfl rfl ?_
          refine RU.cast (pc2 := 53) (S2 := [aI 108, aR 201]) rfl rfl rfl ?_
          refine r_ild cd_45_53 rfl rfl ?_
          refine r_cI d1_ cd_45_54 rfl rfl rfl (rc0 hS rfl) rfl rfl rfl ?_
          refine r_if52 cd_45_57 rfl ⟨by omega, by omega⟩ (fun n64 => ?_) (fun n64 => ?_)
          · exact absurd n64 (by decide)
          · refine r_inc (v := 1) cd_45_62 rfl rfl rfl (by omega) (L' := [aR 201, aC 7, aI 1]) rfl ?_
            refine r_goto cd_45_65 ?_
            refine r_ild cd_45_28 rfl rfl ?_
            refine r_aldC cd_45_29 rfl rfl ?_
            refine r_cget (v := aC 59) cd_45_30 rfl (rfl) ?_
            refine r_cI (c_378 59 (by decide) (by decide)) cd_45_33 rfl rfl rfl ⟨by decide, by decide⟩ rfl rfl rfl ?_
            refine RU.cast (pc2 := 36) (S2 := [aI 1, aI 1]) rfl rfl rfl ?_
            refine r_ic64 cd_45_36 rfl ⟨by omega, by omega⟩ ⟨by omega, by omega⟩ (fun n65 => ?_) (fun n65 => ?_)
            · exact absurd n65 (by decide)
            · refine r_aldR cd_45_68 rfl rfl ?_
              refine r_con (v := 5) cd_45_69 rfl (by decide) ?_
              refine r_cI ds cd_45_70 rfl rfl rfl (rc0 s1 rfl) rfl rfl rfl ?_
              refine r_if52 cd_45_73 rfl ⟨by omega, by omega⟩ (fun n66 => ?_) (fun n66 => ?_)
              · exact absurd n66 (by decide)
              · refine r_aldR cd_45_78 rfl rfl ?_
                refine r_get cd_45_79 rfl ss rfl ?_
                refine r_aldC cd_45_82 rfl rfl ?_
                refine r_aldR cd_45_83 rfl rfl ?_
                refine r_get cd_45_84 rfl ss rfl ?_
                refine r_con (v := 0) cd_45_87 rfl (by decide) ?_
                refine r_arr (i := 0) cd_45_88 rfl vs rfl (by omega) rfl ?_
                refine RU.cast (pc2 := 89) (S2 := [aI ((q1 : Nat) : Int), aC 7, aR 204]) rfl rfl rfl ?_
                refine r_aldR cd_45_89 rfl rfl ?_
                refine r_get cd_45_90 rfl ss rfl ?_
                refine r_con (v := 1) cd_45_93 rfl (by decide) ?_
                refine r_arr (i := 1) cd_45_94 rfl vs rfl (by omega) rfl ?_
                refine r_aldR cd_45_95 rfl rfl ?_
                refine r_get cd_45_96 rfl ss rfl ?_
                refine r_con (v := 3) cd_45_99 rfl (by decide) ?_
                refine r_arr (i := 3) cd_45_100 rfl vs rfl (by omega) rfl ?_
                refine r_cI (k_76_3 Rs hI.1 _ _ _) cd_45_101 rfl rfl rfl (rc0 o204 rfl) rfl rfl rfl ?_
                refine r_if51b cd_45_104 rfl (fun n67 => ?_) (fun n67 => ?_)
                · refine r_aldR cd_45_113 rfl rfl ?_
                  refine r_get cd_45_114 rfl ss rfl ?_
                  refine r_aldC cd_45_117 rfl rfl ?_
                  refine r_aldR cd_45_118 rfl rfl ?_
                  refine r_get cd_45_119 rfl ss rfl ?_
                  refine r_con (v := 0) cd_45_122 rfl (by decide) ?_
                  refine r_arr (i := 0) cd_45_123 rfl vs rfl (by omega) rfl ?_
                  refine RU.cast (pc2 := 124) (S2 := [aI ((q1 : Nat) : Int), aC 7, aR 204]) rfl rfl rfl ?_
                  refine r_aldR cd_45_124 rfl rfl ?_
                  refine r_get cd_45_125 rfl ss rfl ?_
                  refine r_con (v := 1) cd_45_128 rfl (by decide) ?_
                  refine r_arr (i := 1) cd_45_129 rfl vs rfl (by omega) rfl ?_
                  refine r_aldR cd_45_130 rfl rfl ?_
                  refine r_get cd_45_131 rfl ss rfl ?_
                  refine r_con (v := 2) cd_45_134 rfl (by decide) ?_
                  refine r_arr (i := 2) cd_45_135 rfl vs rfl (by omega) rfl ?_
                  refine r_aldR cd_45_136 rfl rfl ?_
                  refine r_get cd_45_137 rfl ss rfl ?_
                  refine r_con (v := 3) cd_45_140 rfl (by decide) ?_
                  refine r_arr (i := 3) cd_45_141 rfl vs rfl (by omega) rfl ?_
                  refine r_cI dc cd_45_142 rfl rfl rfl (rc0 o204 rfl) rfl rfl rfl ?_
                  refine r_pop cd_45_145 rfl rfl ?_
                  refine r_aldR cd_45_146 rfl rfl ?_
                  refine r_dup cd_45_147 rfl rfl ?_
                  refine r_get cd_45_148 rfl sc rfl ?_
                  refine r_con (v := 1) cd_45_151 rfl (by decide) ?_
                  refine r_add (v := ex + 1) cd_45_152 rfl (by rfl) ?_
                  refine r_put (fs' := [aR 202, aR 204, aR 222, aR 223, aR 224, aI dp, aI (ex + 1), aI ek, aI eo]) cd_45_153 rfl sc rfl rfl ?_
                  refine r_con (v := 1) cd_45_156 rfl (by decide) ?_
                  exact r_ret cd_45_157 (Or.inr rfl) (rfl)
                · exact absurd n67 (by decide)
        · exact absurd n63 (by decide)
      · exact absurd n62 (by decide)
    · exact absurd n61 (by omega)
theorem v_45_4 {h : aH} {tx tb : Nat → Int} {N : Nat} (hN : N ≤ 600) (hT : ∀ k, k < N → BT (tx k) (tb k)) (dp ex ek eo : Int) (hS : h.2.2 201 = SO dp ex ek eo) (hx0 : 0 ≤ ex) (hx : ex < 200) {w : Nat → Int} (hR : Rp h 204 w) (hI : Inv w) {va : Nat → Int} (hV : h.2.2 222 = .inl (0, 4, .inl va)) (hb : TxB tx) (st kd vl : Int) (i : Nat) (hi : i ≤ N) (hO : h.2.2 202 = TO N st ((i : Nat) : Int) kd vl) (hB : h.2.2 203 = .inl (1, 600, .inl tb)) : CmdP 8 45 [aR 201, aC 8] h N dp ex ek eo (cBal tx N i w) := by
  have hbn := hI.1.bNe
  have hpn := hI.1.pNe
  have x0 := hI.1.len
  have x1 := hI.2.1
  have x1b := hI.1.hour
  have x4 := hI.1.gn
  have x5 := hI.1.bn
  have x6 := hI.1.pn
  have P1 := v_46_p0 hN hT dp ex ek eo hS hR hI.1 hV hb st kd vl i hi hO hB
  rcases hA1 : numA tx N i 0 (w 0 - 1) with e | ⟨q1, j1⟩
  · rw [hA1] at P1
    obtain ⟨g1, d1_, s1, t1, v1, m1⟩ := P1
    rw [show cBal tx N i w = .inl e from bnd_e hA1]
    refine ⟨g1, Ct.of [aR 201, aC 8, aU] rfl ?_, s1, t1, (m1.rp hR).ex, v1, NC.rf.tr m1.nc⟩
    refine r_aldC cd_45_0 rfl rfl ?_
    refine r_nnC cd_45_1 ⟨by decide, by decide⟩ ?_
    refine r_aldR cd_45_10 rfl rfl ?_
    refine r_get cd_45_11 rfl hS rfl ?_
    refine r_con (v := 200) cd_45_14 rfl (by decide) ?_
    refine r_ic63 cd_45_17 rfl ⟨by omega, by omega⟩ ⟨by omega, by omega⟩ (fun n61 => ?_) (fun n61 => ?_)
    · refine r_con (v := 0) cd_45_26 rfl (by decide) ?_
      refine r_ist cd_45_27 rfl rfl (L' := [aR 201, aC 8, aI 0]) rfl ?_
      refine r_ild cd_45_28 rfl rfl ?_
      refine r_aldC cd_45_29 rfl rfl ?_
      refine r_cget (v := aC 61) cd_45_30 rfl (rfl) ?_
      refine r_cI (c_378 61 (by decide) (by decide)) cd_45_33 rfl rfl rfl ⟨by decide, by decide⟩ rfl rfl rfl ?_
      refine RU.cast (pc2 := 36) (S2 := [aI 3, aI 0]) rfl rfl rfl ?_
      refine r_ic64 cd_45_36 rfl ⟨by omega, by omega⟩ ⟨by omega, by omega⟩ (fun n62 => ?_) (fun n62 => ?_)
      · refine r_ild cd_45_39 rfl rfl ?_
        refine r_con (v := 4) cd_45_40 rfl (by decide) ?_
        refine r_ic64 cd_45_41 rfl ⟨by omega, by omega⟩ ⟨by omega, by omega⟩ (fun n63 => ?_) (fun n63 => ?_)
        · refine r_aldR cd_45_44 rfl rfl ?_
          refine r_aldC cd_45_45 rfl rfl ?_
          refine r_cget (v := aC 61) cd_45_46 rfl (rfl) ?_
          refine r_ild cd_45_49 rfl rfl ?_
          refine r_cI (c_380 61 0 (by decide) (by decide) (by decide)) cd_45_50 rfl rfl rfl ⟨by decide, by decide⟩ rfl rfl rfl ?_
          refine RU.cast (pc2 := 53) (S2 := [aI 112, aR 201]) rfl rfl rfl ?_
          refine r_ild cd_45_53 rfl rfl ?_
          refine r_cI d1_ cd_45_54 rfl rfl rfl (rc0 hS rfl) rfl rfl rfl ?_
          refine r_if52 cd_45_57 rfl ⟨by omega, by omega⟩ (fun n64 => ?_) (fun n64 => ?_)
          · refine r_con (v := 0) cd_45_60 rfl (by decide) ?_
            exact r_ret cd_45_61 (Or.inl rfl) (rfl)
          · exact absurd n64 (by decide)
        · exact absurd n63 (by decide)
      · exact absurd n62 (by decide)
    · exact absurd n61 (by omega)
  · rw [hA1] at P1
    obtain ⟨g1, d1_, s1, ⟨st1, kd1, vl1, t1⟩, vv1, m1⟩ := P1
    have v1 : g1.2.2 222 = .inl (0, 4, .inl (va_up va 0 ((q1 : Nat) : Int))) := vv1
    have b1 : g1.2.2 203 = .inl (1, 600, .inl tb) := (m1.1 203 (by decide) (by decide) (by decide)).trans hB
    have R1 : Rp g1 204 w := m1.rp hR
    obtain ⟨z1a, z1b, z1c, z1j, -⟩ := numA_o hA1 (by decide)
    have i1 : j1 ≤ N := by rw [z1j]; exact (tPos hi).2
    have N1 : NC h g1 := NC.rf.tr m1.nc
    have P2 := v_46_u1 hN hT dp ex ek eo s1 R1 hI.1 v1 hb st1 kd1 vl1 j1 i1 t1 b1
    rcases hA2 : numA tx N j1 1 30 with e | ⟨q2, j2⟩
    · rw [hA2] at P2
      obtain ⟨g2, d2_, s2, t2, v2, m2⟩ := P2
      rw [show cBal tx N i w = .inl e from (bnd_r hA1).trans (bnd_e hA2)]
      refine ⟨g2, Ct.of [aR 201, aC 8, aU] rfl ?_, s2, t2, (m2.rp R1).ex, v2, N1.tr m2.nc⟩
      refine r_aldC cd_45_0 rfl rfl ?_
      refine r_nnC cd_45_1 ⟨by decide, by decide⟩ ?_
      refine r_aldR cd_45_10 rfl rfl ?_
      refine r_get cd_45_11 rfl hS rfl ?_
      refine r_con (v := 200) cd_45_14 rfl (by decide) ?_
      refine r_ic63 cd_45_17 rfl ⟨by omega, by omega⟩ ⟨by omega, by omega⟩ (fun n61 => ?_) (fun n61 => ?_)
      · refine r_con (v := 0) cd_45_26 rfl (by decide) ?_
        refine r_ist cd_45_27 rfl rfl (L' := [aR 201, aC 8, aI 0]) rfl ?_
        refine r_ild cd_45_28 rfl rfl ?_
        refine r_aldC cd_45_29 rfl rfl ?_
        refine r_cget (v := aC 61) cd_45_30 rfl (rfl) ?_
        refine r_cI (c_378 61 (by decide) (by decide)) cd_45_33 rfl rfl rfl ⟨by decide, by decide⟩ rfl rfl rfl ?_
        refine RU.cast (pc2 := 36) (S2 := [aI 3, aI 0]) rfl rfl rfl ?_
        refine r_ic64 cd_45_36 rfl ⟨by omega, by omega⟩ ⟨by omega, by omega⟩ (fun n62 => ?_) (fun n62 => ?_)
        · refine r_ild cd_45_39 rfl rfl ?_
          refine r_con (v := 4) cd_45_40 rfl (by decide) ?_
          refine r_ic64 cd_45_41 rfl ⟨by omega, by omega⟩ ⟨by omega, by omega⟩ (fun n63 => ?_) (fun n63 => ?_)
          · refine r_aldR cd_45_44 rfl rfl ?_
            refine r_aldC cd_45_45 rfl rfl ?_
            refine r_cget (v := aC 61) cd_45_46 rfl (rfl) ?_
            refine r_ild cd_45_49 rfl rfl ?_
            refine r_cI (c_380 61 0 (by decide) (by decide) (by decide)) cd_45_50 rfl rfl rfl ⟨by decide, by decide⟩ rfl rfl rfl ?_
            refine RU.cast (pc2 := 53) (S2 := [aI 112, aR 201]) rfl rfl rfl ?_
            refine r_ild cd_45_53 rfl rfl ?_
            refine r_cI d1_ cd_45_54 rfl rfl rfl (rc0 hS rfl) rfl rfl rfl ?_
            refine r_if52 cd_45_57 rfl ⟨by omega, by omega⟩ (fun n64 => ?_) (fun n64 => ?_)
            · exact absurd n64 (by decide)
            · refine r_inc (v := 1) cd_45_62 rfl rfl rfl (by omega) (L' := [aR 201, aC 8, aI 1]) rfl ?_
              refine r_goto cd_45_65 ?_
              refine r_ild cd_45_28 rfl rfl ?_
              refine r_aldC cd_45_29 rfl rfl ?_
              refine r_cget (v := aC 61) cd_45_30 rfl (rfl) ?_
              refine r_cI (c_378 61 (by decide) (by decide)) cd_45_33 rfl rfl rfl ⟨by decide, by decide⟩ rfl rfl rfl ?_
              refine RU.cast (pc2 := 36) (S2 := [aI 3, aI 1]) rfl rfl rfl ?_
              refine r_ic64 cd_45_36 rfl ⟨by omega, by omega⟩ ⟨by omega, by omega⟩ (fun n65 => ?_) (fun n65 => ?_)
              · refine r_ild cd_45_39 rfl rfl ?_
                refine r_con (v := 4) cd_45_40 rfl (by decide) ?_
                refine r_ic64 cd_45_41 rfl ⟨by omega, by omega⟩ ⟨by omega, by omega⟩ (fun n66 => ?_) (fun n66 => ?_)
                · refine r_aldR cd_45_44 rfl rfl ?_
                  refine r_aldC cd_45_45 rfl rfl ?_
                  refine r_cget (v := aC 61) cd_45_46 rfl (rfl) ?_
                  refine r_ild cd_45_49 rfl rfl ?_
                  refine r_cI (c_380 61 1 (by decide) (by decide) (by decide)) cd_45_50 rfl rfl rfl ⟨by decide, by decide⟩ rfl rfl rfl ?_
                  refine RU.cast (pc2 := 53) (S2 := [aI 117, aR 201]) rfl rfl rfl ?_
                  refine r_ild cd_45_53 rfl rfl ?_
                  refine r_cI d2_ cd_45_54 rfl rfl rfl (rc0 s1 rfl) rfl rfl rfl ?_
                  refine r_if52 cd_45_57 rfl ⟨by omega, by omega⟩ (fun n67 => ?_) (fun n67 => ?_)
                  · refine r_con (v := 0) cd_45_60 rfl (by decide) ?_
                    exact r_ret cd_45_61 (Or.inl rfl) (rfl)
                  · exact absurd n67 (by decide)
                · exact absurd n66 (by decide)
              · exact absurd n65 (by decide)
          · exact absurd n63 (by decide)
        · exact absurd n62 (by decide)
      · exact absurd n61 (by omega)
    · rw [hA2] at P2
      obtain ⟨g2, d2_, s2, ⟨st2, kd2, vl2, t2⟩, vv2, m2⟩ := P2
      have v2 : g2.2.2 222 = .inl (0, 4, .inl (va_up (va_up va 0 ((q1 : Nat) : Int)) 1 ((q2 : Nat) : Int))) := vv2
      have b2 : g2.2.2 203 = .inl (1, 600, .inl tb) := (m2.1 203 (by decide) (by decide) (by decide)).trans b1
      have R2 : Rp g2 204 w := m2.rp R1
      obtain ⟨z2a, z2b, z2c, z2j, -⟩ := numA_o hA2 (by decide)
      have i2 : j2 ≤ N := by rw [z2j]; exact (tPos i1).2
      have N2 : NC h g2 := N1.tr m2.nc
      have P3 := v_46_s2 hN hT dp ex ek eo s2 R2 hI.1 v2 hb st2 kd2 vl2 j2 i2 t2 b2
      rcases hA3 : numA tx N j2 1 9 with e | ⟨q3, j3⟩
      · rw [hA3] at P3
        obtain ⟨g3, d3_, s3, t3, v3, m3⟩ := P3
        rw [show cBal tx N i w = .inl e from (bnd_r hA1).trans ((bnd_r hA2).trans (bnd_e hA3))]
        refine ⟨g3, Ct.of [aR 201, aC 8, aU] rfl ?_, s3, t3, (m3.rp R2).ex, v3, N2.tr m3.nc⟩
        refine r_aldC cd_45_0 rfl rfl ?_
        refine r_nnC cd_45_1 ⟨by decide, by decide⟩ ?_
        refine r_aldR cd_45_10 rfl rfl ?_
        refine r_get cd_45_11 rfl hS rfl ?_
        refine r_con (v := 200) cd_45_14 rfl (by decide) ?_
        refine r_ic63 cd_45_17 rfl ⟨by omega, by omega⟩ ⟨by omega, by omega⟩ (fun n61 => ?_) (fun n61 => ?_)
        · refine r_con (v := 0) cd_45_26 rfl (by decide) ?_
          refine r_ist cd_45_27 rfl rfl (L' := [aR 201, aC 8, aI 0]) rfl ?_
          refine r_ild cd_45_28 rfl rfl ?_
          refine r_aldC cd_45_29 rfl rfl ?_
          refine r_cget (v := aC 61) cd_45_30 rfl (rfl) ?_
          refine r_cI (c_378 61 (by decide) (by decide)) cd_45_33 rfl rfl rfl ⟨by decide, by decide⟩ rfl rfl rfl ?_
          refine RU.cast (pc2 := 36) (S2 := [aI 3, aI 0]) rfl rfl rfl ?_
          refine r_ic64 cd_45_36 rfl ⟨by omega, by omega⟩ ⟨by omega, by omega⟩ (fun n62 => ?_) (fun n62 => ?_)
          · refine r_ild cd_45_39 rfl rfl ?_
            refine r_con (v := 4) cd_45_40 rfl (by decide) ?_
            refine r_ic64 cd_45_41 rfl ⟨by omega, by omega⟩ ⟨by omega, by omega⟩ (fun n63 => ?_) (fun n63 => ?_)
            · refine r_aldR cd_45_44 rfl rfl ?_
              refine r_aldC cd_45_45 rfl rfl ?_
              refine r_cget (v := aC 61) cd_45_46 rfl (rfl) ?_
              refine r_ild cd_45_49 rfl rfl ?_
              refine r_cI (c_380 61 0 (by decide) (by decide) (by decide)) cd_45_50 rfl rfl rfl ⟨by decide, by decide⟩ rfl rfl rfl ?_
              refine RU.cast (pc2 := 53) (S2 := [aI 112, aR 201]) rfl rfl rfl ?_
              refine r_ild cd_45_53 rfl rfl ?_
              refine r_cI d1_ cd_45_54 rfl rfl rfl (rc0 hS rfl) rfl rfl rfl ?_
              refine r_if52 cd_45_57 rfl ⟨by omega, by omega⟩ (fun n64 => ?_) (fun n64 => ?_)
              · exact absurd n64 (by decide)
              · refine r_inc (v := 1) cd_45_62 rfl rfl rfl (by omega) (L' := [aR 201, aC 8, aI 1]) rfl ?_
                refine r_goto cd_45_65 ?_
                refine r_ild cd_45_28 rfl rfl ?_
                refine r_aldC cd_45_29 rfl rfl ?_
                refine r_cget (v := aC 61) cd_45_30 rfl (rfl) ?_
                refine r_cI (c_378 61 (by decide) (by decide)) cd_45_33 rfl rfl rfl ⟨by decide, by decide⟩ rfl rfl rfl ?_
                refine RU.cast (pc2 := 36) (S2 := [aI 3, aI 1]) rfl rfl rfl ?_
                refine r_ic64 cd_45_36 rfl ⟨by omega, by omega⟩ ⟨by omega, by omega⟩ (fun n65 => ?_) (fun n65 => ?_)
                · refine r_ild cd_45_39 rfl rfl ?_
                  refine r_con (v := 4) cd_45_40 rfl (by decide) ?_
                  refine r_ic64 cd_45_41 rfl ⟨by omega, by omega⟩ ⟨by omega, by omega⟩ (fun n66 => ?_) (fun n66 => ?_)
                  · refine r_aldR cd_45_44 rfl rfl ?_
                    refine r_aldC cd_45_45 rfl rfl ?_
                    refine r_cget (v := aC 61) cd_45_46 rfl (rfl) ?_
                    refine r_ild cd_45_49 rfl rfl ?_
                    refine r_cI (c_380 61 1 (by decide) (by decide) (by decide)) cd_45_50 rfl rfl rfl ⟨by decide, by decide⟩ rfl rfl rfl ?_
                    refine RU.cast (pc2 := 53) (S2 := [aI 117, aR 201]) rfl rfl rfl ?_
                    refine r_ild cd_45_53 rfl rfl ?_
                    refine r_cI d2_ cd_45_54 rfl rfl rfl (rc0 s1 rfl) rfl rfl rfl ?_
                    refine r_if52 cd_45_57 rfl ⟨by omega, by omega⟩ (fun n67 => ?_) (fun n67 => ?_)
                    · exact absurd n67 (by decide)
                    · refine r_inc (v := 2) cd_45_62 rfl rfl rfl (by omega) (L' := [aR 201, aC 8, aI 2]) rfl ?_
                      refine r_goto cd_45_65 ?_
                      refine r_ild cd_45_28 rfl rfl ?_
                      refine r_aldC cd_45_29 rfl rfl ?_
                      refine r_cget (v := aC 61) cd_45_30 rfl (rfl) ?_
                      refine r_cI (c_378 61 (by decide) (by decide)) cd_45_33 rfl rfl rfl ⟨by decide, by decide⟩ rfl rfl rfl ?_
                      refine RU.cast (pc2 := 36) (S2 := [aI 3, aI 2]) rfl rfl rfl ?_
                      refine r_ic64 cd_45_36 rfl ⟨by omega, by omega⟩ ⟨by omega, by omega⟩ (fun n68 => ?_) (fun n68 => ?_)
                      · refine r_ild cd_45_39 rfl rfl ?_
                        refine r_con (v := 4) cd_45_40 rfl (by decide) ?_
                        refine r_ic64 cd_45_41 rfl ⟨by omega, by omega⟩ ⟨by omega, by omega⟩ (fun n69 => ?_) (fun n69 => ?_)
                        · refine r_aldR cd_45_44 rfl rfl ?_
                          refine r_aldC cd_45_45 rfl rfl ?_
                          refine r_cget (v := aC 61) cd_45_46 rfl (rfl) ?_
                          refine r_ild cd_45_49 rfl rfl ?_
                          refine r_cI (c_380 61 2 (by decide) (by decide) (by decide)) cd_45_50 rfl rfl rfl ⟨by decide, by decide⟩ rfl rfl rfl ?_
                          refine RU.cast (pc2 := 53) (S2 := [aI 115, aR 201]) rfl rfl rfl ?_
                          refine r_ild cd_45_53 rfl rfl ?_
                          refine r_cI d3_ cd_45_54 rfl rfl rfl (rc0 s2 rfl) rfl rfl rfl ?_
                          refine r_if52 cd_45_57 rfl ⟨by omega, by omega⟩ (fun n70 => ?_) (fun n70 => ?_)
                          · refine r_con (v := 0) cd_45_60 rfl (by decide) ?_
                            exact r_ret cd_45_61 (Or.inl rfl) (rfl)
                          · exact absurd n70 (by decide)
                        · exact absurd n69 (by decide)
                      · exact absurd n68 (by decide)
                  · exact absurd n66 (by decide)
                · exact absurd n65 (by decide)
            · exact absurd n63 (by decide)
          · exact absurd n62 (by decide)
        · exact absurd n61 (by omega)
      · rw [hA3] at P3
        obtain ⟨g3, d3_, s3, ⟨st3, kd3, vl3, t3⟩, vv3, m3⟩ := P3
        have v3 : g3.2.2 222 = .inl (0, 4, .inl (va_up (va_up (va_up va 0 ((q1 : Nat) : Int)) 1 ((q2 : Nat) : Int)) 2 ((q3 : Nat) : Int))) := vv3
        have b3 : g3.2.2 203 = .inl (1, 600, .inl tb) := (m3.1 203 (by decide) (by decide) (by decide)).trans b2
        have R3 : Rp g3 204 w := m3.rp R2
        obtain ⟨z3a, z3b, z3c, z3j, -⟩ := numA_o hA3 (by decide)
        have i3 : j3 ≤ N := by rw [z3j]; exact (tPos i2).2
        have N3 : NC h g3 := N2.tr m3.nc
        by_cases hk : tKnd tx N j3 = 1
        rotate_left
        · obtain ⟨gs, ds, ss, ts, ms⟩ := v_41_5b hN hT dp ex ek eo s3 st3 kd3 vl3 j3 i3 t3 b3 hk
          rw [show cBal tx N i w = .inl (1, ((tOff tx N j3 : Nat) : Int)) from (bnd_r hA1).trans ((bnd_r hA2).trans ((bnd_r hA3).trans (bnd_e (if_pos hk))))]
          refine ⟨gs, Ct.of [aR 201, aC 8, aU] rfl ?_, ss, ts, (ms.rp R3).ex, ⟨_, (ms.1 222 (by decide) (by decide)).trans v3⟩, N3.tr ms.nc⟩
          refine r_aldC cd_45_0 rfl rfl ?_
          refine r_nnC cd_45_1 ⟨by decide, by decide⟩ ?_
          refine r_aldR cd_45_10 rfl rfl ?_
          refine r_get cd_45_11 rfl hS rfl ?_
          refine r_con (v := 200) cd_45_14 rfl (by decide) ?_
          refine r_ic63 cd_45_17 rfl ⟨by omega, by omega⟩ ⟨by omega, by omega⟩ (fun n61 => ?_) (fun n61 => ?_)
          · refine r_con (v := 0) cd_45_26 rfl (by decide) ?_
            refine r_ist cd_45_27 rfl rfl (L' := [aR 201, aC 8, aI 0]) rfl ?_
            refine r_ild cd_45_28 rfl rfl ?_
            refine r_aldC cd_45_29 rfl rfl ?_
            refine r_cget (v := aC 61) cd_45_30 rfl (rfl) ?_
            refine r_cI (c_378 61 (by decide) (by decide)) cd_45_33 rfl rfl rfl ⟨by decide, by decide⟩ rfl rfl rfl ?_
            refine RU.cast (pc2 := 36) (S2 := [aI 3, aI 0]) rfl rfl rfl ?_
            refine r_ic64 cd_45_36 rfl ⟨by omega, by omega⟩ ⟨by omega, by omega⟩ (fun n62 => ?_) (fun n62 => ?_)
            · refine r_ild cd_45_39 rfl rfl ?_
              refine r_con (v := 4) cd_45_40 rfl (by decide) ?_
              refine r_ic64 cd_45_41 rfl ⟨by omega, by omega⟩ ⟨by omega, by omega⟩ (fun n63 => ?_) (fun n63 => ?_)
              · refine r_aldR cd_45_44 rfl rfl ?_
                refine r_aldC cd_45_45 rfl rfl ?_
                refine r_cget (v := aC 61) cd_45_46 rfl (rfl) ?_
                refine r_ild cd_45_49 rfl rfl ?_
                refine r_cI (c_380 61 0 (by decide) (by decide) (by decide)) cd_45_50 rfl rfl rfl ⟨by decide, by decide⟩ rfl rfl rfl ?_
                refine RU.cast (pc2 := 53) (S2 := [aI 112, aR 201]) rfl rfl rfl ?_
                refine r_ild cd_45_53 rfl rfl ?_
                refine r_cI d1_ cd_45_54 rfl rfl rfl (rc0 hS rfl) rfl rfl rfl ?_
                refine r_if52 cd_45_57 rfl ⟨by omega, by omega⟩ (fun n64 => ?_) (fun n64 => ?_)
                · exact absurd n64 (by decide)
                · refine r_inc (v := 1) cd_45_62 rfl rfl rfl (by omega) (L' := [aR 201, aC 8, aI 1]) rfl ?_
                  refine r_goto cd_45_65 ?_
                  refine r_ild cd_45_28 rfl rfl ?_
                  refine r_aldC cd_45_29 rfl rfl ?_
                  refine r_cget (v := aC 61) cd_45_30 rfl (rfl) ?_
                  refine r_cI (c_378 61 (by decide) (by decide)) cd_45_33 rfl rfl rfl ⟨by decide, by decide⟩ rfl rfl rfl ?_
                  refine RU.cast (pc2 := 36) (S2 := [aI 3, aI 1]) rfl rfl rfl ?_
                  refine r_ic64 cd_45_36 rfl ⟨by omega, by omega⟩ ⟨by omega, by omega⟩ (fun n65 => ?_) (fun n65 => ?_)
                  · refine r_ild cd_45_39 rfl rfl ?_
                    refine r_con (v := 4) cd_45_40 rfl (by decide) ?_
                    refine r_ic64 cd_45_41 rfl ⟨by omega, by omega⟩ ⟨by omega, by omega⟩ (fun n66 => ?_) (fun n66 => ?_)
                    · refine r_aldR cd_45_44 rfl rfl ?_
                      refine r_aldC cd_45_45 rfl rfl ?_
                      refine r_cget (v := aC 61) cd_45_46 rfl (rfl) ?_
                      refine r_ild cd_45_49 rfl rfl ?_
                      refine r_cI (c_380 61 1 (by decide) (by decide) (by decide)) cd_45_50 rfl rfl rfl ⟨by decide, by decide⟩ rfl rfl rfl ?_
                      refine RU.cast (pc2 := 53) (S2 := [aI 117, aR 201]) rfl rfl rfl ?_
                      refine r_ild cd_45_53 rfl rfl ?_
                      refine r_cI d2_ cd_45_54 rfl rfl rfl (rc0 s1 rfl) rfl rfl rfl ?_
                      refine r_if52 cd_45_57 rfl ⟨by omega, by omega⟩ (fun n67 => ?_) (fun n67 => ?_)
                      · exact absurd n67 (by decide)
                      · refine r_inc (v := 2) cd_45_62 rfl rfl rfl (by omega) (L' := [aR 201, aC 8, aI 2]) rfl ?_
                        refine r_goto cd_45_65 ?_
                        refine r_ild cd_45_28 rfl rfl ?_
                        refine r_aldC cd_45_29 rfl rfl ?_
                        refine r_cget (v := aC 61) cd_45_30 rfl (rfl) ?_
                        refine r_cI (c_378 61 (by decide) (by decide)) cd_45_33 rfl rfl rfl ⟨by decide, by decide⟩ rfl rfl rfl ?_
                        refine RU.cast (pc2 := 36) (S2 := [aI 3, aI 2]) rfl rfl rfl ?_
                        refine r_ic64 cd_45_36 rfl ⟨by omega, by omega⟩ ⟨by omega, by omega⟩ (fun n68 => ?_) (fun n68 => ?_)
                        · refine r_ild cd_45_39 rfl rfl ?_
                          refine r_con (v := 4) cd_45_40 rfl (by decide) ?_
                          refine r_ic64 cd_45_41 rfl ⟨by omega, by omega⟩ ⟨by omega, by omega⟩ (fun n69 => ?_) (fun n69 => ?_)
                          · refine r_aldR cd_45_44 rfl rfl ?_
                            refine r_aldC cd_45_45 rfl rfl ?_
                            refine r_cget (v := aC 61) cd_45_46 rfl (rfl) ?_
                            refine r_ild cd_45_49 rfl rfl ?_
                            refine r_cI (c_380 61 2 (by decide) (by decide) (by decide)) cd_45_50 rfl rfl rfl ⟨by decide, by decide⟩ rfl rfl rfl ?_
                            refine RU.cast (pc2 := 53) (S2 := [aI 115, aR 201]) rfl rfl rfl ?_
                            refine r_ild cd_45_53 rfl rfl ?_
                            refine r_cI d3_ cd_45_54 rfl rfl rfl (rc0 s2 rfl) rfl rfl rfl ?_
                            refine r_if52 cd_45_57 rfl ⟨by omega, by omega⟩ (fun n70 => ?_) (fun n70 => ?_)
                            · exact absurd n70 (by decide)
                            · refine r_inc (v := 3) cd_45_62 rfl rfl rfl (by omega) (L' := [aR 201, aC 8, aI 3]) rfl ?_
                              refine r_goto cd_45_65 ?_
                              refine r_ild cd_45_28 rfl rfl ?_
                              refine r_aldC cd_45_29 rfl rfl ?_
                              refine r_cget (v := aC 61) cd_45_30 rfl (rfl) ?_
                              refine r_cI (c_378 61 (by decide) (by decide)) cd_45_33 rfl rfl rfl ⟨by decide, by decide⟩ rfl rfl rfl ?_
                              refine RU.cast (pc2 := 36) (S2 := [aI 3, aI 3]) rfl rfl rfl ?_
                              refine r_ic64 cd_45_36 rfl ⟨by omega, by omega⟩ ⟨by omega, by omega⟩ (fun n71 => ?_) (fun n71 => ?_)
                              · exact absurd n71 (by decide)
                              · refine r_aldR cd_45_68 rfl rfl ?_
                                refine r_con (v := 5) cd_45_69 rfl (by decide) ?_
                                refine r_cI ds cd_45_70 rfl rfl rfl (rc0 s3 rfl) rfl rfl rfl ?_
                                refine r_if52 cd_45_73 rfl ⟨by omega, by omega⟩ (fun n72 => ?_) (fun n72 => ?_)
                                · refine r_con (v := 0) cd_45_76 rfl (by decide) ?_
                                  exact r_ret cd_45_77 (Or.inl rfl) (rfl)
                                · exact absurd n72 (by decide)
                          · exact absurd n69 (by decide)
                        · exact absurd n68 (by decide)
                    · exact absurd n66 (by decide)
                  · exact absurd n65 (by decide)
              · exact absurd n63 (by decide)
            · exact absurd n62 (by decide)
          · exact absurd n61 (by omega)
        obtain ⟨gs, ds, ss, ⟨kds, vls, ts⟩, ms⟩ := v_41_5a hN hT dp ex ek eo s3 st3 kd3 vl3 j3 i3 t3 b3 hk
        have Rs := ms.rp R3
        have vs : gs.2.2 222 = .inl (0, 4, .inl (va_up (va_up (va_up va 0 ((q1 : Nat) : Int)) 1 ((q2 : Nat) : Int)) 2 ((q3 : Nat) : Int))) := (ms.1 222 (by decide) (by decide)).trans v3
        have nk : ¬ ¬ tKnd tx N j3 = 1 := fun e => e hk
        obtain ⟨fs, o204⟩ := Rs.o
        by_cases hc : (decide (w 5 < 8)) = true
        rotate_left
        · have hr : (decide (w 5 = 8)) = true := decide_eq_true (show w 5 = 8 by have : ¬ w 5 < 8 := fun e => hc (decide_eq_true e); omega)
          rw [show cBal tx N i w = .inl (3, ((tOff tx N j3 : Nat) : Int)) from (bnd_r hA1).trans ((bnd_r hA2).trans ((bnd_r hA3).trans (bnd_e ((if_neg nk).trans (if_neg hc)))))]
          refine ⟨sw gs 201 (SO dp ex 3 ((tOff tx N j3 : Nat) : Int)), Ct.of [aR 201, aC 8, aU] rfl ?_, sw_at _ _ _, ⟨_, _, _, _, (sw_ne (by decide)).trans ts⟩, (Rs.mv fun a h1 h2 => sw_ne (by omega)).ex, ⟨_, (sw_ne (by decide)).trans vs⟩, (N3.tr ms.nc).s⟩
          refine r_aldC cd_45_0 rfl rfl ?_
          refine r_nnC cd_45_1 ⟨by decide, by decide⟩ ?_
          refine r_aldR cd_45_10 rfl rfl ?_
          refine r_get cd_45_11 rfl hS rfl ?_
          refine r_con (v := 200) cd_45_14 rfl (by decide) ?_
          refine r_ic63 cd_45_17 rfl ⟨by omega, by omega⟩ ⟨by omega, by omega⟩ (fun n61 => ?_) (fun n61 => ?_)
          · refine r_con (v := 0) cd_45_26 rfl (by decide) ?_
            refine r_ist cd_45_27 rfl rfl (L' := [aR 201, aC 8, aI 0]) rfl ?_
            refine r_ild cd_45_28 rfl rfl ?_
            refine r_aldC cd_45_29 rfl rfl ?_
            refine r_cget (v := aC 61) cd_45_30 rfl (rfl) ?_
            refine r_cI (c_378 61 (by decide) (by decide)) cd_45_33 rfl rfl rfl ⟨by decide, by decide⟩ rfl rfl rfl ?_
            refine RU.cast (pc2 := 36) (S2 := [aI 3, aI 0]) rfl rfl rfl ?_
            refine r_ic64 cd_45_36 rfl ⟨by omega, by omega⟩ ⟨by omega, by omega⟩ (fun n62 => ?_) (fun n62 => ?_)
            · refine r_ild cd_45_39 rfl rfl ?_
              refine r_con (v := 4) cd_45_40 rfl (by decide) ?_
              refine r_ic64 cd_45_41 rfl ⟨by omega, by omega⟩ ⟨by omega, by omega⟩ (fun n63 => ?_) (fun n63 => ?_)
              · refine r_aldR cd_45_44 rfl rfl ?_
                refine r_aldC cd_45_45 rfl rfl ?_
                refine r_cget (v := aC 61) cd_45_46 rfl (rfl) ?_
                refine r_ild cd_45_49 rfl rfl ?_
                refine r_cI (c_380 61 0 (by decide) (by decide) (by decide)) cd_45_50 rfl rfl rfl ⟨by decide, by decide⟩ rfl rfl rfl ?_
                refine RU.cast (pc2 := 53) (S2 := [aI 112, aR 201]) rfl rfl rfl ?_
                refine r_ild cd_45_53 rfl rfl ?_
                refine r_cI d1_ cd_45_54 rfl rfl rfl (rc0 hS rfl) rfl rfl rfl ?_
                refine r_if52 cd_45_57 rfl ⟨by omega, by omega⟩ (fun n64 => ?_) (fun n64 => ?_)
                · exact absurd n64 (by decide)
                · refine r_inc (v := 1) cd_45_62 rfl rfl rfl (by omega) (L' := [aR 201, aC 8, aI 1]) rfl ?_
                  refine r_goto cd_45_65 ?_
                  refine r_ild cd_45_28 rfl rfl ?_
                  refine r_aldC cd_45_29 rfl rfl ?_
                  refine r_cget (v := aC 61) cd_45_30 rfl (rfl) ?_
                  refine r_cI (c_378 61 (by decide) (by decide)) cd_45_33 rfl rfl rfl ⟨by decide, by decide⟩ rfl rfl rfl ?_
                  refine RU.cast (pc2 := 36) (S2 := [aI 3, aI 1]) rfl rfl rfl ?_
                  refine r_ic64 cd_45_36 rfl ⟨by omega, by omega⟩ ⟨by omega, by omega⟩ (fun n65 => ?_) (fun n65 => ?_)
                  · refine r_ild cd_45_39 rfl rfl ?_
                    refine r_con (v := 4) cd_45_40 rfl (by decide) ?_
                    refine r_ic64 cd_45_41 rfl ⟨by omega, by omega⟩ ⟨by omega, by omega⟩ (fun n66 => ?_) (fun n66 => ?_)
                    · refine r_aldR cd_45_44 rfl rfl ?_
                      refine r_aldC cd_45_45 rfl rfl ?_
                      refine r_cget (v := aC 61) cd_45_46 rfl (rfl) ?_
                      refine r_ild cd_45_49 rfl rfl ?_
                      refine r_cI (c_380 61 1 (by decide) (by decide) (by decide)) cd_45_50 rfl rfl rfl ⟨by decide, by decide⟩ rfl rfl rfl ?_
                      refine RU.cast (pc2 := 53) (S2 := [aI 117, aR 201]) rfl rfl rfl ?_
                      refine r_ild cd_45_53 rfl rfl ?_
                      refine r_cI d2_ cd_45_54 rfl rfl rfl (rc0 s1 rfl) rfl rfl rfl ?_
                      refine r_if52 cd_45_57 rfl ⟨by omega, by omega⟩ (fun n67 => ?_) (fun n67 => ?_)
                      · exact absurd n67 (by decide)
                      · refine r_inc (v := 2) cd_45_62 rfl rfl rfl (by omega) (L' := [aR 201, aC 8, aI 2]) rfl ?_
                        refine r_goto cd_45_65 ?_
                        refine r_ild cd_45_28 rfl rfl ?_
                        refine r_aldC cd_45_29 rfl rfl ?_
                        refine r_cget (v := aC 61) cd_45_30 rfl (rfl) ?_
                        refine r_cI (c_378 61 (by decide) (by decide)) cd_45_33 rfl rfl rfl ⟨by decide, by decide⟩ rfl rfl rfl ?_
                        refine RU.cast (pc2 := 36) (S2 := [aI 3, aI 2]) rfl rfl rfl ?_
                        refine r_ic64 cd_45_36 rfl ⟨by omega, by omega⟩ ⟨by omega, by omega⟩ (fun n68 => ?_) (fun n68 => ?_)
                        · refine r_ild cd_45_39 rfl rfl ?_
                          refine r_con (v := 4) cd_45_40 rfl (by decide) ?_
                          refine r_ic64 cd_45_41 rfl ⟨by omega, by omega⟩ ⟨by omega, by omega⟩ (fun n69 => ?_) (fun n69 => ?_)
                          · refine r_aldR cd_45_44 rfl rfl ?_
                            refine r_aldC cd_45_45 rfl rfl ?_
                            refine r_cget (v := aC 61) cd_45_46 rfl (rfl) ?_
                            refine r_ild cd_45_49 rfl rfl ?_
                            refine r_cI (c_380 61 2 (by decide) (by decide) (by decide)) cd_45_50 rfl rfl rfl ⟨by decide, by decide⟩ rfl rfl rfl ?_
                            refine RU.cast (pc2 := 53) (S2 := [aI 115, aR 201]) rfl rfl rfl ?_
                            refine r_ild cd_45_53 rfl rfl ?_
                            refine r_cI d3_ cd_45_54 rfl rfl rfl (rc0 s2 rfl) rfl rfl rfl ?_
                            refine r_if52 cd_45_57 rfl ⟨by omega, by omega⟩ (fun n70 => ?_) (fun n70 => ?_)
                            · exact absurd n70 (by decide)
                            · refine r_inc (v := 3) cd_45_62 rfl rfl rfl (by omega) (L' := [aR 201, aC 8, aI 3]) rfl ?_
                              refine r_goto cd_45_65 ?_
                              refine r_ild cd_45_28 rfl rfl ?_
                              refine r_aldC cd_45_29 rfl rfl ?_
                              refine r_cget (v := aC 61) cd_45_30 rfl (rfl) ?_
                              refine r_cI (c_378 61 (by decide) (by decide)) cd_45_33 rfl rfl rfl ⟨by decide, by decide⟩ rfl rfl rfl ?_
                              refine RU.cast (pc2 := 36) (S2 := [aI 3, aI 3]) rfl rfl rfl ?_
                              refine r_ic64 cd_45_36 rfl ⟨by omega, by omega⟩ ⟨by omega, by omega⟩ (fun n71 => ?_) (fun n71 => ?_)
                              · exact absurd n71 (by decide)
                              · refine r_aldR cd_45_68 rfl rfl ?_
                                refine r_con (v := 5) cd_45_69 rfl (by decide) ?_
                                refine r_cI ds cd_45_70 rfl rfl rfl (rc0 s3 rfl) rfl rfl rfl ?_
                                refine r_if52 cd_45_73 rfl ⟨by omega, by omega⟩ (fun n72 => ?_) (fun n72 => ?_)
                                · exact absurd n72 (by decide)
                                · refine r_aldR cd_45_78 rfl rfl ?_
                                  refine r_get cd_45_79 rfl ss rfl ?_
                                  refine r_aldC cd_45_82 rfl rfl ?_
                                  refine r_aldR cd_45_83 rfl rfl ?_
                                  refine r_get cd_45_84 rfl ss rfl ?_
                                  refine r_con (v := 0) cd_45_87 rfl (by decide) ?_
                                  refine r_arr (i := 0) cd_45_88 rfl vs rfl (by omega) rfl ?_
                                  refine RU.cast (pc2 := 89) (S2 := [aI ((q1 : Nat) : Int), aC 8, aR 204]) rfl rfl rfl ?_
                                  refine r_aldR cd_45_89 rfl rfl ?_
                                  refine r_get cd_45_90 rfl ss rfl ?_
                                  refine r_con (v := 1) cd_45_93 rfl (by decide) ?_
                                  refine r_arr (i := 1) cd_45_94 rfl vs rfl (by omega) rfl ?_
                                  refine RU.cast (pc2 := 95) (S2 := [aI ((q2 : Nat) : Int), aI ((q1 : Nat) : Int), aC 8, aR 204]) rfl rfl rfl ?_
                                  refine r_aldR cd_45_95 rfl rfl ?_
                                  refine r_get cd_45_96 rfl ss rfl ?_
                                  refine r_con (v := 3) cd_45_99 rfl (by decide) ?_
                                  refine r_arr (i := 3) cd_45_100 rfl vs rfl (by omega) rfl ?_
                                  refine r_cI (k_76_4 Rs hI.1 _ _ _) cd_45_101 rfl rfl rfl (rc0 o204 rfl) rfl rfl rfl ?_
                                  refine r_if51b cd_45_104 rfl (fun n73 => ?_) (fun n73 => ?_)
                                  · exact Bool.noConfusion (n73.symm.trans hr)
                                  · refine r_aldR cd_45_107 rfl rfl ?_
                                    refine r_con (v := 3) cd_45_108 rfl (by decide) ?_
                                    refine r_cI (k_36 dp ex ek eo ss N _ _ _ _ ts 3) cd_45_109 rfl rfl rfl (rc0 ss rfl) rfl rfl rfl ?_
                                    exact r_ret cd_45_112 (Or.inl rfl) (rfl)
                          · exact absurd n69 (by decide)
                        · exact absurd n68 (by decide)
                    · exact absurd n66 (by decide)
                  · exact absurd n65 (by decide)
              · exact absurd n63 (by decide)
            · exact absurd n62 (by decide)
          · exact absurd n61 (by omega)
        have h4 : w 5 < 8 := of_decide_eq_true hc
        have hr : (decide (w 5 = 8)) = false := decide_eq_false (show ¬ w 5 = 8 by omega)
        obtain ⟨gc, dc, Rc, Fc⟩ := v_84_4 (B := 204) Rs hI.1 ((q1 : Nat) : Int) ((q2 : Nat) : Int) ((q3 : Nat) : Int) h4 ((va_up (va_up (va_up va 0 ((q1 : Nat) : Int)) 1 ((q2 : Nat) : Int)) 2 ((q3 : Nat) : Int)) 3)
        have sc := (Fc.1 201 (by decide)).trans ss
        have vc := (Fc.1 222 (by decide)).trans vs
        have tc := (Fc.1 202 (by decide)).trans ts
        rw [show cBal tx N i w = .inr (tEnd tx N j3, brinW w ((q1 : Nat) : Int) ((q2 : Nat) : Int) ((q3 : Nat) : Int)) from (bnd_r hA1).trans ((bnd_r hA2).trans ((bnd_r hA3).trans ((bnd_r ((if_neg nk).trans (if_pos hc))))))]
        refine ⟨sw gc 201 (SO dp (ex + 1) ek eo), Ct.of [aR 201, aC 8, aU] rfl ?_, sw_at _ _ _, ⟨_, _, _, (sw_ne (by decide)).trans tc⟩, Rc.mv fun a h1 h2 => sw_ne (by omega), ⟨_, (sw_ne (by decide)).trans vc⟩, ((N3.tr ms.nc).tr Fc.nc).s⟩
        refine r_aldC cd_45_0 rfl rfl ?_
        refine r_nnC cd_45_1 ⟨by decide, by decide⟩ ?_
        refine r_aldR cd_45_10 rfl rfl ?_
        refine r_get cd_45_11 rfl hS rfl ?_
        refine r_con (v := 200) cd_45_14 rfl (by decide) ?_
        refine r_ic63 cd_45_17 rfl ⟨by omega, by omega⟩ ⟨by omega, by omega⟩ (fun n61 => ?_) (fun n61 => ?_)
        · refine r_con (v := 0) cd_45_26 rfl (by decide) ?_
          refine r_ist cd_45_27 rfl rfl (L' := [aR 201, aC 8, aI 0]) rfl ?_
          refine r_ild cd_45_28 rfl rfl ?_
          refine r_aldC cd_45_29 rfl rfl ?_
          refine r_cget (v := aC 61) cd_45_30 rfl (rfl) ?_
          refine r_cI (c_378 61 (by decide) (by decide)) cd_45_33 rfl rfl rfl ⟨by decide, by decide⟩ rfl rfl rfl ?_
          refine RU.cast (pc2 := 36) (S2 := [aI 3, aI 0]) rfl rfl rfl ?_
          refine r_ic64 cd_45_36 rfl ⟨by omega, by omega⟩ ⟨by omega, by omega⟩ (fun n62 => ?_) (fun n62 => ?_)
          · refine r_ild cd_45_39 rfl rfl ?_
            refine r_con (v := 4) cd_45_40 rfl (by decide) ?_
            refine r_ic64 cd_45_41 rfl ⟨by omega, by omega⟩ ⟨by omega, by omega⟩ (fun n63 => ?_) (fun n63 => ?_)
            · refine r_aldR cd_45_44 rfl rfl ?_
              refine r_aldC cd_45_45 rfl rfl ?_
              refine r_cget (v := aC 61) cd_45_46 rfl (rfl) ?_
              refine r_ild cd_45_49 rfl rfl ?_
              refine r_cI (c_380 61 0 (by decide) (by decide) (by decide)) cd_45_50 rfl rfl rfl ⟨by decide, by decide⟩ rfl rfl rfl ?_
              refine RU.cast (pc2 := 53) (S2 := [aI 112, aR 201]) rfl rfl rfl ?_
              refine r_ild cd_45_53 rfl rfl ?_
              refine r_cI d1_ cd_45_54 rfl rfl rfl (rc0 hS rfl) rfl rfl rfl ?_
              refine r_if52 cd_45_57 rfl ⟨by omega, by omega⟩ (fun n64 => ?_) (fun n64 => ?_)
              · exact absurd n64 (by decide)
              · refine r_inc (v := 1) cd_45_62 rfl rfl rfl (by omega) (L' := [aR 201, aC 8, aI 1]) rfl ?_
                refine r_goto cd_45_65 ?_
                refine r_ild cd_45_28 rfl rfl ?_
                refine r_aldC cd_45_29 rfl rfl ?_
                refine r_cget (v := aC 61) cd_45_30 rfl (rfl) ?_
                refine r_cI (c_378 61 (by decide) (by decide)) cd_45_33 rfl rfl rfl ⟨by decide, by decide⟩ rfl rfl rfl ?_
                refine RU.cast (pc2 := 36) (S2 := [aI 3, aI 1]) rfl rfl rfl ?_
                refine r_ic64 cd_45_36 rfl ⟨by omega, by omega⟩ ⟨by omega, by omega⟩ (fun n65 => ?_) (fun n65 => ?_)
                · refine r_ild cd_45_39 rfl rfl ?_
                  refine r_con (v := 4) cd_45_40 rfl (by decide) ?_
                  refine r_ic64 cd_45_41 rfl ⟨by omega, by omega⟩ ⟨by omega, by omega⟩ (fun n66 => ?_) (fun n66 => ?_)
                  · refine r_aldR cd_45_44 rfl rfl ?_
                    refine r_aldC cd_45_45 rfl rfl ?_
                    refine r_cget (v := aC 61) cd_45_46 rfl (rfl) ?_
                    refine r_ild cd_45_49 rfl rfl ?_
                    refine r_cI (c_380 61 1 (by decide) (by decide) (by decide)) cd_45_50 rfl rfl rfl ⟨by decide, by decide⟩ rfl rfl rfl ?_
                    refine RU.cast (pc2 := 53) (S2 := [aI 117, aR 201]) rfl rfl rfl ?_
                    refine r_ild cd_45_53 rfl rfl ?_
                    refine r_cI d2_ cd_45_54 rfl rfl rfl (rc0 s1 rfl) rfl rfl rfl ?_
                    refine r_if52 cd_45_57 rfl ⟨by omega, by omega⟩ (fun n67 => ?_) (fun n67 => ?_)
                    · exact absurd n67 (by decide)
                    · refine r_inc (v := 2) cd_45_62 rfl rfl rfl (by omega) (L' := [aR 201, aC 8, aI 2]) rfl ?_
                      refine r_goto cd_45_65 ?_
                      refine r_ild cd_45_28 rfl rfl ?_
                      refine r_aldC cd_45_29 rfl rfl ?_
                      refine r_cget (v := aC 61) cd_45_30 rfl (rfl) ?_
                      refine r_cI (c_378 61 (by decide) (by decide)) cd_45_33 rfl rfl rfl ⟨by decide, by decide⟩ rfl rfl rfl ?_
                      refine RU.cast (pc2 := 36) (S2 := [aI 3, aI 2]) rfl rfl rfl ?_
                      refine r_ic64 cd_45_36 rfl ⟨by omega, by omega⟩ ⟨by omega, by omega⟩ (fun n68 => ?_) (fun n68 => ?_)
                      · refine r_ild cd_45_39 rfl rfl ?_
                        refine r_con (v := 4) cd_45_40 rfl (by decide) ?_
                        refine r_ic64 cd_45_41 rfl ⟨by omega, by omega⟩ ⟨by omega, by omega⟩ (fun n69 => ?_) (fun n69 => ?_)
                        · refine r_aldR cd_45_44 rfl rfl ?_
                          refine r_aldC cd_45_45 rfl rfl ?_
                          refine r_cget (v := aC 61) cd_45_46 rfl (rfl) ?_
                          refine r_ild cd_45_49 rfl rfl ?_
                          refine r_cI (c_380 61 2 (by decide) (by decide) (by decide)) cd_45_50 rfl rfl rfl ⟨by decide, by decide⟩ rfl rfl rfl ?_
                          refine RU.cast (pc2 := 53) (S2 := [aI 115, aR 201]) rfl rfl rfl ?_
                          refine r_ild cd_45_53 rfl rfl ?_
                          refine r_cI d3_ cd_45_54 rfl rfl rfl (rc0 s2 rfl) rfl rfl rfl ?_
                          refine r_if52 cd_45_57 rfl ⟨by omega, by omega⟩ (fun n70 => ?_) (fun n70 => ?_)
                          · exact absurd n70 (by decide)
                          · refine r_inc (v := 3) cd_45_62 rfl rfl rfl (by omega) (L' := [aR 201, aC 8, aI 3]) rfl ?_
                            refine r_goto cd_45_65 ?_
                            refine r_ild cd_45_28 rfl rfl ?_
                            refine r_aldC cd_45_29 rfl rfl ?_
                            refine r_cget (v := aC 61) cd_45_30 rfl (rfl) ?_
                            refine r_cI (c_378 61 (by decide) (by decide)) cd_45_33 rfl rfl rfl ⟨by decide, by decide⟩ rfl rfl rfl ?_
                            refine RU.cast (pc2 := 36) (S2 := [aI 3, aI 3]) rfl rfl rfl ?_
                            refine r_ic64 cd_45_36 rfl ⟨by omega, by omega⟩ ⟨by omega, by omega⟩ (fun n71 => ?_) (fun n71 => ?_)
                            · exact absurd n71 (by decide)
                            · refine r_aldR cd_45_68 rfl rfl ?_
                              refine r_con (v := 5) cd_45_69 rfl (by decide) ?_
                              refine r_cI ds cd_45_70 rfl rfl rfl (rc0 s3 rfl) rfl rfl rfl ?_
                              refine r_if52 cd_45_73 rfl ⟨by omega, by omega⟩ (fun n72 => ?_) (fun n72 => ?_)
                              · exact absurd n72 (by decide)
                              · refine r_aldR cd_45_78 rfl rfl ?_
                                refine r_get cd_45_79 rfl ss rfl ?_
                                refine r_aldC cd_45_82 rfl rfl ?_
                                refine r_aldR cd_45_83 rfl rfl ?_
                                refine r_get cd_45_84 rfl ss rfl ?_
                                refine r_con (v := 0) cd_45_87 rfl (by decide) ?_
                                refine r_arr (i := 0) cd_45_88 rfl vs rfl (by omega) rfl ?_
                                refine RU.cast (pc2 := 89) (S2 := [aI ((q1 : Nat) : Int), aC 8, aR 204]) rfl rfl rfl ?_
                                refine r_aldR cd_45_89 rfl rfl ?_
                                refine r_get cd_45_90 rfl ss rfl ?_
                                refine r_con (v := 1) cd_45_93 rfl (by decide) ?_
                                refine r_arr (i := 1) cd_45_94 rfl vs rfl (by omega) rfl ?_
                                refine RU.cast (pc2 := 95) (S2 := [aI ((q2 : Nat) : Int), aI ((q1 : Nat) : Int), aC 8, aR 204]) rfl rfl rfl ?_
                                refine r_aldR cd_45_95 rfl rfl ?_
                                refine r_get cd_45_96 rfl ss rfl ?_
                                refine r_con (v := 3) cd_45_99 rfl (by decide) ?_
                                refine r_arr (i := 3) cd_45_100 rfl vs rfl (by omega) rfl ?_
                                refine r_cI (k_76_4 Rs hI.1 _ _ _) cd_45_101 rfl rfl rfl (rc0 o204 rfl) rfl rfl rfl ?_
                                refine r_if51b cd_45_104 rfl (fun n73 => ?_) (fun n73 => ?_)
                                · refine r_aldR cd_45_113 rfl rfl ?_
                                  refine r_get cd_45_114 rfl ss rfl ?_
                                  refine r_aldC cd_45_117 rfl rfl ?_
                                  refine r_aldR cd_45_118 rfl rfl ?_
                                  refine r_get cd_45_119 rfl ss rfl ?_
                                  refine r_con (v := 0) cd_45_122 rfl (by decide) ?_
                                  refine r_arr (i := 0) cd_45_123 rfl vs rfl (by omega) rfl ?_
                                  refine RU.cast (pc2 := 124) (S2 := [aI ((q1 : Nat) : Int), aC 8, aR 204]) rfl rfl rfl ?_
                                  refine r_aldR cd_45_124 rfl rfl ?_
                                  refine r_get cd_45_125 rfl ss rfl ?_
                                  refine r_con (v := 1) cd_45_128 rfl (by decide) ?_
                                  refine r_arr (i := 1) cd_45_129 rfl vs rfl (by omega) rfl ?_
                                  refine RU.cast (pc2 := 130) (S2 := [aI ((q2 : Nat) : Int), aI ((q1 : Nat) : Int), aC 8, aR 204]) rfl rfl rfl ?_
                                  refine r_aldR cd_45_130 rfl rfl ?_
                                  refine r_get cd_45_131 rfl ss rfl ?_
                                  refine r_con (v := 2) cd_45_134 rfl (by decide) ?_
                                  refine r_arr (i := 2) cd_45_135 rfl vs rfl (by omega) rfl ?_
                                  refine RU.cast (pc2 := 136) (S2 := [aI ((q3 : Nat) : Int), aI ((q2 : Nat) : Int), aI ((q1 : Nat) : Int), aC 8, aR 204]) rfl rfl rfl ?_
                                  refine r_aldR cd_45_136 rfl rfl ?_
                                  refine r_get cd_45_137 rfl ss rfl ?_
                                  refine r_con (v := 3) cd_45_140 rfl (by decide) ?_
                                  refine r_arr (i := 3) cd_45_141 rfl vs rfl (by omega) rfl ?_
                                  refine r_cI dc cd_45_142 rfl rfl rfl (rc0 o204 rfl) rfl rfl rfl ?_
                                  refine r_pop cd_45_145 rfl rfl ?_
                                  refine r_aldR cd_45_146 rfl rfl ?_
                                  refine r_dup cd_45_147 rfl rfl ?_
                                  refine r_get cd_45_148 rfl sc rfl ?_
                                  refine r_con (v := 1) cd_45_151 rfl (by decide) ?_
                                  refine r_add (v := ex + 1) cd_45_152 rfl (by rfl) ?_
                                  refine r_put (fs' := [aR 202, aR 204, aR 222, aR 223, aR 224, aI dp, aI (ex + 1), aI ek, aI eo]) cd_45_153 rfl sc rfl rfl ?_
                                  refine r_con (v := 1) cd_45_156 rfl (by decide) ?_
                                  exact r_ret cd_45_157 (Or.inr rfl) (rfl)
                                · exact Bool.noConfusion (n73.symm.trans hr)
                        · exact absurd n69 (by decide)
                      · exact absurd n68 (by decide)
                  · exact absurd n66 (by decide)
                · exact absurd n65 (by decide)
            · exact absurd n63 (by decide)
          · exact absurd n62 (by decide)
        · exact absurd n61 (by omega)
theorem v_45_5 {h : aH} {tx tb : Nat → Int} {N : Nat} (hN : N ≤ 600) (hT : ∀ k, k < N → BT (tx k) (tb k)) (dp ex ek eo : Int) (hS : h.2.2 201 = SO dp ex ek eo) (hx0 : 0 ≤ ex) (hx : ex < 200) {w : Nat → Int} (hR : Rp h 204 w) (hI : Inv w) {va : Nat → Int} (hV : h.2.2 222 = .inl (0, 4, .inl va)) (hb : TxB tx) (st kd vl : Int) (i : Nat) (hi : i ≤ N) (hO : h.2.2 202 = TO N st ((i : Nat) : Int) kd vl) (hB : h.2.2 203 = .inl (1, 600, .inl tb)) : CmdP 8 45 [aR 201, aC 9] h N dp ex ek eo (cPar tx N i w) := by
  have hbn := hI.1.bNe
  have hpn := hI.1.pNe
  have x0 := hI.1.len
  have x1 := hI.2.1
  have x1b := hI.1.hour
  have x4 := hI.1.gn
  have x5 := hI.1.bn
  have x6 := hI.1.pn
  have P1 := v_46_w0 hN hT dp ex ek eo hS hR hI.1 hV hb st kd vl i hi hO hB
  rcases hA1 : numA tx N i 1 9 with e | ⟨q1, j1⟩
  · rw [hA1] at P1
    obtain ⟨g1, d1_, s1, t1, v1, m1⟩ := P1
    rw [show cPar tx N i w = .inl e from bnd_e hA1]
    refine ⟨g1, Ct.of [aR 201, aC 9, aU] rfl ?_, s1, t1, (m1.rp hR).ex, v1, NC.rf.tr m1.nc⟩
    refine r_aldC cd_45_0 rfl rfl ?_
    refine r_nnC cd_45_1 ⟨by decide, by decide⟩ ?_
    refine r_aldR cd_45_10 rfl rfl ?_
    refine r_get cd_45_11 rfl hS rfl ?_
    refine r_con (v := 200) cd_45_14 rfl (by decide) ?_
    refine r_ic63 cd_45_17 rfl ⟨by omega, by omega⟩ ⟨by omega, by omega⟩ (fun n61 => ?_) (fun n61 => ?_)
    · refine r_con (v := 0) cd_45_26 rfl (by decide) ?_
      refine r_ist cd_45_27 rfl rfl (L' := [aR 201, aC 9, aI 0]) rfl ?_
      refine r_ild cd_45_28 rfl rfl ?_
      refine r_aldC cd_45_29 rfl rfl ?_
      refine r_cget (v := aC 63) cd_45_30 rfl (rfl) ?_
      refine r_cI (c_378 63 (by decide) (by decide)) cd_45_33 rfl rfl rfl ⟨by decide, by decide⟩ rfl rfl rfl ?_
      refine RU.cast (pc2 := 36) (S2 := [aI 4, aI 0]) rfl rfl rfl ?_
      refine r_ic64 cd_45_36 rfl ⟨by omega, by omega⟩ ⟨by omega, by omega⟩ (fun n62 => ?_) (fun n62 => ?_)
      · refine r_ild cd_45_39 rfl rfl ?_
        refine r_con (v := 4) cd_45_40 rfl (by decide) ?_
        refine r_ic64 cd_45_41 rfl ⟨by omega, by omega⟩ ⟨by omega, by omega⟩ (fun n63 => ?_) (fun n63 => ?_)
        · refine r_aldR cd_45_44 rfl rfl ?_
          refine r_aldC cd_45_45 rfl rfl ?_
          refine r_cget (v := aC 63) cd_45_46 rfl (rfl) ?_
          refine r_ild cd_45_49 rfl rfl ?_
          refine r_cI (c_380 63 0 (by decide) (by decide) (by decide)) cd_45_50 rfl rfl rfl ⟨by decide, by decide⟩ rfl rfl rfl ?_
          refine RU.cast (pc2 := 53) (S2 := [aI 119, aR 201]) rfl rfl rfl ?_
          refine r_ild cd_45_53 rfl rfl ?_
          refine r_cI d1_ cd_45_54 rfl rfl rfl (rc0 hS rfl) rfl rfl rfl ?_
          refine r_if52 cd_45_57 rfl ⟨by omega, by omega⟩ (fun n64 => ?_) (fun n64 => ?_)
          · refine r_con (v := 0) cd_45_60 rfl (by decide) ?_
            exact r_ret cd_45_61 (Or.inl rfl) (rfl)
          · exact absurd n64 (by decide)
        · exact absurd n63 (by decide)
      · exact absurd n62 (by decide)
    · exact absurd n61 (by omega)
  · rw [hA1] at P1
    obtain ⟨g1, d1_, s1, ⟨st1, kd1, vl1, t1⟩, vv1, m1⟩ := P1
    have v1 : g1.2.2 222 = .inl (0, 4, .inl (va_up va 0 ((q1 : Nat) : Int))) := vv1
    have b1 : g1.2.2 203 = .inl (1, 600, .inl tb) := (m1.1 203 (by decide) (by decide) (by decide)).trans hB
    have R1 : Rp g1 204 w := m1.rp hR
    obtain ⟨z1a, z1b, z1c, z1j, -⟩ := numA_o hA1 (by decide)
    have i1 : j1 ≤ N := by rw [z1j]; exact (tPos hi).2
    have N1 : NC h g1 := NC.rf.tr m1.nc
    have P2 := v_46_p1 hN hT dp ex ek eo s1 R1 hI.1 v1 hb st1 kd1 vl1 j1 i1 t1 b1
    rcases hA2 : numA tx N j1 0 (w 0 - 1) with e | ⟨q2, j2⟩
    · rw [hA2] at P2
      obtain ⟨g2, d2_, s2, t2, v2, m2⟩ := P2
      rw [show cPar tx N i w = .inl e from (bnd_r hA1).trans (bnd_e hA2)]
      refine ⟨g2, Ct.of [aR 201, aC 9, aU] rfl ?_, s2, t2, (m2.rp R1).ex, v2, N1.tr m2.nc⟩
      refine r_aldC cd_45_0 rfl rfl ?_
      refine r_nnC cd_45_1 ⟨by decide, by decide⟩ ?_
      refine r_aldR cd_45_10 rfl rfl ?_
      refine r_get cd_45_11 rfl hS rfl ?_
      refine r_con (v := 200) cd_45_14 rfl (by decide) ?_
      refine r_ic63 cd_45_17 rfl ⟨by omega, by omega⟩ ⟨by omega, by omega⟩ (fun n61 => ?_) (fun n61 => ?_)
      · refine r_con (v := 0) cd_45_26 rfl (by decide) ?_
        refine r_ist cd_45_27 rfl rfl (L' := [aR 201, aC 9, aI 0]) rfl ?_
        refine r_ild cd_45_28 rfl rfl ?_
        refine r_aldC cd_45_29 rfl rfl ?_
        refine r_cget (v := aC 63) cd_45_30 rfl (rfl) ?_
        refine r_cI (c_378 63 (by decide) (by decide)) cd_45_33 rfl rfl rfl ⟨by decide, by decide⟩ rfl rfl rfl ?_
        refine RU.cast (pc2 := 36) (S2 := [aI 4, aI 0]) rfl rfl rfl ?_
        refine r_ic64 cd_45_36 rfl ⟨by omega, by omega⟩ ⟨by omega, by omega⟩ (fun n62 => ?_) (fun n62 => ?_)
        · refine r_ild cd_45_39 rfl rfl ?_
          refine r_con (v := 4) cd_45_40 rfl (by decide) ?_
          refine r_ic64 cd_45_41 rfl ⟨by omega, by omega⟩ ⟨by omega, by omega⟩ (fun n63 => ?_) (fun n63 => ?_)
          · refine r_aldR cd_45_44 rfl rfl ?_
            refine r_aldC cd_45_45 rfl rfl ?_
            refine r_cget (v := aC 63) cd_45_46 rfl (rfl) ?_
            refine r_ild cd_45_49 rfl rfl ?_
            refine r_cI (c_380 63 0 (by decide) (by decide) (by decide)) cd_45_50 rfl rfl rfl ⟨by decide, by decide⟩ rfl rfl rfl ?_
            refine RU.cast (pc2 := 53) (S2 := [aI 119, aR 201]) rfl rfl rfl ?_
            refine r_ild cd_45_53 rfl rfl ?_
            refine r_cI d1_ cd_45_54 rfl rfl rfl (rc0 hS rfl) rfl rfl rfl ?_
            refine r_if52 cd_45_57 rfl ⟨by omega, by omega⟩ (fun n64 => ?_) (fun n64 => ?_)
            · exact absurd n64 (by decide)
            · refine r_inc (v := 1) cd_45_62 rfl rfl rfl (by omega) (L' := [aR 201, aC 9, aI 1]) rfl ?_
              refine r_goto cd_45_65 ?_
              refine r_ild cd_45_28 rfl rfl ?_
              refine r_aldC cd_45_29 rfl rfl ?_
              refine r_cget (v := aC 63) cd_45_30 rfl (rfl) ?_
              refine r_cI (c_378 63 (by decide) (by decide)) cd_45_33 rfl rfl rfl ⟨by decide, by decide⟩ rfl rfl rfl ?_
              refine RU.cast (pc2 := 36) (S2 := [aI 4, aI 1]) rfl rfl rfl ?_
              refine r_ic64 cd_45_36 rfl ⟨by omega, by omega⟩ ⟨by omega, by omega⟩ (fun n65 => ?_) (fun n65 => ?_)
              · refine r_ild cd_45_39 rfl rfl ?_
                refine r_con (v := 4) cd_45_40 rfl (by decide) ?_
                refine r_ic64 cd_45_41 rfl ⟨by omega, by omega⟩ ⟨by omega, by omega⟩ (fun n66 => ?_) (fun n66 => ?_)
                · refine r_aldR cd_45_44 rfl rfl ?_
                  refine r_aldC cd_45_45 rfl rfl ?_
                  refine r_cget (v := aC 63) cd_45_46 rfl (rfl) ?_
                  refine r_ild cd_45_49 rfl rfl ?_
                  refine r_cI (c_380 63 1 (by decide) (by decide) (by decide)) cd_45_50 rfl rfl rfl ⟨by decide, by decide⟩ rfl rfl rfl ?_
                  refine RU.cast (pc2 := 53) (S2 := [aI 112, aR 201]) rfl rfl rfl ?_
                  refine r_ild cd_45_53 rfl rfl ?_
                  refine r_cI d2_ cd_45_54 rfl rfl rfl (rc0 s1 rfl) rfl rfl rfl ?_
                  refine r_if52 cd_45_57 rfl ⟨by omega, by omega⟩ (fun n67 => ?_) (fun n67 => ?_)
                  · refine r_con (v := 0) cd_45_60 rfl (by decide) ?_
                    exact r_ret cd_45_61 (Or.inl rfl) (rfl)
                  · exact absurd n67 (by decide)
                · exact absurd n66 (by decide)
              · exact absurd n65 (by decide)
          · exact absurd n63 (by decide)
        · exact absurd n62 (by decide)
      · exact absurd n61 (by omega)
    · rw [hA2] at P2
      obtain ⟨g2, d2_, s2, ⟨st2, kd2, vl2, t2⟩, vv2, m2⟩ := P2
      have v2 : g2.2.2 222 = .inl (0, 4, .inl (va_up (va_up va 0 ((q1 : Nat) : Int)) 1 ((q2 : Nat) : Int))) := vv2
      have b2 : g2.2.2 203 = .inl (1, 600, .inl tb) := (m2.1 203 (by decide) (by decide) (by decide)).trans b1
      have R2 : Rp g2 204 w := m2.rp R1
      obtain ⟨z2a, z2b, z2c, z2j, -⟩ := numA_o hA2 (by decide)
      have i2 : j2 ≤ N := by rw [z2j]; exact (tPos i1).2
      have N2 : NC h g2 := N1.tr m2.nc
      have P3 := v_46_o2 hN hT dp ex ek eo s2 R2 hI.1 v2 hb st2 kd2 vl2 j2 i2 t2 b2 q2 (by omega) (vu_at _ _ _)
      rcases hA3 : othA tx N j2 q2 w with e | ⟨q3, j3⟩
      · rw [hA3] at P3
        obtain ⟨g3, d3_, s3, t3, v3, m3⟩ := P3
        rw [show cPar tx N i w = .inl e from (bnd_r hA1).trans ((bnd_r hA2).trans (bnd_e hA3))]
        refine ⟨g3, Ct.of [aR 201, aC 9, aU] rfl ?_, s3, t3, (m3.rp R2).ex, v3, N2.tr m3.nc⟩
        refine r_aldC cd_45_0 rfl rfl ?_
        refine r_nnC cd_45_1 ⟨by decide, by decide⟩ ?_
        refine r_aldR cd_45_10 rfl rfl ?_
        refine r_get cd_45_11 rfl hS rfl ?_
        refine r_con (v := 200) cd_45_14 rfl (by decide) ?_
        refine r_ic63 cd_45_17 rfl ⟨by omega, by omega⟩ ⟨by omega, by omega⟩ (fun n61 => ?_) (fun n61 => ?_)
        · refine r_con (v := 0) cd_45_26 rfl (by decide) ?_
          refine r_ist cd_45_27 rfl rfl (L' := [aR 201, aC 9, aI 0]) rfl ?_
          refine r_ild cd_45_28 rfl rfl ?_
          refine r_aldC cd_45_29 rfl rfl ?_
          refine r_cget (v := aC 63) cd_45_30 rfl (rfl) ?_
          refine r_cI (c_378 63 (by decide) (by decide)) cd_45_33 rfl rfl rfl ⟨by decide, by decide⟩ rfl rfl rfl ?_
          refine RU.cast (pc2 := 36) (S2 := [aI 4, aI 0]) rfl rfl rfl ?_
          refine r_ic64 cd_45_36 rfl ⟨by omega, by omega⟩ ⟨by omega, by omega⟩ (fun n62 => ?_) (fun n62 => ?_)
          · refine r_ild cd_45_39 rfl rfl ?_
            refine r_con (v := 4) cd_45_40 rfl (by decide) ?_
            refine r_ic64 cd_45_41 rfl ⟨by omega, by omega⟩ ⟨by omega, by omega⟩ (fun n63 => ?_) (fun n63 => ?_)
            · refine r_aldR cd_45_44 rfl rfl ?_
              refine r_aldC cd_45_45 rfl rfl ?_
              refine r_cget (v := aC 63) cd_45_46 rfl (rfl) ?_
              refine r_ild cd_45_49 rfl rfl ?_
              refine r_cI (c_380 63 0 (by decide) (by decide) (by decide)) cd_45_50 rfl rfl rfl ⟨by decide, by decide⟩ rfl rfl rfl ?_
              refine RU.cast (pc2 := 53) (S2 := [aI 119, aR 201]) rfl rfl rfl ?_
              refine r_ild cd_45_53 rfl rfl ?_
              refine r_cI d1_ cd_45_54 rfl rfl rfl (rc0 hS rfl) rfl rfl rfl ?_
              refine r_if52 cd_45_57 rfl ⟨by omega, by omega⟩ (fun n64 => ?_) (fun n64 => ?_)
              · exact absurd n64 (by decide)
              · refine r_inc (v := 1) cd_45_62 rfl rfl rfl (by omega) (L' := [aR 201, aC 9, aI 1]) rfl ?_
                refine r_goto cd_45_65 ?_
                refine r_ild cd_45_28 rfl rfl ?_
                refine r_aldC cd_45_29 rfl rfl ?_
                refine r_cget (v := aC 63) cd_45_30 rfl (rfl) ?_
                refine r_cI (c_378 63 (by decide) (by decide)) cd_45_33 rfl rfl rfl ⟨by decide, by decide⟩ rfl rfl rfl ?_
                refine RU.cast (pc2 := 36) (S2 := [aI 4, aI 1]) rfl rfl rfl ?_
                refine r_ic64 cd_45_36 rfl ⟨by omega, by omega⟩ ⟨by omega, by omega⟩ (fun n65 => ?_) (fun n65 => ?_)
                · refine r_ild cd_45_39 rfl rfl ?_
                  refine r_con (v := 4) cd_45_40 rfl (by decide) ?_
                  refine r_ic64 cd_45_41 rfl ⟨by omega, by omega⟩ ⟨by omega, by omega⟩ (fun n66 => ?_) (fun n66 => ?_)
                  · refine r_aldR cd_45_44 rfl rfl ?_
                    refine r_aldC cd_45_45 rfl rfl ?_
                    refine r_cget (v := aC 63) cd_45_46 rfl (rfl) ?_
                    refine r_ild cd_45_49 rfl rfl ?_
                    refine r_cI (c_380 63 1 (by decide) (by decide) (by decide)) cd_45_50 rfl rfl rfl ⟨by decide, by decide⟩ rfl rfl rfl ?_
                    refine RU.cast (pc2 := 53) (S2 := [aI 112, aR 201]) rfl rfl rfl ?_
                    refine r_ild cd_45_53 rfl rfl ?_
                    refine r_cI d2_ cd_45_54 rfl rfl rfl (rc0 s1 rfl) rfl rfl rfl ?_
                    refine r_if52 cd_45_57 rfl ⟨by omega, by omega⟩ (fun n67 => ?_) (fun n67 => ?_)
                    · exact absurd n67 (by decide)
                    · refine r_inc (v := 2) cd_45_62 rfl rfl rfl (by omega) (L' := [aR 201, aC 9, aI 2]) rfl ?_
                      refine r_goto cd_45_65 ?_
                      refine r_ild cd_45_28 rfl rfl ?_
                      refine r_aldC cd_45_29 rfl rfl ?_
                      refine r_cget (v := aC 63) cd_45_30 rfl (rfl) ?_
                      refine r_cI (c_378 63 (by decide) (by decide)) cd_45_33 rfl rfl rfl ⟨by decide, by decide⟩ rfl rfl rfl ?_
                      refine RU.cast (pc2 := 36) (S2 := [aI 4, aI 2]) rfl rfl rfl ?_
                      refine r_ic64 cd_45_36 rfl ⟨by omega, by omega⟩ ⟨by omega, by omega⟩ (fun n68 => ?_) (fun n68 => ?_)
                      · refine r_ild cd_45_39 rfl rfl ?_
                        refine r_con (v := 4) cd_45_40 rfl (by decide) ?_
                        refine r_ic64 cd_45_41 rfl ⟨by omega, by omega⟩ ⟨by omega, by omega⟩ (fun n69 => ?_) (fun n69 => ?_)
                        · refine r_aldR cd_45_44 rfl rfl ?_
                          refine r_aldC cd_45_45 rfl rfl ?_
                          refine r_cget (v := aC 63) cd_45_46 rfl (rfl) ?_
                          refine r_ild cd_45_49 rfl rfl ?_
                          refine r_cI (c_380 63 2 (by decide) (by decide) (by decide)) cd_45_50 rfl rfl rfl ⟨by decide, by decide⟩ rfl rfl rfl ?_
                          refine RU.cast (pc2 := 53) (S2 := [aI 111, aR 201]) rfl rfl rfl ?_
                          refine r_ild cd_45_53 rfl rfl ?_
                          refine r_cI d3_ cd_45_54 rfl rfl rfl (rc0 s2 rfl) rfl rfl rfl ?_
                          refine r_if52 cd_45_57 rfl ⟨by omega, by omega⟩ (fun n70 => ?_) (fun n70 => ?_)
                          · refine r_con (v := 0) cd_45_60 rfl (by decide) ?_
                            exact r_ret cd_45_61 (Or.inl rfl) (rfl)
                          · exact absurd n70 (by decide)
                        · exact absurd n69 (by decide)
                      · exact absurd n68 (by decide)
                  · exact absurd n66 (by decide)
                · exact absurd n65 (by decide)
            · exact absurd n63 (by decide)
          · exact absurd n62 (by decide)
        · exact absurd n61 (by omega)
      · rw [hA3] at P3
        obtain ⟨g3, d3_, s3, ⟨st3, kd3, vl3, t3⟩, vv3, m3⟩ := P3
        have v3 : g3.2.2 222 = .inl (0, 4, .inl (va_up (va_up (va_up va 0 ((q1 : Nat) : Int)) 1 ((q2 : Nat) : Int)) 2 ((q3 : Nat) : Int))) := vv3
        have b3 : g3.2.2 203 = .inl (1, 600, .inl tb) := (m3.1 203 (by decide) (by decide) (by decide)).trans b2
        have R3 : Rp g3 204 w := m3.rp R2
        obtain ⟨z3a, z3b, z3c, z3j, -⟩ := numA_o (othA_o hA3) (by decide)
        have i3 : j3 ≤ N := by rw [z3j]; exact (tPos i2).2
        have N3 : NC h g3 := N2.tr m3.nc
        have P4 := v_46_n3 hN hT dp ex ek eo s3 R3 hI.1 v3 hb st3 kd3 vl3 j3 i3 t3 b3
        rcases hA4 : numA tx N j3 0 99 with e | ⟨q4, j4⟩
        · rw [hA4] at P4
          obtain ⟨g4, d4_, s4, t4, v4, m4⟩ := P4
          rw [show cPar tx N i w = .inl e from (bnd_r hA1).trans ((bnd_r hA2).trans ((bnd_r hA3).trans (bnd_e hA4)))]
          refine ⟨g4, Ct.of [aR 201, aC 9, aU] rfl ?_, s4, t4, (m4.rp R3).ex, v4, N3.tr m4.nc⟩
          refine r_aldC cd_45_0 rfl rfl ?_
          refine r_nnC cd_45_1 ⟨by decide, by decide⟩ ?_
          refine r_aldR cd_45_10 rfl rfl ?_
          refine r_get cd_45_11 rfl hS rfl ?_
          refine r_con (v := 200) cd_45_14 rfl (by decide) ?_
          refine r_ic63 cd_45_17 rfl ⟨by omega, by omega⟩ ⟨by omega, by omega⟩ (fun n61 => ?_) (fun n61 => ?_)
          · refine r_con (v := 0) cd_45_26 rfl (by decide) ?_
            refine r_ist cd_45_27 rfl rfl (L' := [aR 201, aC 9, aI 0]) rfl ?_
            refine r_ild cd_45_28 rfl rfl ?_
            refine r_aldC cd_45_29 rfl rfl ?_
            refine r_cget (v := aC 63) cd_45_30 rfl (rfl) ?_
            refine r_cI (c_378 63 (by decide) (by decide)) cd_45_33 rfl rfl rfl ⟨by decide, by decide⟩ rfl rfl rfl ?_
            refine RU.cast (pc2 := 36) (S2 := [aI 4, aI 0]) rfl rfl rfl ?_
            refine r_ic64 cd_45_36 rfl ⟨by omega, by omega⟩ ⟨by omega, by omega⟩ (fun n62 => ?_) (fun n62 => ?_)
            · refine r_ild cd_45_39 rfl rfl ?_
              refine r_con (v := 4) cd_45_40 rfl (by decide) ?_
              refine r_ic64 cd_45_41 rfl ⟨by omega, by omega⟩ ⟨by omega, by omega⟩ (fun n63 => ?_) (fun n63 => ?_)
              · refine r_aldR cd_45_44 rfl rfl ?_
                refine r_aldC cd_45_45 rfl rfl ?_
                refine r_cget (v := aC 63) cd_45_46 rfl (rfl) ?_
                refine r_ild cd_45_49 rfl rfl ?_
                refine r_cI (c_380 63 0 (by decide) (by decide) (by decide)) cd_45_50 rfl rfl rfl ⟨by decide, by decide⟩ rfl rfl rfl ?_
                refine RU.cast (pc2 := 53) (S2 := [aI 119, aR 201]) rfl rfl rfl ?_
                refine r_ild cd_45_53 rfl rfl ?_
                refine r_cI d1_ cd_45_54 rfl rfl rfl (rc0 hS rfl) rfl rfl rfl ?_
                refine r_if52 cd_45_57 rfl ⟨by omega, by omega⟩ (fun n64 => ?_) (fun n64 => ?_)
                · exact absurd n64 (by decide)
                · refine r_inc (v := 1) cd_45_62 rfl rfl rfl (by omega) (L' := [aR 201, aC 9, aI 1]) rfl ?_
                  refine r_goto cd_45_65 ?_
                  refine r_ild cd_45_28 rfl rfl ?_
                  refine r_aldC cd_45_29 rfl rfl ?_
                  refine r_cget (v := aC 63) cd_45_30 rfl (rfl) ?_
                  refine r_cI (c_378 63 (by decide) (by decide)) cd_45_33 rfl rfl rfl ⟨by decide, by decide⟩ rfl rfl rfl ?_
                  refine RU.cast (pc2 := 36) (S2 := [aI 4, aI 1]) rfl rfl rfl ?_
                  refine r_ic64 cd_45_36 rfl ⟨by omega, by omega⟩ ⟨by omega, by omega⟩ (fun n65 => ?_) (fun n65 => ?_)
                  · refine r_ild cd_45_39 rfl rfl ?_
                    refine r_con (v := 4) cd_45_40 rfl (by decide) ?_
                    refine r_ic64 cd_45_41 rfl ⟨by omega, by omega⟩ ⟨by omega, by omega⟩ (fun n66 => ?_) (fun n66 => ?_)
                    · refine r_aldR cd_45_44 rfl rfl ?_
                      refine r_aldC cd_45_45 rfl rfl ?_
                      refine r_cget (v := aC 63) cd_45_46 rfl (rfl) ?_
                      refine r_ild cd_45_49 rfl rfl ?_
                      refine r_cI (c_380 63 1 (by decide) (by decide) (by decide)) cd_45_50 rfl rfl rfl ⟨by decide, by decide⟩ rfl rfl rfl ?_
                      refine RU.cast (pc2 := 53) (S2 := [aI 112, aR 201]) rfl rfl rfl ?_
                      refine r_ild cd_45_53 rfl rfl ?_
                      refine r_cI d2_ cd_45_54 rfl rfl rfl (rc0 s1 rfl) rfl rfl rfl ?_
                      refine r_if52 cd_45_57 rfl ⟨by omega, by omega⟩ (fun n67 => ?_) (fun n67 => ?_)
                      · exact absurd n67 (by decide)
                      · refine r_inc (v := 2) cd_45_62 rfl rfl rfl (by omega) (L' := [aR 201, aC 9, aI 2]) rfl ?_
                        refine r_goto cd_45_65 ?_
                        refine r_ild cd_45_28 rfl rfl ?_
                        refine r_aldC cd_45_29 rfl rfl ?_
                        refine r_cget (v := aC 63) cd_45_30 rfl (rfl) ?_
                        refine r_cI (c_378 63 (by decide) (by decide)) cd_45_33 rfl rfl rfl ⟨by decide, by decide⟩ rfl rfl rfl ?_
                        refine RU.cast (pc2 := 36) (S2 := [aI 4, aI 2]) rfl rfl rfl ?_
                        refine r_ic64 cd_45_36 rfl ⟨by omega, by omega⟩ ⟨by omega, by omega⟩ (fun n68 => ?_) (fun n68 => ?_)
                        · refine r_ild cd_45_39 rfl rfl ?_
                          refine r_con (v := 4) cd_45_40 rfl (by decide) ?_
                          refine r_ic64 cd_45_41 rfl ⟨by omega, by omega⟩ ⟨by omega, by omega⟩ (fun n69 => ?_) (fun n69 => ?_)
                          · refine r_aldR cd_45_44 rfl rfl ?_
                            refine r_aldC cd_45_45 rfl rfl ?_
                            refine r_cget (v := aC 63) cd_45_46 rfl (rfl) ?_
                            refine r_ild cd_45_49 rfl rfl ?_
                            refine r_cI (c_380 63 2 (by decide) (by decide) (by decide)) cd_45_50 rfl rfl rfl ⟨by decide, by decide⟩ rfl rfl rfl ?_
                            refine RU.cast (pc2 := 53) (S2 := [aI 111, aR 201]) rfl rfl rfl ?_
                            refine r_ild cd_45_53 rfl rfl ?_
                            refine r_cI d3_ cd_45_54 rfl rfl rfl (rc0 s2 rfl) rfl rfl rfl ?_
                            refine r_if52 cd_45_57 rfl ⟨by omega, by omega⟩ (fun n70 => ?_) (fun n70 => ?_)
                            · exact absurd n70 (by decide)
                            · refine r_inc (v := 3) cd_45_62 rfl rfl rfl (by omega) (L' := [aR 201, aC 9, aI 3]) rfl ?_
                              refine r_goto cd_45_65 ?_
                              refine r_ild cd_45_28 rfl rfl ?_
                              refine r_aldC cd_45_29 rfl rfl ?_
                              refine r_cget (v := aC 63) cd_45_30 rfl (rfl) ?_
                              refine r_cI (c_378 63 (by decide) (by decide)) cd_45_33 rfl rfl rfl ⟨by decide, by decide⟩ rfl rfl rfl ?_
                              refine RU.cast (pc2 := 36) (S2 := [aI 4, aI 3]) rfl rfl rfl ?_
                              refine r_ic64 cd_45_36 rfl ⟨by omega, by omega⟩ ⟨by omega, by omega⟩ (fun n71 => ?_) (fun n71 => ?_)
                              · refine r_ild cd_45_39 rfl rfl ?_
                                refine r_con (v := 4) cd_45_40 rfl (by decide) ?_
                                refine r_ic64 cd_45_41 rfl ⟨by omega, by omega⟩ ⟨by omega, by omega⟩ (fun n72 => ?_) (fun n72 => ?_)
                                · refine r_aldR cd_45_44 rfl rfl ?_
                                  refine r_aldC cd_45_45 rfl rfl ?_
                                  refine r_cget (v := aC 63) cd_45_46 rfl (rfl) ?_
                                  refine r_ild cd_45_49 rfl rfl ?_
                                  refine r_cI (c_380 63 3 (by decide) (by decide) (by decide)) cd_45_50 rfl rfl rfl ⟨by decide, by decide⟩ rfl rfl rfl ?_
                                  refine RU.cast (pc2 := 53) (S2 := [aI 110, aR 201]) rfl rfl rfl ?_
                                  refine r_ild cd_45_53 rfl rfl ?_
                                  refine r_cI d4_ cd_45_54 rfl rfl rfl (rc0 s3 rfl) rfl rfl rfl ?_
                                  refine r_if52 cd_45_57 rfl ⟨by omega, by omega⟩ (fun n73 => ?_) (fun n73 => ?_)
                                  · refine r_con (v := 0) cd_45_60 rfl (by decide) ?_
                                    exact r_ret cd_45_61 (Or.inl rfl) (rfl)
                                  · exact absurd n73 (by decide)
                                · exact absurd n72 (by decide)
                              · exact absurd n71 (by decide)
                          · exact absurd n69 (by decide)
                        · exact absurd n68 (by decide)
                    · exact absurd n66 (by decide)
                  · exact absurd n65 (by decide)
              · exact absurd n63 (by decide)
            · exact absurd n62 (by decide)
          · exact absurd n61 (by omega)
        · rw [hA4] at P4
          obtain ⟨g4, d4_, s4, ⟨st4, kd4, vl4, t4⟩, vv4, m4⟩ := P4
          have v4 : g4.2.2 222 = .inl (0, 4, .inl (va_up (va_up (va_up (va_up va 0 ((q1 : Nat) : Int)) 1 ((q2 : Nat) : Int)) 2 ((q3 : Nat) : Int)) 3 ((q4 : Nat) : Int))) := vv4
          have b4 : g4.2.2 203 = .inl (1, 600, .inl tb) := (m4.1 203 (by decide) (by decide) (by decide)).trans b3
          have R4 : Rp g4 204 w := m4.rp R3
          obtain ⟨z4a, z4b, z4c, z4j, -⟩ := numA_o hA4 (by decide)
          have i4 : j4 ≤ N := by rw [z4j]; exact (tPos i3).2
          have N4 : NC h g4 := N3.tr m4.nc
          by_cases hk : tKnd tx N j4 = 1
          rotate_left
          · obtain ⟨gs, ds, ss, ts, ms⟩ := v_41_5b hN hT dp ex ek eo s4 st4 kd4 vl4 j4 i4 t4 b4 hk
            rw [show cPar tx N i w = .inl (1, ((tOff tx N j4 : Nat) : Int)) from (bnd_r hA1).trans ((bnd_r hA2).trans ((bnd_r hA3).trans ((bnd_r hA4).trans (bnd_e (if_pos hk)))))]
            refine ⟨gs, Ct.of [aR 201, aC 9, aU] rfl ?_, ss, ts, (ms.rp R4).ex, ⟨_, (ms.1 222 (by decide) (by decide)).trans v4⟩, N4.tr ms.nc⟩
            refine r_aldC cd_45_0 rfl rfl ?_
            refine r_nnC cd_45_1 ⟨by decide, by decide⟩ ?_
            refine r_aldR cd_45_10 rfl rfl ?_
            refine r_get cd_45_11 rfl hS rfl ?_
            refine r_con (v := 200) cd_45_14 rfl (by decide) ?_
            refine r_ic63 cd_45_17 rfl ⟨by omega, by omega⟩ ⟨by omega, by omega⟩ (fun n61 => ?_) (fun n61 => ?_)
            · refine r_con (v := 0) cd_45_26 rfl (by decide) ?_
              refine r_ist cd_45_27 rfl rfl (L' := [aR 201, aC 9, aI 0]) rfl ?_
              refine r_ild cd_45_28 rfl rfl ?_
              refine r_aldC cd_45_29 rfl rfl ?_
              refine r_cget (v := aC 63) cd_45_30 rfl (rfl) ?_
              refine r_cI (c_378 63 (by decide) (by decide)) cd_45_33 rfl rfl rfl ⟨by decide, by decide⟩ rfl rfl rfl ?_
              refine RU.cast (pc2 := 36) (S2 := [aI 4, aI 0]) rfl rfl rfl ?_
              refine r_ic64 cd_45_36 rfl ⟨by omega, by omega⟩ ⟨by omega, by omega⟩ (fun n62 => ?_) (fun n62 => ?_)
              · refine r_ild cd_45_39 rfl rfl ?_
                refine r_con (v := 4) cd_45_40 rfl (by decide) ?_
                refine r_ic64 cd_45_41 rfl ⟨by omega, by omega⟩ ⟨by omega, by omega⟩ (fun n63 => ?_) (fun n63 => ?_)
                · refine r_aldR cd_45_44 rfl rfl ?_
                  refine r_aldC cd_45_45 rfl rfl ?_
                  refine r_cget (v := aC 63) cd_45_46 rfl (rfl) ?_
                  refine r_ild cd_45_49 rfl rfl ?_
                  refine r_cI (c_380 63 0 (by decide) (by decide) (by decide)) cd_45_50 rfl rfl rfl ⟨by decide, by decide⟩ rfl rfl rfl ?_
                  refine RU.cast (pc2 := 53) (S2 := [aI 119, aR 201]) rfl rfl rfl ?_
                  refine r_ild cd_45_53 rfl rfl ?_
                  refine r_cI d1_ cd_45_54 rfl rfl rfl (rc0 hS rfl) rfl rfl rfl ?_
                  refine r_if52 cd_45_57 rfl ⟨by omega, by omega⟩ (fun n64 => ?_) (fun n64 => ?_)
                  · exact absurd n64 (by decide)
                  · refine r_inc (v := 1) cd_45_62 rfl rfl rfl (by omega) (L' := [aR 201, aC 9, aI 1]) rfl ?_
                    refine r_goto cd_45_65 ?_
                    refine r_ild cd_45_28 rfl rfl ?_
                    refine r_aldC cd_45_29 rfl rfl ?_
                    refine r_cget (v := aC 63) cd_45_30 rfl (rfl) ?_
                    refine r_cI (c_378 63 (by decide) (by decide)) cd_45_33 rfl rfl rfl ⟨by decide, by decide⟩ rfl rfl rfl ?_
                    refine RU.cast (pc2 := 36) (S2 := [aI 4, aI 1]) rfl rfl rfl ?_
                    refine r_ic64 cd_45_36 rfl ⟨by omega, by omega⟩ ⟨by omega, by omega⟩ (fun n65 => ?_) (fun n65 => ?_)
                    · refine r_ild cd_45_39 rfl rfl ?_
                      refine r_con (v := 4) cd_45_40 rfl (by decide) ?_
                      refine r_ic64 cd_45_41 rfl ⟨by omega, by omega⟩ ⟨by omega, by omega⟩ (fun n66 => ?_) (fun n66 => ?_)
                      · refine r_aldR cd_45_44 rfl rfl ?_
                        refine r_aldC cd_45_45 rfl rfl ?_
                        refine r_cget (v := aC 63) cd_45_46 rfl (rfl) ?_
                        refine r_ild cd_45_49 rfl rfl ?_
                        refine r_cI (c_380 63 1 (by decide) (by decide) (by decide)) cd_45_50 rfl rfl rfl ⟨by decide, by decide⟩ rfl rfl rfl ?_
                        refine RU.cast (pc2 := 53) (S2 := [aI 112, aR 201]) rfl rfl rfl ?_
                        refine r_ild cd_45_53 rfl rfl ?_
                        refine r_cI d2_ cd_45_54 rfl rfl rfl (rc0 s1 rfl) rfl rfl rfl ?_
                        refine r_if52 cd_45_57 rfl ⟨by omega, by omega⟩ (fun n67 => ?_) (fun n67 => ?_)
                        · exact absurd n67 (by decide)
                        · refine r_inc (v := 2) cd_45_62 rfl rfl rfl (by omega) (L' := [aR 201, aC 9, aI 2]) rfl ?_
                          refine r_goto cd_45_65 ?_
                          refine r_ild cd_45_28 rfl rfl ?_
                          refine r_aldC cd_45_29 rfl rfl ?_
                          refine r_cget (v := aC 63) cd_45_30 rfl (rfl) ?_
                          refine r_cI (c_378 63 (by decide) (by decide)) cd_45_33 rfl rfl rfl ⟨by decide, by decide⟩ rfl rfl rfl ?_
                          refine RU.cast (pc2 := 36) (S2 := [aI 4, aI 2]) rfl rfl rfl ?_
                          refine r_ic64 cd_45_36 rfl ⟨by omega, by omega⟩ ⟨by omega, by omega⟩ (fun n68 => ?_) (fun n68 => ?_)
                          · refine r_ild cd_45_39 rfl rfl ?_
                            refine r_con (v := 4) cd_45_40 rfl (by decide) ?_
                            refine r_ic64 cd_45_41 rfl ⟨by omega, by omega⟩ ⟨by omega, by omega⟩ (fun n69 => ?_) (fun n69 => ?_)
                            · refine r_aldR cd_45_44 rfl rfl ?_
                              refine r_aldC cd_45_45 rfl rfl ?_
                              refine r_cget (v := aC 63) cd_45_46 rfl (rfl) ?_
                              refine r_ild cd_45_49 rfl rfl ?_
                              refine r_cI (c_380 63 2 (by decide) (by decide) (by decide)) cd_45_50 rfl rfl rfl ⟨by decide, by decide⟩ rfl rfl rfl ?_
                              refine RU.cast (pc2 := 53) (S2 := [aI 111, aR 201]) rfl rfl rfl ?_
                              refine r_ild cd_45_53 rfl rfl ?_
                              refine r_cI d3_ cd_45_54 rfl rfl rfl (rc0 s2 rfl) rfl rfl rfl ?_
                              refine r_if52 cd_45_57 rfl ⟨by omega, by omega⟩ (fun n70 => ?_) (fun n70 => ?_)
                              · exact absurd n70 (by decide)
                              · refine r_inc (v := 3) cd_45_62 rfl rfl rfl (by omega) (L' := [aR 201, aC 9, aI 3]) rfl ?_
                                refine r_goto cd_45_65 ?_
                                refine r_ild cd_45_28 rfl rfl ?_
                                refine r_aldC cd_45_29 rfl rfl ?_
                                refine r_cget (v := aC 63) cd_45_30 rfl (rfl) ?_
                                refine r_cI (c_378 63 (by decide) (by decide)) cd_45_33 rfl rfl rfl ⟨by decide, by decide⟩ rfl rfl rfl ?_
                                refine RU.cast (pc2 := 36) (S2 := [aI 4, aI 3]) rfl rfl rfl ?_
                                refine r_ic64 cd_45_36 rfl ⟨by omega, by omega⟩ ⟨by omega, by omega⟩ (fun n71 => ?_) (fun n71 => ?_)
                                · refine r_ild cd_45_39 rfl rfl ?_
                                  refine r_con (v := 4) cd_45_40 rfl (by decide) ?_
                                  refine r_ic64 cd_45_41 rfl ⟨by omega, by omega⟩ ⟨by omega, by omega⟩ (fun n72 => ?_) (fun n72 => ?_)
                                  · refine r_aldR cd_45_44 rfl rfl ?_
                                    refine r_aldC cd_45_45 rfl rfl ?_
                                    refine r_cget (v := aC 63) cd_45_46 rfl (rfl) ?_
                                    refine r_ild cd_45_49 rfl rfl ?_
                                    refine r_cI (c_380 63 3 (by decide) (by decide) (by decide)) cd_45_50 rfl rfl rfl ⟨by decide, by decide⟩ rfl rfl rfl ?_
                                    refine RU.cast (pc2 := 53) (S2 := [aI 110, aR 201]) rfl rfl rfl ?_
                                    refine r_ild cd_45_53 rfl rfl ?_
                                    refine r_cI d4_ cd_45_54 rfl rfl rfl (rc0 s3 rfl) rfl rfl rfl ?_
                                    refine r_if52 cd_45_57 rfl ⟨by omega, by omega⟩ (fun n73 => ?_) (fun n73 => ?_)
                                    · exact absurd n73 (by decide)
                                    · refine r_inc (v := 4) cd_45_62 rfl rfl rfl (by omega) (L' := [aR 201, aC 9, aI 4]) rfl ?_
                                      refine r_goto cd_45_65 ?_
                                      refine r_ild cd_45_28 rfl rfl ?_
                                      refine r_aldC cd_45_29 rfl rfl ?_
                                      refine r_cget (v := aC 63) cd_45_30 rfl (rfl) ?_
                                      refine r_cI (c_378 63 (by decide) (by decide)) cd_45_33 rfl rfl rfl ⟨by decide, by decide⟩ rfl rfl rfl ?_
                                      refine RU.cast (pc2 := 36) (S2 := [aI 4, aI 4]) rfl rfl rfl ?_
                                      refine r_ic64 cd_45_36 rfl ⟨by omega, by omega⟩ ⟨by omega, by omega⟩ (fun n74 => ?_) (fun n74 => ?_)
                                      · exact absurd n74 (by decide)
                                      · refine r_aldR cd_45_68 rfl rfl ?_
                                        refine r_con (v := 5) cd_45_69 rfl (by decide) ?_
                                        refine r_cI ds cd_45_70 rfl rfl rfl (rc0 s4 rfl) rfl rfl rfl ?_
                                        refine r_if52 cd_45_73 rfl ⟨by omega, by omega⟩ (fun n75 => ?_) (fun n75 => ?_)
                                        · refine r_con (v := 0) cd_45_76 rfl (by decide) ?_
                                          exact r_ret cd_45_77 (Or.inl rfl) (rfl)
                                        · exact absurd n75 (by decide)
                                  · exact absurd n72 (by decide)
                                · exact absurd n71 (by decide)
                            · exact absurd n69 (by decide)
                          · exact absurd n68 (by decide)
                      · exact absurd n66 (by decide)
                    · exact absurd n65 (by decide)
                · exact absurd n63 (by decide)
              · exact absurd n62 (by decide)
            · exact absurd n61 (by omega)
          obtain ⟨gs, ds, ss, ⟨kds, vls, ts⟩, ms⟩ := v_41_5a hN hT dp ex ek eo s4 st4 kd4 vl4 j4 i4 t4 b4 hk
          have Rs := ms.rp R4
          have vs : gs.2.2 222 = .inl (0, 4, .inl (va_up (va_up (va_up (va_up va 0 ((q1 : Nat) : Int)) 1 ((q2 : Nat) : Int)) 2 ((q3 : Nat) : Int)) 3 ((q4 : Nat) : Int))) := (ms.1 222 (by decide) (by decide)).trans v4
          have nk : ¬ ¬ tKnd tx N j4 = 1 := fun e => e hk
          obtain ⟨fs, o204⟩ := Rs.o
          by_cases hc : (decide (w 6 < 16) && decide (numbd w ((q4 : Nat) : Int) = -1)) = true
          rotate_left
          · have hr : (!(decide (w 6 < 16) && decide (numbd w ((q4 : Nat) : Int) = -1))) = true := by rw [Bool.not_eq_true] at hc; rw [hc]; rfl
            rw [show cPar tx N i w = .inl (3, ((tOff tx N j4 : Nat) : Int)) from (bnd_r hA1).trans ((bnd_r hA2).trans ((bnd_r hA3).trans ((bnd_r hA4).trans (bnd_e ((if_neg nk).trans (if_neg hc))))))]
            refine ⟨sw gs 201 (SO dp ex 3 ((tOff tx N j4 : Nat) : Int)), Ct.of [aR 201, aC 9, aU] rfl ?_, sw_at _ _ _, ⟨_, _, _, _, (sw_ne (by decide)).trans ts⟩, (Rs.mv fun a h1 h2 => sw_ne (by omega)).ex, ⟨_, (sw_ne (by decide)).trans vs⟩, (N4.tr ms.nc).s⟩
            refine r_aldC cd_45_0 rfl rfl ?_
            refine r_nnC cd_45_1 ⟨by decide, by decide⟩ ?_
            refine r_aldR cd_45_10 rfl rfl ?_
            refine r_get cd_45_11 rfl hS rfl ?_
            refine r_con (v := 200) cd_45_14 rfl (by decide) ?_
            refine r_ic63 cd_45_17 rfl ⟨by omega, by omega⟩ ⟨by omega, by omega⟩ (fun n61 => ?_) (fun n61 => ?_)
            · refine r_con (v := 0) cd_45_26 rfl (by decide) ?_
              refine r_ist cd_45_27 rfl rfl (L' := [aR 201, aC 9, aI 0]) rfl ?_
              refine r_ild cd_45_28 rfl rfl ?_
              refine r_aldC cd_45_29 rfl rfl ?_
              refine r_cget (v := aC 63) cd_45_30 rfl (rfl) ?_
              refine r_cI (c_378 63 (by decide) (by decide)) cd_45_33 rfl rfl rfl ⟨by decide, by decide⟩ rfl rfl rfl ?_
              refine RU.cast (pc2 := 36) (S2 := [aI 4, aI 0]) rfl rfl rfl ?_
              refine r_ic64 cd_45_36 rfl ⟨by omega, by omega⟩ ⟨by omega, by omega⟩ (fun n62 => ?_) (fun n62 => ?_)
              · refine r_ild cd_45_39 rfl rfl ?_
                refine r_con (v := 4) cd_45_40 rfl (by decide) ?_
                refine r_ic64 cd_45_41 rfl ⟨by omega, by omega⟩ ⟨by omega, by omega⟩ (fun n63 => ?_) (fun n63 => ?_)
                · refine r_aldR cd_45_44 rfl rfl ?_
                  refine r_aldC cd_45_45 rfl rfl ?_
                  refine r_cget (v := aC 63) cd_45_46 rfl (rfl) ?_
                  refine r_ild cd_45_49 rfl rfl ?_
                  refine r_cI (c_380 63 0 (by decide) (by decide) (by decide)) cd_45_50 rfl rfl rfl ⟨by decide, by decide⟩ rfl rfl rfl ?_
                  refine RU.cast (pc2 := 53) (S2 := [aI 119, aR 201]) rfl rfl rfl ?_
                  refine r_ild cd_45_53 rfl rfl ?_
                  refine r_cI d1_ cd_45_54 rfl rfl rfl (rc0 hS rfl) rfl rfl rfl ?_
                  refine r_if52 cd_45_57 rfl ⟨by omega, by omega⟩ (fun n64 => ?_) (fun n64 => ?_)
                  · exact absurd n64 (by decide)
                  · refine r_inc (v := 1) cd_45_62 rfl rfl rfl (by omega) (L' := [aR 201, aC 9, aI 1]) rfl ?_
                    refine r_goto cd_45_65 ?_
                    refine r_ild cd_45_28 rfl rfl ?_
                    refine r_aldC cd_45_29 rfl rfl ?_
                    refine r_cget (v := aC 63) cd_45_30 rfl (rfl) ?_
                    refine r_cI (c_378 63 (by decide) (by decide)) cd_45_33 rfl rfl rfl ⟨by decide, by decide⟩ rfl rfl rfl ?_
                    refine RU.cast (pc2 := 36) (S2 := [aI 4, aI 1]) rfl rfl rfl ?_
                    refine r_ic64 cd_45_36 rfl ⟨by omega, by omega⟩ ⟨by omega, by omega⟩ (fun n65 => ?_) (fun n65 => ?_)
                    · refine r_ild cd_45_39 rfl rfl ?_
                      refine r_con (v := 4) cd_45_40 rfl (by decide) ?_
                      refine r_ic64 cd_45_41 rfl ⟨by omega, by omega⟩ ⟨by omega, by omega⟩ (fun n66 => ?_) (fun n66 => ?_)
                      · refine r_aldR cd_45_44 rfl rfl ?_
                        refine r_aldC cd_45_45 rfl rfl ?_
                        refine r_cget (v := aC 63) cd_45_46 rfl (rfl) ?_
                        refine r_ild cd_45_49 rfl rfl ?_
                        refine r_cI (c_380 63 1 (by decide) (by decide) (by decide)) cd_45_50 rfl rfl rfl ⟨by decide, by decide⟩ rfl rfl rfl ?_
                        refine RU.cast (pc2 := 53) (S2 := [aI 112, aR 201]) rfl rfl rfl ?_
                        refine r_ild cd_45_53 rfl rfl ?_
                        refine r_cI d2_ cd_45_54 rfl rfl rfl (rc0 s1 rfl) rfl rfl rfl ?_
                        refine r_if52 cd_45_57 rfl ⟨by omega, by omega⟩ (fun n67 => ?_) (fun n67 => ?_)
                        · exact absurd n67 (by decide)
                        · refine r_inc (v := 2) cd_45_62 rfl rfl rfl (by omega) (L' := [aR 201, aC 9, aI 2]) rfl ?_
                          refine r_goto cd_45_65 ?_
                          refine r_ild cd_45_28 rfl rfl ?_
                          refine r_aldC cd_45_29 rfl rfl ?_
                          refine r_cget (v := aC 63) cd_45_30 rfl (rfl) ?_
                          refine r_cI (c_378 63 (by decide) (by decide)) cd_45_33 rfl rfl rfl ⟨by decide, by decide⟩ rfl rfl rfl ?_
                          refine RU.cast (pc2 := 36) (S2 := [aI 4, aI 2]) rfl rfl rfl ?_
                          refine r_ic64 cd_45_36 rfl ⟨by omega, by omega⟩ ⟨by omega, by omega⟩ (fun n68 => ?_) (fun n68 => ?_)
                          · refine r_ild cd_45_39 rfl rfl ?_
                            refine r_con (v := 4) cd_45_40 rfl (by decide) ?_
                            refine r_ic64 cd_45_41 rfl ⟨by omega, by omega⟩ ⟨by omega, by omega⟩ (fun n69 => ?_) (fun n69 => ?_)
                            · refine r_aldR cd_45_44 rfl rfl ?_
                              refine r_aldC cd_45_45 rfl rfl ?_
                              refine r_cget (v := aC 63) cd_45_46 rfl (rfl) ?_
                              refine r_ild cd_45_49 rfl rfl ?_
                              refine r_cI (c_380 63 2 (by decide) (by decide) (by decide)) cd_45_50 rfl rfl rfl ⟨by decide, by decide⟩ rfl rfl rfl ?_
                              refine RU.cast (pc2 := 53) (S2 := [aI 111, aR 201]) rfl rfl rfl ?_
                              refine r_ild cd_45_53 rfl rfl ?_
                              refine r_cI d3_ cd_45_54 rfl rfl rfl (rc0 s2 rfl) rfl rfl rfl ?_
                              refine r_if52 cd_45_57 rfl ⟨by omega, by omega⟩ (fun n70 => ?_) (fun n70 => ?_)
                              · exact absurd n70 (by decide)
                              · refine r_inc (v := 3) cd_45_62 rfl rfl rfl (by omega) (L' := [aR 201, aC 9, aI 3]) rfl ?_
                                refine r_goto cd_45_65 ?_
                                refine r_ild cd_45_28 rfl rfl ?_
                                refine r_aldC cd_45_29 rfl rfl ?_
                                refine r_cget (v := aC 63) cd_45_30 rfl (rfl) ?_
                                refine r_cI (c_378 63 (by decide) (by decide)) cd_45_33 rfl rfl rfl ⟨by decide, by decide⟩ rfl rfl rfl ?_
                                refine RU.cast (pc2 := 36) (S2 := [aI 4, aI 3]) rfl rfl rfl ?_
                                refine r_ic64 cd_45_36 rfl ⟨by omega, by omega⟩ ⟨by omega, by omega⟩ (fun n71 => ?_) (fun n71 => ?_)
                                · refine r_ild cd_45_39 rfl rfl ?_
                                  refine r_con (v := 4) cd_45_40 rfl (by decide) ?_
                                  refine r_ic64 cd_45_41 rfl ⟨by omega, by omega⟩ ⟨by omega, by omega⟩ (fun n72 => ?_) (fun n72 => ?_)
                                  · refine r_aldR cd_45_44 rfl rfl ?_
                                    refine r_aldC cd_45_45 rfl rfl ?_
                                    refine r_cget (v := aC 63) cd_45_46 rfl (rfl) ?_
                                    refine r_ild cd_45_49 rfl rfl ?_
                                    refine r_cI (c_380 63 3 (by decide) (by decide) (by decide)) cd_45_50 rfl rfl rfl ⟨by decide, by decide⟩ rfl rfl rfl ?_
                                    refine RU.cast (pc2 := 53) (S2 := [aI 110, aR 201]) rfl rfl rfl ?_
                                    refine r_ild cd_45_53 rfl rfl ?_
                                    refine r_cI d4_ cd_45_54 rfl rfl rfl (rc0 s3 rfl) rfl rfl rfl ?_
                                    refine r_if52 cd_45_57 rfl ⟨by omega, by omega⟩ (fun n73 => ?_) (fun n73 => ?_)
                                    · exact absurd n73 (by decide)
                                    · refine r_inc (v := 4) cd_45_62 rfl rfl rfl (by omega) (L' := [aR 201, aC 9, aI 4]) rfl ?_
                                      refine r_goto cd_45_65 ?_
                                      refine r_ild cd_45_28 rfl rfl ?_
                                      refine r_aldC cd_45_29 rfl rfl ?_
                                      refine r_cget (v := aC 63) cd_45_30 rfl (rfl) ?_
                                      refine r_cI (c_378 63 (by decide) (by decide)) cd_45_33 rfl rfl rfl ⟨by decide, by decide⟩ rfl rfl rfl ?_
                                      refine RU.cast (pc2 := 36) (S2 := [aI 4, aI 4]) rfl rfl rfl ?_
                                      refine r_ic64 cd_45_36 rfl ⟨by omega, by omega⟩ ⟨by omega, by omega⟩ (fun n74 => ?_) (fun n74 => ?_)
                                      · exact absurd n74 (by decide)
                                      · refine r_aldR cd_45_68 rfl rfl ?_
                                        refine r_con (v := 5) cd_45_69 rfl (by decide) ?_
                                        refine r_cI ds cd_45_70 rfl rfl rfl (rc0 s4 rfl) rfl rfl rfl ?_
                                        refine r_if52 cd_45_73 rfl ⟨by omega, by omega⟩ (fun n75 => ?_) (fun n75 => ?_)
                                        · exact absurd n75 (by decide)
                                        · refine r_aldR cd_45_78 rfl rfl ?_
                                          refine r_get cd_45_79 rfl ss rfl ?_
                                          refine r_aldC cd_45_82 rfl rfl ?_
                                          refine r_aldR cd_45_83 rfl rfl ?_
                                          refine r_get cd_45_84 rfl ss rfl ?_
                                          refine r_con (v := 0) cd_45_87 rfl (by decide) ?_
                                          refine r_arr (i := 0) cd_45_88 rfl vs rfl (by omega) rfl ?_
                                          refine RU.cast (pc2 := 89) (S2 := [aI ((q1 : Nat) : Int), aC 9, aR 204]) rfl rfl rfl ?_
                                          refine r_aldR cd_45_89 rfl rfl ?_
                                          refine r_get cd_45_90 rfl ss rfl ?_
                                          refine r_con (v := 1) cd_45_93 rfl (by decide) ?_
                                          refine r_arr (i := 1) cd_45_94 rfl vs rfl (by omega) rfl ?_
                                          refine RU.cast (pc2 := 95) (S2 := [aI ((q2 : Nat) : Int), aI ((q1 : Nat) : Int), aC 9, aR 204]) rfl rfl rfl ?_
                                          refine r_aldR cd_45_95 rfl rfl ?_
                                          refine r_get cd_45_96 rfl ss rfl ?_
                                          refine r_con (v := 3) cd_45_99 rfl (by decide) ?_
                                          refine r_arr (i := 3) cd_45_100 rfl vs rfl (by omega) rfl ?_
                                          refine RU.cast (pc2 := 101) (S2 := [aI ((q4 : Nat) : Int), aI ((q2 : Nat) : Int), aI ((q1 : Nat) : Int), aC 9, aR 204]) rfl rfl rfl ?_
                                          refine r_cI (k_76_5 Rs hI.1 _ _ ((q4 : Nat) : Int) ⟨by omega, by omega⟩) cd_45_101 rfl rfl rfl (rc0 o204 rfl) rfl rfl rfl ?_
                                          refine r_if51b cd_45_104 rfl (fun n76 => ?_) (fun n76 => ?_)
                                          · exact Bool.noConfusion (n76.symm.trans hr)
                                          · refine r_aldR cd_45_107 rfl rfl ?_
                                            refine r_con (v := 3) cd_45_108 rfl (by decide) ?_
                                            refine r_cI (k_36 dp ex ek eo ss N _ _ _ _ ts 3) cd_45_109 rfl rfl rfl (rc0 ss rfl) rfl rfl rfl ?_
                                            exact r_ret cd_45_112 (Or.inl rfl) (rfl)
                                  · exact absurd n72 (by decide)
                                · exact absurd n71 (by decide)
                            · exact absurd n69 (by decide)
                          · exact absurd n68 (by decide)
                      · exact absurd n66 (by decide)
                    · exact absurd n65 (by decide)
                · exact absurd n63 (by decide)
              · exact absurd n62 (by decide)
            · exact absurd n61 (by omega)
          have h4 : w 6 < 16 := by rw [Bool.and_eq_true] at hc; exact of_decide_eq_true hc.1
          have hr : (!(decide (w 6 < 16) && decide (numbd w ((q4 : Nat) : Int) = -1))) = false := by rw [hc]; rfl
          obtain ⟨gc, dc, Rc, Fc⟩ := v_84_5 (B := 204) Rs hI.1 ((q1 : Nat) : Int) ((q2 : Nat) : Int) ((q3 : Nat) : Int) ((q4 : Nat) : Int) h4
          have sc := (Fc.1 201 (by decide)).trans ss
          have vc := (Fc.1 222 (by decide)).trans vs
          have tc := (Fc.1 202 (by decide)).trans ts
          rw [show cPar tx N i w = .inr (tEnd tx N j4, postW w ((q1 : Nat) : Int) ((q2 : Nat) : Int) ((q3 : Nat) : Int) ((q4 : Nat) : Int)) from (bnd_r hA1).trans ((bnd_r hA2).trans ((bnd_r hA3).trans ((bnd_r hA4).trans ((bnd_r ((if_neg nk).trans (if_pos hc)))))))]
          refine ⟨sw gc 201 (SO dp (ex + 1) ek eo), Ct.of [aR 201, aC 9, aU] rfl ?_, sw_at _ _ _, ⟨_, _, _, (sw_ne (by decide)).trans tc⟩, Rc.mv fun a h1 h2 => sw_ne (by omega), ⟨_, (sw_ne (by decide)).trans vc⟩, ((N4.tr ms.nc).tr Fc.nc).s⟩
          refine r_aldC cd_45_0 rfl rfl ?_
          refine r_nnC cd_45_1 ⟨by decide, by decide⟩ ?_
          refine r_aldR cd_45_10 rfl rfl ?_
          refine r_get cd_45_11 rfl hS rfl ?_
          refine r_con (v := 200) cd_45_14 rfl (by decide) ?_
          refine r_ic63 cd_45_17 rfl ⟨by omega, by omega⟩ ⟨by omega, by omega⟩ (fun n61 => ?_) (fun n61 => ?_)
          · refine r_con (v := 0) cd_45_26 rfl (by decide) ?_
            refine r_ist cd_45_27 rfl rfl (L' := [aR 201, aC 9, aI 0]) rfl ?_
            refine r_ild cd_45_28 rfl rfl ?_
            refine r_aldC cd_45_29 rfl rfl ?_
            refine r_cget (v := aC 63) cd_45_30 rfl (rfl) ?_
            refine r_cI (c_378 63 (by decide) (by decide)) cd_45_33 rfl rfl rfl ⟨by decide, by decide⟩ rfl rfl rfl ?_
            refine RU.cast (pc2 := 36) (S2 := [aI 4, aI 0]) rfl rfl rfl ?_
            refine r_ic64 cd_45_36 rfl ⟨by omega, by omega⟩ ⟨by omega, by omega⟩ (fun n62 => ?_) (fun n62 => ?_)
            · refine r_ild cd_45_39 rfl rfl ?_
              refine r_con (v := 4) cd_45_40 rfl (by decide) ?_
              refine r_ic64 cd_45_41 rfl ⟨by omega, by omega⟩ ⟨by omega, by omega⟩ (fun n63 => ?_) (fun n63 => ?_)
              · refine r_aldR cd_45_44 rfl rfl ?_
                refine r_aldC cd_45_45 rfl rfl ?_
                refine r_cget (v := aC 63) cd_45_46 rfl (rfl) ?_
                refine r_ild cd_45_49 rfl rfl ?_
                refine r_cI (c_380 63 0 (by decide) (by decide) (by decide)) cd_45_50 rfl rfl rfl ⟨by decide, by decide⟩ rfl rfl rfl ?_
                refine RU.cast (pc2 := 53) (S2 := [aI 119, aR 201]) rfl rfl rfl ?_
                refine r_ild cd_45_53 rfl rfl ?_
                refine r_cI d1_ cd_45_54 rfl rfl rfl (rc0 hS rfl) rfl rfl rfl ?_
                refine r_if52 cd_45_57 rfl ⟨by omega, by omega⟩ (fun n64 => ?_) (fun n64 => ?_)
                · exact absurd n64 (by decide)
                · refine r_inc (v := 1) cd_45_62 rfl rfl rfl (by omega) (L' := [aR 201, aC 9, aI 1]) rfl ?_
                  refine r_goto cd_45_65 ?_
                  refine r_ild cd_45_28 rfl rfl ?_
                  refine r_aldC cd_45_29 rfl rfl ?_
                  refine r_cget (v := aC 63) cd_45_30 rfl (rfl) ?_
                  refine r_cI (c_378 63 (by decide) (by decide)) cd_45_33 rfl rfl rfl ⟨by decide, by decide⟩ rfl rfl rfl ?_
                  refine RU.cast (pc2 := 36) (S2 := [aI 4, aI 1]) rfl rfl rfl ?_
                  refine r_ic64 cd_45_36 rfl ⟨by omega, by omega⟩ ⟨by omega, by omega⟩ (fun n65 => ?_) (fun n65 => ?_)
                  · refine r_ild cd_45_39 rfl rfl ?_
                    refine r_con (v := 4) cd_45_40 rfl (by decide) ?_
                    refine r_ic64 cd_45_41 rfl ⟨by omega, by omega⟩ ⟨by omega, by omega⟩ (fun n66 => ?_) (fun n66 => ?_)
                    · refine r_aldR cd_45_44 rfl rfl ?_
                      refine r_aldC cd_45_45 rfl rfl ?_
                      refine r_cget (v := aC 63) cd_45_46 rfl (rfl) ?_
                      refine r_ild cd_45_49 rfl rfl ?_
                      refine r_cI (c_380 63 1 (by decide) (by decide) (by decide)) cd_45_50 rfl rfl rfl ⟨by decide, by decide⟩ rfl rfl rfl ?_
                      refine RU.cast (pc2 := 53) (S2 := [aI 112, aR 201]) rfl rfl rfl ?_
                      refine r_ild cd_45_53 rfl rfl ?_
                      refine r_cI d2_ cd_45_54 rfl rfl rfl (rc0 s1 rfl) rfl rfl rfl ?_
                      refine r_if52 cd_45_57 rfl ⟨by omega, by omega⟩ (fun n67 => ?_) (fun n67 => ?_)
                      · exact absurd n67 (by decide)
                      · refine r_inc (v := 2) cd_45_62 rfl rfl rfl (by omega) (L' := [aR 201, aC 9, aI 2]) rfl ?_
                        refine r_goto cd_45_65 ?_
                        refine r_ild cd_45_28 rfl rfl ?_
                        refine r_aldC cd_45_29 rfl rfl ?_
                        refine r_cget (v := aC 63) cd_45_30 rfl (rfl) ?_
                        refine r_cI (c_378 63 (by decide) (by decide)) cd_45_33 rfl rfl rfl ⟨by decide, by decide⟩ rfl rfl rfl ?_
                        refine RU.cast (pc2 := 36) (S2 := [aI 4, aI 2]) rfl rfl rfl ?_
                        refine r_ic64 cd_45_36 rfl ⟨by omega, by omega⟩ ⟨by omega, by omega⟩ (fun n68 => ?_) (fun n68 => ?_)
                        · refine r_ild cd_45_39 rfl rfl ?_
                          refine r_con (v := 4) cd_45_40 rfl (by decide) ?_
                          refine r_ic64 cd_45_41 rfl ⟨by omega, by omega⟩ ⟨by omega, by omega⟩ (fun n69 => ?_) (fun n69 => ?_)
                          · refine r_aldR cd_45_44 rfl rfl ?_
                            refine r_aldC cd_45_45 rfl rfl ?_
                            refine r_cget (v := aC 63) cd_45_46 rfl (rfl) ?_
                            refine r_ild cd_45_49 rfl rfl ?_
                            refine r_cI (c_380 63 2 (by decide) (by decide) (by decide)) cd_45_50 rfl rfl rfl ⟨by decide, by decide⟩ rfl rfl rfl ?_
                            refine RU.cast (pc2 := 53) (S2 := [aI 111, aR 201]) rfl rfl rfl ?_
                            refine r_ild cd_45_53 rfl rfl ?_
                            refine r_cI d3_ cd_45_54 rfl rfl rfl (rc0 s2 rfl) rfl rfl rfl ?_
                            refine r_if52 cd_45_57 rfl ⟨by omega, by omega⟩ (fun n70 => ?_) (fun n70 => ?_)
                            · exact absurd n70 (by decide)
                            · refine r_inc (v := 3) cd_45_62 rfl rfl rfl (by omega) (L' := [aR 201, aC 9, aI 3]) rfl ?_
                              refine r_goto cd_45_65 ?_
                              refine r_ild cd_45_28 rfl rfl ?_
                              refine r_aldC cd_45_29 rfl rfl ?_
                              refine r_cget (v := aC 63) cd_45_30 rfl (rfl) ?_
                              refine r_cI (c_378 63 (by decide) (by decide)) cd_45_33 rfl rfl rfl ⟨by decide, by decide⟩ rfl rfl rfl ?_
                              refine RU.cast (pc2 := 36) (S2 := [aI 4, aI 3]) rfl rfl rfl ?_
                              refine r_ic64 cd_45_36 rfl ⟨by omega, by omega⟩ ⟨by omega, by omega⟩ (fun n71 => ?_) (fun n71 => ?_)
                              · refine r_ild cd_45_39 rfl rfl ?_
                                refine r_con (v := 4) cd_45_40 rfl (by decide) ?_
                                refine r_ic64 cd_45_41 rfl ⟨by omega, by omega⟩ ⟨by omega, by omega⟩ (fun n72 => ?_) (fun n72 => ?_)
                                · refine r_aldR cd_45_44 rfl rfl ?_
                                  refine r_aldC cd_45_45 rfl rfl ?_
                                  refine r_cget (v := aC 63) cd_45_46 rfl (rfl) ?_
                                  refine r_ild cd_45_49 rfl rfl ?_
                                  refine r_cI (c_380 63 3 (by decide) (by decide) (by decide)) cd_45_50 rfl rfl rfl ⟨by decide, by decide⟩ rfl rfl rfl ?_
                                  refine RU.cast (pc2 := 53) (S2 := [aI 110, aR 201]) rfl rfl rfl ?_
                                  refine r_ild cd_45_53 rfl rfl ?_
                                  refine r_cI d4_ cd_45_54 rfl rfl rfl (rc0 s3 rfl) rfl rfl rfl ?_
                                  refine r_if52 cd_45_57 rfl ⟨by omega, by omega⟩ (fun n73 => ?_) (fun n73 => ?_)
                                  · exact absurd n73 (by decide)
                                  · refine r_inc (v := 4) cd_45_62 rfl rfl rfl (by omega) (L' := [aR 201, aC 9, aI 4]) rfl ?_
                                    refine r_goto cd_45_65 ?_
                                    refine r_ild cd_45_28 rfl rfl ?_
                                    refine r_aldC cd_45_29 rfl rfl ?_
                                    refine r_cget (v := aC 63) cd_45_30 rfl (rfl) ?_
                                    refine r_cI (c_378 63 (by decide) (by decide)) cd_45_33 rfl rfl rfl ⟨by decide, by decide⟩ rfl rfl rfl ?_
                                    refine RU.cast (pc2 := 36) (S2 := [aI 4, aI 4]) rfl rfl rfl ?_
                                    refine r_ic64 cd_45_36 rfl ⟨by omega, by omega⟩ ⟨by omega, by omega⟩ (fun n74 => ?_) (fun n74 => ?_)
                                    · exact absurd n74 (by decide)
                                    · refine r_aldR cd_45_68 rfl rfl ?_
                                      refine r_con (v := 5) cd_45_69 rfl (by decide) ?_
                                      refine r_cI ds cd_45_70 rfl rfl rfl (rc0 s4 rfl) rfl rfl rfl ?_
                                      refine r_if52 cd_45_73 rfl ⟨by omega, by omega⟩ (fun n75 => ?_) (fun n75 => ?_)
                                      · exact absurd n75 (by decide)
                                      · refine r_aldR cd_45_78 rfl rfl ?_
                                        refine r_get cd_45_79 rfl ss rfl ?_
                                        refine r_aldC cd_45_82 rfl rfl ?_
                                        refine r_aldR cd_45_83 rfl rfl ?_
                                        refine r_get cd_45_84 rfl ss rfl ?_
                                        refine r_con (v := 0) cd_45_87 rfl (by decide) ?_
                                        refine r_arr (i := 0) cd_45_88 rfl vs rfl (by omega) rfl ?_
                                        refine RU.cast (pc2 := 89) (S2 := [aI ((q1 : Nat) : Int), aC 9, aR 204]) rfl rfl rfl ?_
                                        refine r_aldR cd_45_89 rfl rfl ?_
                                        refine r_get cd_45_90 rfl ss rfl ?_
                                        refine r_con (v := 1) cd_45_93 rfl (by decide) ?_
                                        refine r_arr (i := 1) cd_45_94 rfl vs rfl (by omega) rfl ?_
                                        refine RU.cast (pc2 := 95) (S2 := [aI ((q2 : Nat) : Int), aI ((q1 : Nat) : Int), aC 9, aR 204]) rfl rfl rfl ?_
                                        refine r_aldR cd_45_95 rfl rfl ?_
                                        refine r_get cd_45_96 rfl ss rfl ?_
                                        refine r_con (v := 3) cd_45_99 rfl (by decide) ?_
                                        refine r_arr (i := 3) cd_45_100 rfl vs rfl (by omega) rfl ?_
                                        refine RU.cast (pc2 := 101) (S2 := [aI ((q4 : Nat) : Int), aI ((q2 : Nat) : Int), aI ((q1 : Nat) : Int), aC 9, aR 204]) rfl rfl rfl ?_
                                        refine r_cI (k_76_5 Rs hI.1 _ _ ((q4 : Nat) : Int) ⟨by omega, by omega⟩) cd_45_101 rfl rfl rfl (rc0 o204 rfl) rfl rfl rfl ?_
                                        refine r_if51b cd_45_104 rfl (fun n76 => ?_) (fun n76 => ?_)
                                        · refine r_aldR cd_45_113 rfl rfl ?_
                                          refine r_get cd_45_114 rfl ss rfl ?_
                                          refine r_aldC cd_45_117 rfl rfl ?_
                                          refine r_aldR cd_45_118 rfl rfl ?_
                                          refine r_get cd_45_119 rfl ss rfl ?_
                                          refine r_con (v := 0) cd_45_122 rfl (by decide) ?_
                                          refine r_arr (i := 0) cd_45_123 rfl vs rfl (by omega) rfl ?_
                                          refine RU.cast (pc2 := 124) (S2 := [aI ((q1 : Nat) : Int), aC 9, aR 204]) rfl rfl rfl ?_
                                          refine r_aldR cd_45_124 rfl rfl ?_
                                          refine r_get cd_45_125 rfl ss rfl ?_
                                          refine r_con (v := 1) cd_45_128 rfl (by decide) ?_
                                          refine r_arr (i := 1) cd_45_129 rfl vs rfl (by omega) rfl ?_
                                          refine RU.cast (pc2 := 130) (S2 := [aI ((q2 : Nat) : Int), aI ((q1 : Nat) : Int), aC 9, aR 204]) rfl rfl rfl ?_
                                          refine r_aldR cd_45_130 rfl rfl ?_
                                          refine r_get cd_45_131 rfl ss rfl ?_
                                          refine r_con (v := 2) cd_45_134 rfl (by decide) ?_
                                          refine r_arr (i := 2) cd_45_135 rfl vs rfl (by omega) rfl ?_
                                          refine RU.cast (pc2 := 136) (S2 := [aI ((q3 : Nat) : Int), aI ((q2 : Nat) : Int), aI ((q1 : Nat) : Int), aC 9, aR 204]) rfl rfl rfl ?_
                                          refine r_aldR cd_45_136 rfl rfl ?_
                                          refine r_get cd_45_137 rfl ss rfl ?_
                                          refine r_con (v := 3) cd_45_140 rfl (by decide) ?_
                                          refine r_arr (i := 3) cd_45_141 rfl vs rfl (by omega) rfl ?_
                                          refine RU.cast (pc2 := 142) (S2 := [aI ((q4 : Nat) : Int), aI ((q3 : Nat) : Int), aI ((q2 : Nat) : Int), aI ((q1 : Nat) : Int), aC 9, aR 204]) rfl rfl rfl ?_
                                          refine r_cI dc cd_45_142 rfl rfl rfl (rc0 o204 rfl) rfl rfl rfl ?_
                                          refine r_pop cd_45_145 rfl rfl ?_
                                          refine r_aldR cd_45_146 rfl rfl ?_
                                          refine r_dup cd_45_147 rfl rfl ?_
                                          refine r_get cd_45_148 rfl sc rfl ?_
                                          refine r_con (v := 1) cd_45_151 rfl (by decide) ?_
                                          refine r_add (v := ex + 1) cd_45_152 rfl (by rfl) ?_
                                          refine r_put (fs' := [aR 202, aR 204, aR 222, aR 223, aR 224, aI dp, aI (ex + 1), aI ek, aI eo]) cd_45_153 rfl sc rfl rfl ?_
                                          refine r_con (v := 1) cd_45_156 rfl (by decide) ?_
                                          exact r_ret cd_45_157 (Or.inr rfl) (rfl)
                                        · exact Bool.noConfusion (n76.symm.trans hr)
                                · exact absurd n72 (by decide)
                              · exact absurd n71 (by decide)
                          · exact absurd n69 (by decide)
                        · exact absurd n68 (by decide)
                    · exact absurd n66 (by decide)
                  · exact absurd n65 (by decide)
              · exact absurd n63 (by decide)
            · exact absurd n62 (by decide)
          · exact absurd n61 (by omega)
theorem v_45_6 {h : aH} {tx tb : Nat → Int} {N : Nat} (hN : N ≤ 600) (hT : ∀ k, k < N → BT (tx k) (tb k)) (dp ex ek eo : Int) (hS : h.2.2 201 = SO dp ex ek eo) (hx0 : 0 ≤ ex) (hx : ex < 200) {w : Nat → Int} (hR : Rp h 204 w) (hI : Inv w) {va : Nat → Int} (hV : h.2.2 222 = .inl (0, 4, .inl va)) (hb : TxB tx) (st kd vl : Int) (i : Nat) (hi : i ≤ N) (hO : h.2.2 202 = TO N st ((i : Nat) : Int) kd vl) (hB : h.2.2 203 = .inl (1, 600, .inl tb)) : CmdP 8 45 [aR 201, aC 10] h N dp ex ek eo (cTie tx N i w) := by
  have hbn := hI.1.bNe
  have hpn := hI.1.pNe
  have x0 := hI.1.len
  have x1 := hI.2.1
  have x1b := hI.1.hour
  have x4 := hI.1.gn
  have x5 := hI.1.bn
  have x6 := hI.1.pn
  have P1 := v_46_c0 hN hT dp ex ek eo hS hR hI.1 hV hb st kd vl i hi hO hB
  rcases hA1 : numA tx N i 0 (w 6 - 1) with e | ⟨q1, j1⟩
  · rw [hA1] at P1
    obtain ⟨g1, d1_, s1, t1, v1, m1⟩ := P1
    rw [show cTie tx N i w = .inl e from bnd_e hA1]
    refine ⟨g1, Ct.of [aR 201, aC 10, aU] rfl ?_, s1, t1, (m1.rp hR).ex, v1, NC.rf.tr m1.nc⟩
    refine r_aldC cd_45_0 rfl rfl ?_
    refine r_nnC cd_45_1 ⟨by decide, by decide⟩ ?_
    refine r_aldR cd_45_10 rfl rfl ?_
    refine r_get cd_45_11 rfl hS rfl ?_
    refine r_con (v := 200) cd_45_14 rfl (by decide) ?_
    refine r_ic63 cd_45_17 rfl ⟨by omega, by omega⟩ ⟨by omega, by omega⟩ (fun n61 => ?_) (fun n61 => ?_)
    · refine r_con (v := 0) cd_45_26 rfl (by decide) ?_
      refine r_ist cd_45_27 rfl rfl (L' := [aR 201, aC 10, aI 0]) rfl ?_
      refine r_ild cd_45_28 rfl rfl ?_
      refine r_aldC cd_45_29 rfl rfl ?_
      refine r_cget (v := aC 65) cd_45_30 rfl (rfl) ?_
      refine r_cI (c_378 65 (by decide) (by decide)) cd_45_33 rfl rfl rfl ⟨by decide, by decide⟩ rfl rfl rfl ?_
      refine RU.cast (pc2 := 36) (S2 := [aI 2, aI 0]) rfl rfl rfl ?_
      refine r_ic64 cd_45_36 rfl ⟨by omega, by omega⟩ ⟨by omega, by omega⟩ (fun n62 => ?_) (fun n62 => ?_)
      · refine r_ild cd_45_39 rfl rfl ?_
        refine r_con (v := 4) cd_45_40 rfl (by decide) ?_
        refine r_ic64 cd_45_41 rfl ⟨by omega, by omega⟩ ⟨by omega, by omega⟩ (fun n63 => ?_) (fun n63 => ?_)
        · refine r_aldR cd_45_44 rfl rfl ?_
          refine r_aldC cd_45_45 rfl rfl ?_
          refine r_cget (v := aC 65) cd_45_46 rfl (rfl) ?_
          refine r_ild cd_45_49 rfl rfl ?_
          refine r_cI (c_380 65 0 (by decide) (by decide) (by decide)) cd_45_50 rfl rfl rfl ⟨by decide, by decide⟩ rfl rfl rfl ?_
          refine RU.cast (pc2 := 53) (S2 := [aI 99, aR 201]) rfl rfl rfl ?_
          refine r_ild cd_45_53 rfl rfl ?_
          refine r_cI d1_ cd_45_54 rfl rfl rfl (rc0 hS rfl) rfl rfl rfl ?_
          refine r_if52 cd_45_57 rfl ⟨by omega, by omega⟩ (fun n64 => ?_) (fun n64 => ?_)
          · refine r_con (v := 0) cd_45_60 rfl (by decide) ?_
            exact r_ret cd_45_61 (Or.inl rfl) (rfl)
          · exact absurd n64 (by decide)
        · exact absurd n63 (by decide)
      · exact absurd n62 (by decide)
    · exact absurd n61 (by omega)
  · rw [hA1] at P1
    obtain ⟨g1, d1_, s1, ⟨st1, kd1, vl1, t1⟩, vv1, m1⟩ := P1
    have v1 : g1.2.2 222 = .inl (0, 4, .inl (va_up va 0 ((q1 : Nat) : Int))) := vv1
    have b1 : g1.2.2 203 = .inl (1, 600, .inl tb) := (m1.1 203 (by decide) (by decide) (by decide)).trans hB
    have R1 : Rp g1 204 w := m1.rp hR
    obtain ⟨z1a, z1b, z1c, z1j, -⟩ := numA_o hA1 (by decide)
    have i1 : j1 ≤ N := by rw [z1j]; exact (tPos hi).2
    have N1 : NC h g1 := NC.rf.tr m1.nc
    have P2 := v_46_b1 hN hT dp ex ek eo s1 R1 hI.1 v1 hb st1 kd1 vl1 j1 i1 t1 b1
    rcases hA2 : numA tx N j1 0 (w 5 - 1) with e | ⟨q2, j2⟩
    · rw [hA2] at P2
      obtain ⟨g2, d2_, s2, t2, v2, m2⟩ := P2
      rw [show cTie tx N i w = .inl e from (bnd_r hA1).trans (bnd_e hA2)]
      refine ⟨g2, Ct.of [aR 201, aC 10, aU] rfl ?_, s2, t2, (m2.rp R1).ex, v2, N1.tr m2.nc⟩
      refine r_aldC cd_45_0 rfl rfl ?_
      refine r_nnC cd_45_1 ⟨by decide, by decide⟩ ?_
      refine r_aldR cd_45_10 rfl rfl ?_
      refine r_get cd_45_11 rfl hS rfl ?_
      refine r_con (v := 200) cd_45_14 rfl (by decide) ?_
      refine r_ic63 cd_45_17 rfl ⟨by omega, by omega⟩ ⟨by omega, by omega⟩ (fun n61 => ?_) (fun n61 => ?_)
      · refine r_con (v := 0) cd_45_26 rfl (by decide) ?_
        refine r_ist cd_45_27 rfl rfl (L' := [aR 201, aC 10, aI 0]) rfl ?_
        refine r_ild cd_45_28 rfl rfl ?_
        refine r_aldC cd_45_29 rfl rfl ?_
        refine r_cget (v := aC 65) cd_45_30 rfl (rfl) ?_
        refine r_cI (c_378 65 (by decide) (by decide)) cd_45_33 rfl rfl rfl ⟨by decide, by decide⟩ rfl rfl rfl ?_
        refine RU.cast (pc2 := 36) (S2 := [aI 2, aI 0]) rfl rfl rfl ?_
        refine r_ic64 cd_45_36 rfl ⟨by omega, by omega⟩ ⟨by omega, by omega⟩ (fun n62 => ?_) (fun n62 => ?_)
        · refine r_ild cd_45_39 rfl rfl ?_
          refine r_con (v := 4) cd_45_40 rfl (by decide) ?_
          refine r_ic64 cd_45_41 rfl ⟨by omega, by omega⟩ ⟨by omega, by omega⟩ (fun n63 => ?_) (fun n63 => ?_)
          · refine r_aldR cd_45_44 rfl rfl ?_
            refine r_aldC cd_45_45 rfl rfl ?_
            refine r_cget (v := aC 65) cd_45_46 rfl (rfl) ?_
            refine r_ild cd_45_49 rfl rfl ?_
            refine r_cI (c_380 65 0 (by decide) (by decide) (by decide)) cd_45_50 rfl rfl rfl ⟨by decide, by decide⟩ rfl rfl rfl ?_
            refine RU.cast (pc2 := 53) (S2 := [aI 99, aR 201]) rfl rfl rfl ?_
            refine r_ild cd_45_53 rfl rfl ?_
            refine r_cI d1_ cd_45_54 rfl rfl rfl (rc0 hS rfl) rfl rfl rfl ?_
            refine r_if52 cd_45_57 rfl ⟨by omega, by omega⟩ (fun n64 => ?_) (fun n64 => ?_)
            · exact absurd n64 (by decide)
            · refine r_inc (v := 1) cd_45_62 rfl rfl rfl (by omega) (L' := [aR 201, aC 10, aI 1]) rfl ?_
              refine r_goto cd_45_65 ?_
              refine r_ild cd_45_28 rfl rfl ?_
              refine r_aldC cd_45_29 rfl rfl ?_
              refine r_cget (v := aC 65) cd_45_30 rfl (rfl) ?_
              refine r_cI (c_378 65 (by decide) (by decide)) cd_45_33 rfl rfl rfl ⟨by decide, by decide⟩ rfl rfl rfl ?_
              refine RU.cast (pc2 := 36) (S2 := [aI 2, aI 1]) rfl rfl rfl ?_
              refine r_ic64 cd_45_36 rfl ⟨by omega, by omega⟩ ⟨by omega, by omega⟩ (fun n65 => ?_) (fun n65 => ?_)
              · refine r_ild cd_45_39 rfl rfl ?_
                refine r_con (v := 4) cd_45_40 rfl (by decide) ?_
                refine r_ic64 cd_45_41 rfl ⟨by omega, by omega⟩ ⟨by omega, by omega⟩ (fun n66 => ?_) (fun n66 => ?_)
                · refine r_aldR cd_45_44 rfl rfl ?_
                  refine r_aldC cd_45_45 rfl rfl ?_
                  refine r_cget (v := aC 65) cd_45_46 rfl (rfl) ?_
                  refine r_ild cd_45_49 rfl rfl ?_
                  refine r_cI (c_380 65 1 (by decide) (by decide) (by decide)) cd_45_50 rfl rfl rfl ⟨by decide, by decide⟩ rfl rfl rfl ?_
                  refine RU.cast (pc2 := 53) (S2 := [aI 98, aR 201]) rfl rfl rfl ?_
                  refine r_ild cd_45_53 rfl rfl ?_
                  refine r_cI d2_ cd_45_54 rfl rfl rfl (rc0 s1 rfl) rfl rfl rfl ?_
                  refine r_if52 cd_45_57 rfl ⟨by omega, by omega⟩ (fun n67 => ?_) (fun n67 => ?_)
                  · refine r_con (v := 0) cd_45_60 rfl (by decide) ?_
                    exact r_ret cd_45_61 (Or.inl rfl) (rfl)
                  · exact absurd n67 (by decide)
                · exact absurd n66 (by decide)
              · exact absurd n65 (by decide)
          · exact absurd n63 (by decide)
        · exact absurd n62 (by decide)
      · exact absurd n61 (by omega)
    · rw [hA2] at P2
      obtain ⟨g2, d2_, s2, ⟨st2, kd2, vl2, t2⟩, vv2, m2⟩ := P2
      have v2 : g2.2.2 222 = .inl (0, 4, .inl (va_up (va_up va 0 ((q1 : Nat) : Int)) 1 ((q2 : Nat) : Int))) := vv2
      have b2 : g2.2.2 203 = .inl (1, 600, .inl tb) := (m2.1 203 (by decide) (by decide) (by decide)).trans b1
      have R2 : Rp g2 204 w := m2.rp R1
      obtain ⟨z2a, z2b, z2c, z2j, -⟩ := numA_o hA2 (by decide)
      have i2 : j2 ≤ N := by rw [z2j]; exact (tPos i1).2
      have N2 : NC h g2 := N1.tr m2.nc
      by_cases hk : tKnd tx N j2 = 1
      rotate_left
      · obtain ⟨gs, ds, ss, ts, ms⟩ := v_41_5b hN hT dp ex ek eo s2 st2 kd2 vl2 j2 i2 t2 b2 hk
        rw [show cTie tx N i w = .inl (1, ((tOff tx N j2 : Nat) : Int)) from (bnd_r hA1).trans ((bnd_r hA2).trans (bnd_e (if_pos hk)))]
        refine ⟨gs, Ct.of [aR 201, aC 10, aU] rfl ?_, ss, ts, (ms.rp R2).ex, ⟨_, (ms.1 222 (by decide) (by decide)).trans v2⟩, N2.tr ms.nc⟩
        refine r_aldC cd_45_0 rfl rfl ?_
        refine r_nnC cd_45_1 ⟨by decide, by decide⟩ ?_
        refine r_aldR cd_45_10 rfl rfl ?_
        refine r_get cd_45_11 rfl hS rfl ?_
        refine r_con (v := 200) cd_45_14 rfl (by decide) ?_
        refine r_ic63 cd_45_17 rfl ⟨by omega, by omega⟩ ⟨by omega, by omega⟩ (fun n61 => ?_) (fun n61 => ?_)
        · refine r_con (v := 0) cd_45_26 rfl (by decide) ?_
          refine r_ist cd_45_27 rfl rfl (L' := [aR 201, aC 10, aI 0]) rfl ?_
          refine r_ild cd_45_28 rfl rfl ?_
          refine r_aldC cd_45_29 rfl rfl ?_
          refine r_cget (v := aC 65) cd_45_30 rfl (rfl) ?_
          refine r_cI (c_378 65 (by decide) (by decide)) cd_45_33 rfl rfl rfl ⟨by decide, by decide⟩ rfl rfl rfl ?_
          refine RU.cast (pc2 := 36) (S2 := [aI 2, aI 0]) rfl rfl rfl ?_
          refine r_ic64 cd_45_36 rfl ⟨by omega, by omega⟩ ⟨by omega, by omega⟩ (fun n62 => ?_) (fun n62 => ?_)
          · refine r_ild cd_45_39 rfl rfl ?_
            refine r_con (v := 4) cd_45_40 rfl (by decide) ?_
            refine r_ic64 cd_45_41 rfl ⟨by omega, by omega⟩ ⟨by omega, by omega⟩ (fun n63 => ?_) (fun n63 => ?_)
            · refine r_aldR cd_45_44 rfl rfl ?_
              refine r_aldC cd_45_45 rfl rfl ?_
              refine r_cget (v := aC 65) cd_45_46 rfl (rfl) ?_
              refine r_ild cd_45_49 rfl rfl ?_
              refine r_cI (c_380 65 0 (by decide) (by decide) (by decide)) cd_45_50 rfl rfl rfl ⟨by decide, by decide⟩ rfl rfl rfl ?_
              refine RU.cast (pc2 := 53) (S2 := [aI 99, aR 201]) rfl rfl rfl ?_
              refine r_ild cd_45_53 rfl rfl ?_
              refine r_cI d1_ cd_45_54 rfl rfl rfl (rc0 hS rfl) rfl rfl rfl ?_
              refine r_if52 cd_45_57 rfl ⟨by omega, by omega⟩ (fun n64 => ?_) (fun n64 => ?_)
              · exact absurd n64 (by decide)
              · refine r_inc (v := 1) cd_45_62 rfl rfl rfl (by omega) (L' := [aR 201, aC 10, aI 1]) rfl ?_
                refine r_goto cd_45_65 ?_
                refine r_ild cd_45_28 rfl rfl ?_
                refine r_aldC cd_45_29 rfl rfl ?_
                refine r_cget (v := aC 65) cd_45_30 rfl (rfl) ?_
                refine r_cI (c_378 65 (by decide) (by decide)) cd_45_33 rfl rfl rfl ⟨by decide, by decide⟩ rfl rfl rfl ?_
                refine RU.cast (pc2 := 36) (S2 := [aI 2, aI 1]) rfl rfl rfl ?_
                refine r_ic64 cd_45_36 rfl ⟨by omega, by omega⟩ ⟨by omega, by omega⟩ (fun n65 => ?_) (fun n65 => ?_)
                · refine r_ild cd_45_39 rfl rfl ?_
                  refine r_con (v := 4) cd_45_40 rfl (by decide) ?_
                  refine r_ic64 cd_45_41 rfl ⟨by omega, by omega⟩ ⟨by omega, by omega⟩ (fun n66 => ?_) (fun n66 => ?_)
                  · refine r_aldR cd_45_44 rfl rfl ?_
                    refine r_aldC cd_45_45 rfl rfl ?_
                    refine r_cget (v := aC 65) cd_45_46 rfl (rfl) ?_
                    refine r_ild cd_45_49 rfl rfl ?_
                    refine r_cI (c_380 65 1 (by decide) (by decide) (by decide)) cd_45_50 rfl rfl rfl ⟨by decide, by decide⟩ rfl rfl rfl ?_
                    refine RU.cast (pc2 := 53) (S2 := [aI 98, aR 201]) rfl rfl rfl ?_
                    refine r_ild cd_45_53 rfl rfl ?_
                    refine r_cI d2_ cd_45_54 rfl rfl rfl (rc0 s1 rfl) rfl rfl rfl ?_
                    refine r_if52 cd_45_57 rfl ⟨by omega, by omega⟩ (fun n67 => ?_) (fun n67 => ?_)
                    · exact absurd n67 (by decide)
                    · refine r_inc (v := 2) cd_45_62 rfl rfl rfl (by omega) (L' := [aR 201, aC 10, aI 2]) rfl ?_
                      refine r_goto cd_45_65 ?_
                      refine r_ild cd_45_28 rfl rfl ?_
                      refine r_aldC cd_45_29 rfl rfl ?_
                      refine r_cget (v := aC 65) cd_45_30 rfl (rfl) ?_
                      refine r_cI (c_378 65 (by decide) (by decide)) cd_45_33 rfl rfl rfl ⟨by decide, by decide⟩ rfl rfl rfl ?_
                      refine RU.cast (pc2 := 36) (S2 := [aI 2, aI 2]) rfl rfl rfl ?_
                      refine r_ic64 cd_45_36 rfl ⟨by omega, by omega⟩ ⟨by omega, by omega⟩ (fun n68 => ?_) (fun n68 => ?_)
                      · exact absurd n68 (by decide)
                      · refine r_aldR cd_45_68 rfl rfl ?_
                        refine r_con (v := 5) cd_45_69 rfl (by decide) ?_
                        refine r_cI ds cd_45_70 rfl rfl rfl (rc0 s2 rfl) rfl rfl rfl ?_
                        refine r_if52 cd_45_73 rfl ⟨by omega, by omega⟩ (fun n69 => ?_) (fun n69 => ?_)
                        · refine r_con (v := 0) cd_45_76 rfl (by decide) ?_
                          exact r_ret cd_45_77 (Or.inl rfl) (rfl)
                        · exact absurd n69 (by decide)
                  · exact absurd n66 (by decide)
                · exact absurd n65 (by decide)
            · exact absurd n63 (by decide)
          · exact absurd n62 (by decide)
        · exact absurd n61 (by omega)
      obtain ⟨gs, ds, ss, ⟨kds, vls, ts⟩, ms⟩ := v_41_5a hN hT dp ex ek eo s2 st2 kd2 vl2 j2 i2 t2 b2 hk
      have Rs := ms.rp R2
      have vs : gs.2.2 222 = .inl (0, 4, .inl (va_up (va_up va 0 ((q1 : Nat) : Int)) 1 ((q2 : Nat) : Int))) := (ms.1 222 (by decide) (by decide)).trans v2
      have nk : ¬ ¬ tKnd tx N j2 = 1 := fun e => e hk
      obtain ⟨fs, o204⟩ := Rs.o
      by_cases hc : (decide (whyT w q1 q2 = 0)) = true
      rotate_left
      · have hr : (!decide (whyT w q1 q2 = 0)) = true := by rw [Bool.not_eq_true] at hc; rw [hc]; rfl
        rw [show cTie tx N i w = .inl (3, ((tOff tx N j2 : Nat) : Int)) from (bnd_r hA1).trans ((bnd_r hA2).trans (bnd_e ((if_neg nk).trans (if_neg hc))))]
        refine ⟨sw gs 201 (SO dp ex 3 ((tOff tx N j2 : Nat) : Int)), Ct.of [aR 201, aC 10, aU] rfl ?_, sw_at _ _ _, ⟨_, _, _, _, (sw_ne (by decide)).trans ts⟩, (Rs.mv fun a h1 h2 => sw_ne (by omega)).ex, ⟨_, (sw_ne (by decide)).trans vs⟩, (N2.tr ms.nc).s⟩
        refine r_aldC cd_45_0 rfl rfl ?_
        refine r_nnC cd_45_1 ⟨by decide, by decide⟩ ?_
        refine r_aldR cd_45_10 rfl rfl ?_
        refine r_get cd_45_11 rfl hS rfl ?_
        refine r_con (v := 200) cd_45_14 rfl (by decide) ?_
        refine r_ic63 cd_45_17 rfl ⟨by omega, by omega⟩ ⟨by omega, by omega⟩ (fun n61 => ?_) (fun n61 => ?_)
        · refine r_con (v := 0) cd_45_26 rfl (by decide) ?_
          refine r_ist cd_45_27 rfl rfl (L' := [aR 201, aC 10, aI 0]) rfl ?_
          refine r_ild cd_45_28 rfl rfl ?_
          refine r_aldC cd_45_29 rfl rfl ?_
          refine r_cget (v := aC 65) cd_45_30 rfl (rfl) ?_
          refine r_cI (c_378 65 (by decide) (by decide)) cd_45_33 rfl rfl rfl ⟨by decide, by decide⟩ rfl rfl rfl ?_
          refine RU.cast (pc2 := 36) (S2 := [aI 2, aI 0]) rfl rfl rfl ?_
          refine r_ic64 cd_45_36 rfl ⟨by omega, by omega⟩ ⟨by omega, by omega⟩ (fun n62 => ?_) (fun n62 => ?_)
          · refine r_ild cd_45_39 rfl rfl ?_
            refine r_con (v := 4) cd_45_40 rfl (by decide) ?_
            refine r_ic64 cd_45_41 rfl ⟨by omega, by omega⟩ ⟨by omega, by omega⟩ (fun n63 => ?_) (fun n63 => ?_)
            · refine r_aldR cd_45_44 rfl rfl ?_
              refine r_aldC cd_45_45 rfl rfl ?_
              refine r_cget (v := aC 65) cd_45_46 rfl (rfl) ?_
              refine r_ild cd_45_49 rfl rfl ?_
              refine r_cI (c_380 65 0 (by decide) (by decide) (by decide)) cd_45_50 rfl rfl rfl ⟨by decide, by decide⟩ rfl rfl rfl ?_
              refine RU.cast (pc2 := 53) (S2 := [aI 99, aR 201]) rfl rfl rfl ?_
              refine r_ild cd_45_53 rfl rfl ?_
              refine r_cI d1_ cd_45_54 rfl rfl rfl (rc0 hS rfl) rfl rfl rfl ?_
              refine r_if52 cd_45_57 rfl ⟨by omega, by omega⟩ (fun n64 => ?_) (fun n64 => ?_)
              · exact absurd n64 (by decide)
              · refine r_inc (v := 1) cd_45_62 rfl rfl rfl (by omega) (L' := [aR 201, aC 10, aI 1]) rfl ?_
                refine r_goto cd_45_65 ?_
                refine r_ild cd_45_28 rfl rfl ?_
                refine r_aldC cd_45_29 rfl rfl ?_
                refine r_cget (v := aC 65) cd_45_30 rfl (rfl) ?_
                refine r_cI (c_378 65 (by decide) (by decide)) cd_45_33 rfl rfl rfl ⟨by decide, by decide⟩ rfl rfl rfl ?_
                refine RU.cast (pc2 := 36) (S2 := [aI 2, aI 1]) rfl rfl rfl ?_
                refine r_ic64 cd_45_36 rfl ⟨by omega, by omega⟩ ⟨by omega, by omega⟩ (fun n65 => ?_) (fun n65 => ?_)
                · refine r_ild cd_45_39 rfl rfl ?_
                  refine r_con (v := 4) cd_45_40 rfl (by decide) ?_
                  refine r_ic64 cd_45_41 rfl ⟨by omega, by omega⟩ ⟨by omega, by omega⟩ (fun n66 => ?_) (fun n66 => ?_)
                  · refine r_aldR cd_45_44 rfl rfl ?_
                    refine r_aldC cd_45_45 rfl rfl ?_
                    refine r_cget (v := aC 65) cd_45_46 rfl (rfl) ?_
                    refine r_ild cd_45_49 rfl rfl ?_
                    refine r_cI (c_380 65 1 (by decide) (by decide) (by decide)) cd_45_50 rfl rfl rfl ⟨by decide, by decide⟩ rfl rfl rfl ?_
                    refine RU.cast (pc2 := 53) (S2 := [aI 98, aR 201]) rfl rfl rfl ?_
                    refine r_ild cd_45_53 rfl rfl ?_
                    refine r_cI d2_ cd_45_54 rfl rfl rfl (rc0 s1 rfl) rfl rfl rfl ?_
                    refine r_if52 cd_45_57 rfl ⟨by omega, by omega⟩ (fun n67 => ?_) (fun n67 => ?_)
                    · exact absurd n67 (by decide)
                    · refine r_inc (v := 2) cd_45_62 rfl rfl rfl (by omega) (L' := [aR 201, aC 10, aI 2]) rfl ?_
                      refine r_goto cd_45_65 ?_
                      refine r_ild cd_45_28 rfl rfl ?_
                      refine r_aldC cd_45_29 rfl rfl ?_
                      refine r_cget (v := aC 65) cd_45_30 rfl (rfl) ?_
                      refine r_cI (c_378 65 (by decide) (by decide)) cd_45_33 rfl rfl rfl ⟨by decide, by decide⟩ rfl rfl rfl ?_
                      refine RU.cast (pc2 := 36) (S2 := [aI 2, aI 2]) rfl rfl rfl ?_
                      refine r_ic64 cd_45_36 rfl ⟨by omega, by omega⟩ ⟨by omega, by omega⟩ (fun n68 => ?_) (fun n68 => ?_)
                      · exact absurd n68 (by decide)
                      · refine r_aldR cd_45_68 rfl rfl ?_
                        refine r_con (v := 5) cd_45_69 rfl (by decide) ?_
                        refine r_cI ds cd_45_70 rfl rfl rfl (rc0 s2 rfl) rfl rfl rfl ?_
                        refine r_if52 cd_45_73 rfl ⟨by omega, by omega⟩ (fun n69 => ?_) (fun n69 => ?_)
                        · exact absurd n69 (by decide)
                        · refine r_aldR cd_45_78 rfl rfl ?_
                          refine r_get cd_45_79 rfl ss rfl ?_
                          refine r_aldC cd_45_82 rfl rfl ?_
                          refine r_aldR cd_45_83 rfl rfl ?_
                          refine r_get cd_45_84 rfl ss rfl ?_
                          refine r_con (v := 0) cd_45_87 rfl (by decide) ?_
                          refine r_arr (i := 0) cd_45_88 rfl vs rfl (by omega) rfl ?_
                          refine RU.cast (pc2 := 89) (S2 := [aI ((q1 : Nat) : Int), aC 10, aR 204]) rfl rfl rfl ?_
                          refine r_aldR cd_45_89 rfl rfl ?_
                          refine r_get cd_45_90 rfl ss rfl ?_
                          refine r_con (v := 1) cd_45_93 rfl (by decide) ?_
                          refine r_arr (i := 1) cd_45_94 rfl vs rfl (by omega) rfl ?_
                          refine RU.cast (pc2 := 95) (S2 := [aI ((q2 : Nat) : Int), aI ((q1 : Nat) : Int), aC 10, aR 204]) rfl rfl rfl ?_
                          refine r_aldR cd_45_95 rfl rfl ?_
                          refine r_get cd_45_96 rfl ss rfl ?_
                          refine r_con (v := 3) cd_45_99 rfl (by decide) ?_
                          refine r_arr (i := 3) cd_45_100 rfl vs rfl (by omega) rfl ?_
                          refine r_cI (k_76_6 Rs hI.1 _ q1 (by omega) q2 (by omega) (hI.2.2 q2 (by omega)).2) cd_45_101 rfl rfl rfl (rc0 o204 rfl) rfl rfl rfl ?_
                          refine r_if51b cd_45_104 rfl (fun n70 => ?_) (fun n70 => ?_)
                          · exact Bool.noConfusion (n70.symm.trans hr)
                          · refine r_aldR cd_45_107 rfl rfl ?_
                            refine r_con (v := 3) cd_45_108 rfl (by decide) ?_
                            refine r_cI (k_36 dp ex ek eo ss N _ _ _ _ ts 3) cd_45_109 rfl rfl rfl (rc0 ss rfl) rfl rfl rfl ?_
                            exact r_ret cd_45_112 (Or.inl rfl) (rfl)
                  · exact absurd n66 (by decide)
                · exact absurd n65 (by decide)
            · exact absurd n63 (by decide)
          · exact absurd n62 (by decide)
        · exact absurd n61 (by omega)
      have h4 : ¬ pa w q1 4 = 2 := by have := (whyT_0 (of_decide_eq_true hc)).1; omega
      have hr : (!decide (whyT w q1 q2 = 0)) = false := by rw [hc]; rfl
      obtain ⟨gc, dc, Rc, Fc⟩ := v_84_6 (B := 204) Rs hI.1 q1 q2 (by omega) (by omega) h4 ((va_up (va_up va 0 ((q1 : Nat) : Int)) 1 ((q2 : Nat) : Int)) 2) ((va_up (va_up va 0 ((q1 : Nat) : Int)) 1 ((q2 : Nat) : Int)) 3)
      have sc := (Fc.1 201 (by decide)).trans ss
      have vc := (Fc.1 222 (by decide)).trans vs
      have tc := (Fc.1 202 (by decide)).trans ts
      rw [show cTie tx N i w = .inr (tEnd tx N j2, putP w q1 1 ((q2 : Nat) : Int)) from (bnd_r hA1).trans ((bnd_r hA2).trans ((bnd_r ((if_neg nk).trans (if_pos hc)))))]
      refine ⟨sw gc 201 (SO dp (ex + 1) ek eo), Ct.of [aR 201, aC 10, aU] rfl ?_, sw_at _ _ _, ⟨_, _, _, (sw_ne (by decide)).trans tc⟩, Rc.mv fun a h1 h2 => sw_ne (by omega), ⟨_, (sw_ne (by decide)).trans vc⟩, ((N2.tr ms.nc).tr Fc.nc).s⟩
      refine r_aldC cd_45_0 rfl rfl ?_
      refine r_nnC cd_45_1 ⟨by decide, by decide⟩ ?_
      refine r_aldR cd_45_10 rfl rfl ?_
      refine r_get cd_45_11 rfl hS rfl ?_
      refine r_con (v := 200) cd_45_14 rfl (by decide) ?_
      refine r_ic63 cd_45_17 rfl ⟨by omega, by omega⟩ ⟨by omega, by omega⟩ (fun n61 => ?_) (fun n61 => ?_)
      · refine r_con (v := 0) cd_45_26 rfl (by decide) ?_
        refine r_ist cd_45_27 rfl rfl (L' := [aR 201, aC 10, aI 0]) rfl ?_
        refine r_ild cd_45_28 rfl rfl ?_
        refine r_aldC cd_45_29 rfl rfl ?_
        refine r_cget (v := aC 65) cd_45_30 rfl (rfl) ?_
        refine r_cI (c_378 65 (by decide) (by decide)) cd_45_33 rfl rfl rfl ⟨by decide, by decide⟩ rfl rfl rfl ?_
        refine RU.cast (pc2 := 36) (S2 := [aI 2, aI 0]) rfl rfl rfl ?_
        refine r_ic64 cd_45_36 rfl ⟨by omega, by omega⟩ ⟨by omega, by omega⟩ (fun n62 => ?_) (fun n62 => ?_)
        · refine r_ild cd_45_39 rfl rfl ?_
          refine r_con (v := 4) cd_45_40 rfl (by decide) ?_
          refine r_ic64 cd_45_41 rfl ⟨by omega, by omega⟩ ⟨by omega, by omega⟩ (fun n63 => ?_) (fun n63 => ?_)
          · refine r_aldR cd_45_44 rfl rfl ?_
            refine r_aldC cd_45_45 rfl rfl ?_
            refine r_cget (v := aC 65) cd_45_46 rfl (rfl) ?_
            refine r_ild cd_45_49 rfl rfl ?_
            refine r_cI (c_380 65 0 (by decide) (by decide) (by decide)) cd_45_50 rfl rfl rfl ⟨by decide, by decide⟩ rfl rfl rfl ?_
            refine RU.cast (pc2 := 53) (S2 := [aI 99, aR 201]) rfl rfl rfl ?_
            refine r_ild cd_45_53 rfl rfl ?_
            refine r_cI d1_ cd_45_54 rfl rfl rfl (rc0 hS rfl) rfl rfl rfl ?_
            refine r_if52 cd_45_57 rfl ⟨by omega, by omega⟩ (fun n64 => ?_) (fun n64 => ?_)
            · exact absurd n64 (by decide)
            · refine r_inc (v := 1) cd_45_62 rfl rfl rfl (by omega) (L' := [aR 201, aC 10, aI 1]) rfl ?_
              refine r_goto cd_45_65 ?_
              refine r_ild cd_45_28 rfl rfl ?_
              refine r_aldC cd_45_29 rfl rfl ?_
              refine r_cget (v := aC 65) cd_45_30 rfl (rfl) ?_
              refine r_cI (c_378 65 (by decide) (by decide)) cd_45_33 rfl rfl rfl ⟨by decide, by decide⟩ rfl rfl rfl ?_
              refine RU.cast (pc2 := 36) (S2 := [aI 2, aI 1]) rfl rfl rfl ?_
              refine r_ic64 cd_45_36 rfl ⟨by omega, by omega⟩ ⟨by omega, by omega⟩ (fun n65 => ?_) (fun n65 => ?_)
              · refine r_ild cd_45_39 rfl rfl ?_
                refine r_con (v := 4) cd_45_40 rfl (by decide) ?_
                refine r_ic64 cd_45_41 rfl ⟨by omega, by omega⟩ ⟨by omega, by omega⟩ (fun n66 => ?_) (fun n66 => ?_)
                · refine r_aldR cd_45_44 rfl rfl ?_
                  refine r_aldC cd_45_45 rfl rfl ?_
                  refine r_cget (v := aC 65) cd_45_46 rfl (rfl) ?_
                  refine r_ild cd_45_49 rfl rfl ?_
                  refine r_cI (c_380 65 1 (by decide) (by decide) (by decide)) cd_45_50 rfl rfl rfl ⟨by decide, by decide⟩ rfl rfl rfl ?_
                  refine RU.cast (pc2 := 53) (S2 := [aI 98, aR 201]) rfl rfl rfl ?_
                  refine r_ild cd_45_53 rfl rfl ?_
                  refine r_cI d2_ cd_45_54 rfl rfl rfl (rc0 s1 rfl) rfl rfl rfl ?_
                  refine r_if52 cd_45_57 rfl ⟨by omega, by omega⟩ (fun n67 => ?_) (fun n67 => ?_)
                  · exact absurd n67 (by decide)
                  · refine r_inc (v := 2) cd_45_62 rfl rfl rfl (by omega) (L' := [aR 201, aC 10, aI 2]) rfl ?_
                    refine r_goto cd_45_65 ?_
                    refine r_ild cd_45_28 rfl rfl ?_
                    refine r_aldC cd_45_29 rfl rfl ?_
                    refine r_cget (v := aC 65) cd_45_30 rfl (rfl) ?_
                    refine r_cI (c_378 65 (by decide) (by decide)) cd_45_33 rfl rfl rfl ⟨by decide, by decide⟩ rfl rfl rfl ?_
                    refine RU.cast (pc2 := 36) (S2 := [aI 2, aI 2]) rfl rfl rfl ?_
                    refine r_ic64 cd_45_36 rfl ⟨by omega, by omega⟩ ⟨by omega, by omega⟩ (fun n68 => ?_) (fun n68 => ?_)
                    · exact absurd n68 (by decide)
                    · refine r_aldR cd_45_68 rfl rfl ?_
                      refine r_con (v := 5) cd_45_69 rfl (by decide) ?_
                      refine r_cI ds cd_45_70 rfl rfl rfl (rc0 s2 rfl) rfl rfl rfl ?_
                      refine r_if52 cd_45_73 rfl ⟨by omega, by omega⟩ (fun n69 => ?_) (fun n69 => ?_)
                      · exact absurd n69 (by decide)
                      · refine r_aldR cd_45_78 rfl rfl ?_
                        refine r_get cd_45_79 rfl ss rfl ?_
                        refine r_aldC cd_45_82 rfl rfl ?_
                        refine r_aldR cd_45_83 rfl rfl ?_
                        refine r_get cd_45_84 rfl ss rfl ?_
                        refine r_con (v := 0) cd_45_87 rfl (by decide) ?_
                        refine r_arr (i := 0) cd_45_88 rfl vs rfl (by omega) rfl ?_
                        refine RU.cast (pc2 := 89) (S2 := [aI ((q1 : Nat) : Int), aC 10, aR 204]) rfl rfl rfl ?_
                        refine r_aldR cd_45_89 rfl rfl ?_
                        refine r_get cd_45_90 rfl ss rfl ?_
                        refine r_con (v := 1) cd_45_93 rfl (by decide) ?_
                        refine r_arr (i := 1) cd_45_94 rfl vs rfl (by omega) rfl ?_
                        refine RU.cast (pc2 := 95) (S2 := [aI ((q2 : Nat) : Int), aI ((q1 : Nat) : Int), aC 10, aR 204]) rfl rfl rfl ?_
                        refine r_aldR cd_45_95 rfl rfl ?_
                        refine r_get cd_45_96 rfl ss rfl ?_
                        refine r_con (v := 3) cd_45_99 rfl (by decide) ?_
                        refine r_arr (i := 3) cd_45_100 rfl vs rfl (by omega) rfl ?_
                        refine r_cI (k_76_6 Rs hI.1 _ q1 (by omega) q2 (by omega) (hI.2.2 q2 (by omega)).2) cd_45_101 rfl rfl rfl (rc0 o204 rfl) rfl rfl rfl ?_
                        refine r_if51b cd_45_104 rfl (fun n70 => ?_) (fun n70 => ?_)
                        · refine r_aldR cd_45_113 rfl rfl ?_
                          refine r_get cd_45_114 rfl ss rfl ?_
                          refine r_aldC cd_45_117 rfl rfl ?_
                          refine r_aldR cd_45_118 rfl rfl ?_
                          refine r_get cd_45_119 rfl ss rfl ?_
                          refine r_con (v := 0) cd_45_122 rfl (by decide) ?_
                          refine r_arr (i := 0) cd_45_123 rfl vs rfl (by omega) rfl ?_
                          refine RU.cast (pc2 := 124) (S2 := [aI ((q1 : Nat) : Int), aC 10, aR 204]) rfl rfl rfl ?_
                          refine r_aldR cd_45_124 rfl rfl ?_
                          refine r_get cd_45_125 rfl ss rfl ?_
                          refine r_con (v := 1) cd_45_128 rfl (by decide) ?_
                          refine r_arr (i := 1) cd_45_129 rfl vs rfl (by omega) rfl ?_
                          refine RU.cast (pc2 := 130) (S2 := [aI ((q2 : Nat) : Int), aI ((q1 : Nat) : Int), aC 10, aR 204]) rfl rfl rfl ?_
                          refine r_aldR cd_45_130 rfl rfl ?_
                          refine r_get cd_45_131 rfl ss rfl ?_
                          refine r_con (v := 2) cd_45_134 rfl (by decide) ?_
                          refine r_arr (i := 2) cd_45_135 rfl vs rfl (by omega) rfl ?_
                          refine r_aldR cd_45_136 rfl rfl ?_
                          refine r_get cd_45_137 rfl ss rfl ?_
                          refine r_con (v := 3) cd_45_140 rfl (by decide) ?_
                          refine r_arr (i := 3) cd_45_141 rfl vs rfl (by omega) rfl ?_
                          refine r_cI dc cd_45_142 rfl rfl rfl (rc0 o204 rfl) rfl rfl rfl ?_
                          refine r_pop cd_45_145 rfl rfl ?_
                          refine r_aldR cd_45_146 rfl rfl ?_
                          refine r_dup cd_45_147 rfl rfl ?_
                          refine r_get cd_45_148 rfl sc rfl ?_
                          refine r_con (v := 1) cd_45_151 rfl (by decide) ?_
                          refine r_add (v := ex + 1) cd_45_152 rfl (by rfl) ?_
                          refine r_put (fs' := [aR 202, aR 204, aR 222, aR 223, aR 224, aI dp, aI (ex + 1), aI ek, aI eo]) cd_45_153 rfl sc rfl rfl ?_
                          refine r_con (v := 1) cd_45_156 rfl (by decide) ?_
                          exact r_ret cd_45_157 (Or.inr rfl) (rfl)
                        · exact Bool.noConfusion (n70.symm.trans hr)
                · exact absurd n66 (by decide)
              · exact absurd n65 (by decide)
          · exact absurd n63 (by decide)
        · exact absurd n62 (by decide)
      · exact absurd n61 (by omega)
theorem v_45_7 {h : aH} {tx tb : Nat → Int} {N : Nat} (hN : N ≤ 600) (hT : ∀ k, k < N → BT (tx k) (tb k)) (dp ex ek eo : Int) (hS : h.2.2 201 = SO dp ex ek eo) (hx0 : 0 ≤ ex) (hx : ex < 200) {w : Nat → Int} (hR : Rp h 204 w) (hI : Inv w) {va : Nat → Int} (hV : h.2.2 222 = .inl (0, 4, .inl va)) (hb : TxB tx) (st kd vl : Int) (i : Nat) (hi : i ≤ N) (hO : h.2.2 202 = TO N st ((i : Nat) : Int) kd vl) (hB : h.2.2 203 = .inl (1, 600, .inl tb)) : CmdP 8 45 [aR 201, aC 11] h N dp ex ek eo (cUnt tx N i w) := by
  have hbn := hI.1.bNe
  have hpn := hI.1.pNe
  have x0 := hI.1.len
  have x1 := hI.2.1
  have x1b := hI.1.hour
  have x4 := hI.1.gn
  have x5 := hI.1.bn
  have x6 := hI.1.pn
  have P1 := v_46_c0 hN hT dp ex ek eo hS hR hI.1 hV hb st kd vl i hi hO hB
  rcases hA1 : numA tx N i 0 (w 6 - 1) with e | ⟨q1, j1⟩
  · rw [hA1] at P1
    obtain ⟨g1, d1_, s1, t1, v1, m1⟩ := P1
    rw [show cUnt tx N i w = .inl e from bnd_e hA1]
    refine ⟨g1, Ct.of [aR 201, aC 11, aU] rfl ?_, s1, t1, (m1.rp hR).ex, v1, NC.rf.tr m1.nc⟩
    refine r_aldC cd_45_0 rfl rfl ?_
    refine r_nnC cd_45_1 ⟨by decide, by decide⟩ ?_
    refine r_aldR cd_45_10 rfl rfl ?_
    refine r_get cd_45_11 rfl hS rfl ?_
    refine r_con (v := 200) cd_45_14 rfl (by decide) ?_
    refine r_ic63 cd_45_17 rfl ⟨by omega, by omega⟩ ⟨by omega, by omega⟩ (fun n61 => ?_) (fun n61 => ?_)
    · refine r_con (v := 0) cd_45_26 rfl (by decide) ?_
      refine r_ist cd_45_27 rfl rfl (L' := [aR 201, aC 11, aI 0]) rfl ?_
      refine r_ild cd_45_28 rfl rfl ?_
      refine r_aldC cd_45_29 rfl rfl ?_
      refine r_cget (v := aC 67) cd_45_30 rfl (rfl) ?_
      refine r_cI (c_378 67 (by decide) (by decide)) cd_45_33 rfl rfl rfl ⟨by decide, by decide⟩ rfl rfl rfl ?_
      refine RU.cast (pc2 := 36) (S2 := [aI 1, aI 0]) rfl rfl rfl ?_
      refine r_ic64 cd_45_36 rfl ⟨by omega, by omega⟩ ⟨by omega, by omega⟩ (fun n62 => ?_) (fun n62 => ?_)
      · refine r_ild cd_45_39 rfl rfl ?_
        refine r_con (v := 4) cd_45_40 rfl (by decide) ?_
        refine r_ic64 cd_45_41 rfl ⟨by omega, by omega⟩ ⟨by omega, by omega⟩ (fun n63 => ?_) (fun n63 => ?_)
        · refine r_aldR cd_45_44 rfl rfl ?_
          refine r_aldC cd_45_45 rfl rfl ?_
          refine r_cget (v := aC 67) cd_45_46 rfl (rfl) ?_
          refine r_ild cd_45_49 rfl rfl ?_
          refine r_cI (c_380 67 0 (by decide) (by decide) (by decide)) cd_45_50 rfl rfl rfl ⟨by decide, by decide⟩ rfl rfl rfl ?_
          refine RU.cast (pc2 := 53) (S2 := [aI 99, aR 201]) rfl rfl rfl ?_
          refine r_ild cd_45_53 rfl rfl ?_
          refine r_cI d1_ cd_45_54 rfl rfl rfl (rc0 hS rfl) rfl rfl rfl ?_
          refine r_if52 cd_45_57 rfl ⟨by omega, by omega⟩ (fun n64 => ?_) (fun n64 => ?_)
          · refine r_con (v := 0) cd_45_60 rfl (by decide) ?_
            exact r_ret cd_45_61 (Or.inl rfl) (rfl)
          · exact absurd n64 (by decide)
        · exact absurd n63 (by decide)
      · exact absurd n62 (by decide)
    · exact absurd n61 (by omega)
  · rw [hA1] at P1
    obtain ⟨g1, d1_, s1, ⟨st1, kd1, vl1, t1⟩, vv1, m1⟩ := P1
    have v1 : g1.2.2 222 = .inl (0, 4, .inl (va_up va 0 ((q1 : Nat) : Int))) := vv1
    have b1 : g1.2.2 203 = .inl (1, 600, .inl tb) := (m1.1 203 (by decide) (by decide) (by decide)).trans hB
    have R1 : Rp g1 204 w := m1.rp hR
    obtain ⟨z1a, z1b, z1c, z1j, -⟩ := numA_o hA1 (by decide)
    have i1 : j1 ≤ N := by rw [z1j]; exact (tPos hi).2
    have N1 : NC h g1 := NC.rf.tr m1.nc
    by_cases hk : tKnd tx N j1 = 1
    rotate_left
    · obtain ⟨gs, ds, ss, ts, ms⟩ := v_41_5b hN hT dp ex ek eo s1 st1 kd1 vl1 j1 i1 t1 b1 hk
      rw [show cUnt tx N i w = .inl (1, ((tOff tx N j1 : Nat) : Int)) from (bnd_r hA1).trans (bnd_e (if_pos hk))]
      refine ⟨gs, Ct.of [aR 201, aC 11, aU] rfl ?_, ss, ts, (ms.rp R1).ex, ⟨_, (ms.1 222 (by decide) (by decide)).trans v1⟩, N1.tr ms.nc⟩
      refine r_aldC cd_45_0 rfl rfl ?_
      refine r_nnC cd_45_1 ⟨by decide, by decide⟩ ?_
      refine r_aldR cd_45_10 rfl rfl ?_
      refine r_get cd_45_11 rfl hS rfl ?_
      refine r_con (v := 200) cd_45_14 rfl (by decide) ?_
      refine r_ic63 cd_45_17 rfl ⟨by omega, by omega⟩ ⟨by omega, by omega⟩ (fun n61 => ?_) (fun n61 => ?_)
      · refine r_con (v := 0) cd_45_26 rfl (by decide) ?_
        refine r_ist cd_45_27 rfl rfl (L' := [aR 201, aC 11, aI 0]) rfl ?_
        refine r_ild cd_45_28 rfl rfl ?_
        refine r_aldC cd_45_29 rfl rfl ?_
        refine r_cget (v := aC 67) cd_45_30 rfl (rfl) ?_
        refine r_cI (c_378 67 (by decide) (by decide)) cd_45_33 rfl rfl rfl ⟨by decide, by decide⟩ rfl rfl rfl ?_
        refine RU.cast (pc2 := 36) (S2 := [aI 1, aI 0]) rfl rfl rfl ?_
        refine r_ic64 cd_45_36 rfl ⟨by omega, by omega⟩ ⟨by omega, by omega⟩ (fun n62 => ?_) (fun n62 => ?_)
        · refine r_ild cd_45_39 rfl rfl ?_
          refine r_con (v := 4) cd_45_40 rfl (by decide) ?_
          refine r_ic64 cd_45_41 rfl ⟨by omega, by omega⟩ ⟨by omega, by omega⟩ (fun n63 => ?_) (fun n63 => ?_)
          · refine r_aldR cd_45_44 rfl rfl ?_
            refine r_aldC cd_45_45 rfl rfl ?_
            refine r_cget (v := aC 67) cd_45_46 rfl (rfl) ?_
            refine r_ild cd_45_49 rfl rfl ?_
            refine r_cI (c_380 67 0 (by decide) (by decide) (by decide)) cd_45_50 rfl rfl rfl ⟨by decide, by decide⟩ rfl rfl rfl ?_
            refine RU.cast (pc2 := 53) (S2 := [aI 99, aR 201]) rfl rfl rfl ?_
            refine r_ild cd_45_53 rfl rfl ?_
            refine r_cI d1_ cd_45_54 rfl rfl rfl (rc0 hS rfl) rfl rfl rfl ?_
            refine r_if52 cd_45_57 rfl ⟨by omega, by omega⟩ (fun n64 => ?_) (fun n64 => ?_)
            · exact absurd n64 (by decide)
            · refine r_inc (v := 1) cd_45_62 rfl rfl rfl (by omega) (L' := [aR 201, aC 11, aI 1]) rfl ?_
              refine r_goto cd_45_65 ?_
              refine r_ild cd_45_28 rfl rfl ?_
              refine r_aldC cd_45_29 rfl rfl ?_
              refine r_cget (v := aC 67) cd_45_30 rfl (rfl) ?_
              refine r_cI (c_378 67 (by decide) (by decide)) cd_45_33 rfl rfl rfl ⟨by decide, by decide⟩ rfl rfl rfl ?_
              refine RU.cast (pc2 := 36) (S2 := [aI 1, aI 1]) rfl rfl rfl ?_
              refine r_ic64 cd_45_36 rfl ⟨by omega, by omega⟩ ⟨by omega, by omega⟩ (fun n65 => ?_) (fun n65 => ?_)
              · exact absurd n65 (by decide)
              · refine r_aldR cd_45_68 rfl rfl ?_
                refine r_con (v := 5) cd_45_69 rfl (by decide) ?_
                refine r_cI ds cd_45_70 rfl rfl rfl (rc0 s1 rfl) rfl rfl rfl ?_
                refine r_if52 cd_45_73 rfl ⟨by omega, by omega⟩ (fun n66 => ?_) (fun n66 => ?_)
                · refine r_con (v := 0) cd_45_76 rfl (by decide) ?_
                  exact r_ret cd_45_77 (Or.inl rfl) (rfl)
                · exact absurd n66 (by decide)
          · exact absurd n63 (by decide)
        · exact absurd n62 (by decide)
      · exact absurd n61 (by omega)
    obtain ⟨gs, ds, ss, ⟨kds, vls, ts⟩, ms⟩ := v_41_5a hN hT dp ex ek eo s1 st1 kd1 vl1 j1 i1 t1 b1 hk
    have Rs := ms.rp R1
    have vs : gs.2.2 222 = .inl (0, 4, .inl (va_up va 0 ((q1 : Nat) : Int))) := (ms.1 222 (by decide) (by decide)).trans v1
    have nk : ¬ ¬ tKnd tx N j1 = 1 := fun e => e hk
    obtain ⟨fs, o204⟩ := Rs.o
    by_cases hc : (canU w q1) = true
    rotate_left
    · have hr : (!canU w q1) = true := by rw [Bool.not_eq_true] at hc; rw [hc]; rfl
      rw [show cUnt tx N i w = .inl (3, ((tOff tx N j1 : Nat) : Int)) from (bnd_r hA1).trans (bnd_e ((if_neg nk).trans (if_neg hc)))]
      refine ⟨sw gs 201 (SO dp ex 3 ((tOff tx N j1 : Nat) : Int)), Ct.of [aR 201, aC 11, aU] rfl ?_, sw_at _ _ _, ⟨_, _, _, _, (sw_ne (by decide)).trans ts⟩, (Rs.mv fun a h1 h2 => sw_ne (by omega)).ex, ⟨_, (sw_ne (by decide)).trans vs⟩, (N1.tr ms.nc).s⟩
      refine r_aldC cd_45_0 rfl rfl ?_
      refine r_nnC cd_45_1 ⟨by decide, by decide⟩ ?_
      refine r_aldR cd_45_10 rfl rfl ?_
      refine r_get cd_45_11 rfl hS rfl ?_
      refine r_con (v := 200) cd_45_14 rfl (by decide) ?_
      refine r_ic63 cd_45_17 rfl ⟨by omega, by omega⟩ ⟨by omega, by omega⟩ (fun n61 => ?_) (fun n61 => ?_)
      · refine r_con (v := 0) cd_45_26 rfl (by decide) ?_
        refine r_ist cd_45_27 rfl rfl (L' := [aR 201, aC 11, aI 0]) rfl ?_
        refine r_ild cd_45_28 rfl rfl ?_
        refine r_aldC cd_45_29 rfl rfl ?_
        refine r_cget (v := aC 67) cd_45_30 rfl (rfl) ?_
        refine r_cI (c_378 67 (by decide) (by decide)) cd_45_33 rfl rfl rfl ⟨by decide, by decide⟩ rfl rfl rfl ?_
        refine RU.cast (pc2 := 36) (S2 := [aI 1, aI 0]) rfl rfl rfl ?_
        refine r_ic64 cd_45_36 rfl ⟨by omega, by omega⟩ ⟨by omega, by omega⟩ (fun n62 => ?_) (fun n62 => ?_)
        · refine r_ild cd_45_39 rfl rfl ?_
          refine r_con (v := 4) cd_45_40 rfl (by decide) ?_
          refine r_ic64 cd_45_41 rfl ⟨by omega, by omega⟩ ⟨by omega, by omega⟩ (fun n63 => ?_) (fun n63 => ?_)
          · refine r_aldR cd_45_44 rfl rfl ?_
            refine r_aldC cd_45_45 rfl rfl ?_
            refine r_cget (v := aC 67) cd_45_46 rfl (rfl) ?_
            refine r_ild cd_45_49 rfl rfl ?_
            refine r_cI (c_380 67 0 (by decide) (by decide) (by decide)) cd_45_50 rfl rfl rfl ⟨by decide, by decide⟩ rfl rfl rfl ?_
            refine RU.cast (pc2 := 53) (S2 := [aI 99, aR 201]) rfl rfl rfl ?_
            refine r_ild cd_45_53 rfl rfl ?_
            refine r_cI d1_ cd_45_54 rfl rfl rfl (rc0 hS rfl) rfl rfl rfl ?_
            refine r_if52 cd_45_57 rfl ⟨by omega, by omega⟩ (fun n64 => ?_) (fun n64 => ?_)
            · exact absurd n64 (by decide)
            · refine r_inc (v := 1) cd_45_62 rfl rfl rfl (by omega) (L' := [aR 201, aC 11, aI 1]) rfl ?_
              refine r_goto cd_45_65 ?_
              refine r_ild cd_45_28 rfl rfl ?_
              refine r_aldC cd_45_29 rfl rfl ?_
              refine r_cget (v := aC 67) cd_45_30 rfl (rfl) ?_
              refine r_cI (c_378 67 (by decide) (by decide)) cd_45_33 rfl rfl rfl ⟨by decide, by decide⟩ rfl rfl rfl ?_
              refine RU.cast (pc2 := 36) (S2 := [aI 1, aI 1]) rfl rfl rfl ?_
              refine r_ic64 cd_45_36 rfl ⟨by omega, by omega⟩ ⟨by omega, by omega⟩ (fun n65 => ?_) (fun n65 => ?_)
              · exact absurd n65 (by decide)
              · refine r_aldR cd_45_68 rfl rfl ?_
                refine r_con (v := 5) cd_45_69 rfl (by decide) ?_
                refine r_cI ds cd_45_70 rfl rfl rfl (rc0 s1 rfl) rfl rfl rfl ?_
                refine r_if52 cd_45_73 rfl ⟨by omega, by omega⟩ (fun n66 => ?_) (fun n66 => ?_)
                · exact absurd n66 (by decide)
                · refine r_aldR cd_45_78 rfl rfl ?_
                  refine r_get cd_45_79 rfl ss rfl ?_
                  refine r_aldC cd_45_82 rfl rfl ?_
                  refine r_aldR cd_45_83 rfl rfl ?_
                  refine r_get cd_45_84 rfl ss rfl ?_
                  refine r_con (v := 0) cd_45_87 rfl (by decide) ?_
                  refine r_arr (i := 0) cd_45_88 rfl vs rfl (by omega) rfl ?_
                  refine RU.cast (pc2 := 89) (S2 := [aI ((q1 : Nat) : Int), aC 11, aR 204]) rfl rfl rfl ?_
                  refine r_aldR cd_45_89 rfl rfl ?_
                  refine r_get cd_45_90 rfl ss rfl ?_
                  refine r_con (v := 1) cd_45_93 rfl (by decide) ?_
                  refine r_arr (i := 1) cd_45_94 rfl vs rfl (by omega) rfl ?_
                  refine r_aldR cd_45_95 rfl rfl ?_
                  refine r_get cd_45_96 rfl ss rfl ?_
                  refine r_con (v := 3) cd_45_99 rfl (by decide) ?_
                  refine r_arr (i := 3) cd_45_100 rfl vs rfl (by omega) rfl ?_
                  refine r_cI (k_76_7 Rs hI.1 _ _ q1 (by omega)) cd_45_101 rfl rfl rfl (rc0 o204 rfl) rfl rfl rfl ?_
                  refine r_if51b cd_45_104 rfl (fun n67 => ?_) (fun n67 => ?_)
                  · exact Bool.noConfusion (n67.symm.trans hr)
                  · refine r_aldR cd_45_107 rfl rfl ?_
                    refine r_con (v := 3) cd_45_108 rfl (by decide) ?_
                    refine r_cI (k_36 dp ex ek eo ss N _ _ _ _ ts 3) cd_45_109 rfl rfl rfl (rc0 ss rfl) rfl rfl rfl ?_
                    exact r_ret cd_45_112 (Or.inl rfl) (rfl)
          · exact absurd n63 (by decide)
        · exact absurd n62 (by decide)
      · exact absurd n61 (by omega)
    have h4 : pa w q1 4 = 1 := (canU_iff.mp hc).1
    have hr : (!canU w q1) = false := by rw [hc]; rfl
    obtain ⟨gc, dc, Rc, Fc⟩ := v_84_7 (B := 204) Rs hI.1 q1 (by omega) h4 ((va_up va 0 ((q1 : Nat) : Int)) 1) ((va_up va 0 ((q1 : Nat) : Int)) 2) ((va_up va 0 ((q1 : Nat) : Int)) 3)
    have sc := (Fc.1 201 (by decide)).trans ss
    have vc := (Fc.1 222 (by decide)).trans vs
    have tc := (Fc.1 202 (by decide)).trans ts
    rw [show cUnt tx N i w = .inr (tEnd tx N j1, untW w q1) from (bnd_r hA1).trans ((bnd_r ((if_neg nk).trans (if_pos hc))))]
    refine ⟨sw gc 201 (SO dp (ex + 1) ek eo), Ct.of [aR 201, aC 11, aU] rfl ?_, sw_at _ _ _, ⟨_, _, _, (sw_ne (by decide)).trans tc⟩, Rc.mv fun a h1 h2 => sw_ne (by omega), ⟨_, (sw_ne (by decide)).trans vc⟩, ((N1.tr ms.nc).tr Fc.nc).s⟩
    refine r_aldC cd_45_0 rfl rfl ?_
    refine r_nnC cd_45_1 ⟨by decide, by decide⟩ ?_
    refine r_aldR cd_45_10 rfl rfl ?_
    refine r_get cd_45_11 rfl hS rfl ?_
    refine r_con (v := 200) cd_45_14 rfl (by decide) ?_
    refine r_ic63 cd_45_17 rfl ⟨by omega, by omega⟩ ⟨by omega, by omega⟩ (fun n61 => ?_) (fun n61 => ?_)
    · refine r_con (v := 0) cd_45_26 rfl (by decide) ?_
      refine r_ist cd_45_27 rfl rfl (L' := [aR 201, aC 11, aI 0]) rfl ?_
      refine r_ild cd_45_28 rfl rfl ?_
      refine r_aldC cd_45_29 rfl rfl ?_
      refine r_cget (v := aC 67) cd_45_30 rfl (rfl) ?_
      refine r_cI (c_378 67 (by decide) (by decide)) cd_45_33 rfl rfl rfl ⟨by decide, by decide⟩ rfl rfl rfl ?_
      refine RU.cast (pc2 := 36) (S2 := [aI 1, aI 0]) rfl rfl rfl ?_
      refine r_ic64 cd_45_36 rfl ⟨by omega, by omega⟩ ⟨by omega, by omega⟩ (fun n62 => ?_) (fun n62 => ?_)
      · refine r_ild cd_45_39 rfl rfl ?_
        refine r_con (v := 4) cd_45_40 rfl (by decide) ?_
        refine r_ic64 cd_45_41 rfl ⟨by omega, by omega⟩ ⟨by omega, by omega⟩ (fun n63 => ?_) (fun n63 => ?_)
        · refine r_aldR cd_45_44 rfl rfl ?_
          refine r_aldC cd_45_45 rfl rfl ?_
          refine r_cget (v := aC 67) cd_45_46 rfl (rfl) ?_
          refine r_ild cd_45_49 rfl rfl ?_
          refine r_cI (c_380 67 0 (by decide) (by decide) (by decide)) cd_45_50 rfl rfl rfl ⟨by decide, by decide⟩ rfl rfl rfl ?_
          refine RU.cast (pc2 := 53) (S2 := [aI 99, aR 201]) rfl rfl rfl ?_
          refine r_ild cd_45_53 rfl rfl ?_
          refine r_cI d1_ cd_45_54 rfl rfl rfl (rc0 hS rfl) rfl rfl rfl ?_
          refine r_if52 cd_45_57 rfl ⟨by omega, by omega⟩ (fun n64 => ?_) (fun n64 => ?_)
          · exact absurd n64 (by decide)
          · refine r_inc (v := 1) cd_45_62 rfl rfl rfl (by omega) (L' := [aR 201, aC 11, aI 1]) rfl ?_
            refine r_goto cd_45_65 ?_
            refine r_ild cd_45_28 rfl rfl ?_
            refine r_aldC cd_45_29 rfl rfl ?_
            refine r_cget (v := aC 67) cd_45_30 rfl (rfl) ?_
            refine r_cI (c_378 67 (by decide) (by decide)) cd_45_33 rfl rfl rfl ⟨by decide, by decide⟩ rfl rfl rfl ?_
            refine RU.cast (pc2 := 36) (S2 := [aI 1, aI 1]) rfl rfl rfl ?_
            refine r_ic64 cd_45_36 rfl ⟨by omega, by omega⟩ ⟨by omega, by omega⟩ (fun n65 => ?_) (fun n65 => ?_)
            · exact absurd n65 (by decide)
            · refine r_aldR cd_45_68 rfl rfl ?_
              refine r_con (v := 5) cd_45_69 rfl (by decide) ?_
              refine r_cI ds cd_45_70 rfl rfl rfl (rc0 s1 rfl) rfl rfl rfl ?_
              refine r_if52 cd_45_73 rfl ⟨by omega, by omega⟩ (fun n66 => ?_) (fun n66 => ?_)
              · exact absurd n66 (by decide)
              · refine r_aldR cd_45_78 rfl rfl ?_
                refine r_get cd_45_79 rfl ss rfl ?_
                refine r_aldC cd_45_82 rfl rfl ?_
                refine r_aldR cd_45_83 rfl rfl ?_
                refine r_get cd_45_84 rfl ss rfl ?_
                refine r_con (v := 0) cd_45_87 rfl (by decide) ?_
                refine r_arr (i := 0) cd_45_88 rfl vs rfl (by omega) rfl ?_
                refine RU.cast (pc2 := 89) (S2 := [aI ((q1 : Nat) : Int), aC 11, aR 204]) rfl rfl rfl ?_
                refine r_aldR cd_45_89 rfl rfl ?_
                refine r_get cd_45_90 rfl ss rfl ?_
                refine r_con (v := 1) cd_45_93 rfl (by decide) ?_
                refine r_arr (i := 1) cd_45_94 rfl vs rfl (by omega) rfl ?_
                refine r_aldR cd_45_95 rfl rfl ?_
                refine r_get cd_45_96 rfl ss rfl ?_
                refine r_con (v := 3) cd_45_99 rfl (by decide) ?_
                refine r_arr (i := 3) cd_45_100 rfl vs rfl (by omega) rfl ?_
                refine r_cI (k_76_7 Rs hI.1 _ _ q1 (by omega)) cd_45_101 rfl rfl rfl (rc0 o204 rfl) rfl rfl rfl ?_
                refine r_if51b cd_45_104 rfl (fun n67 => ?_) (fun n67 => ?_)
                · refine r_aldR cd_45_113 rfl rfl ?_
                  refine r_get cd_45_114 rfl ss rfl ?_
                  refine r_aldC cd_45_117 rfl rfl ?_
                  refine r_aldR cd_45_118 rfl rfl ?_
                  refine r_get cd_45_119 rfl ss rfl ?_
                  refine r_con (v := 0) cd_45_122 rfl (by decide) ?_
                  refine r_arr (i := 0) cd_45_123 rfl vs rfl (by omega) rfl ?_
                  refine RU.cast (pc2 := 124) (S2 := [aI ((q1 : Nat) : Int), aC 11, aR 204]) rfl rfl rfl ?_
                  refine r_aldR cd_45_124 rfl rfl ?_
                  refine r_get cd_45_125 rfl ss rfl ?_
                  refine r_con (v := 1) cd_45_128 rfl (by decide) ?_
                  refine r_arr (i := 1) cd_45_129 rfl vs rfl (by omega) rfl ?_
                  refine r_aldR cd_45_130 rfl rfl ?_
                  refine r_get cd_45_131 rfl ss rfl ?_
                  refine r_con (v := 2) cd_45_134 rfl (by decide) ?_
                  refine r_arr (i := 2) cd_45_135 rfl vs rfl (by omega) rfl ?_
                  refine r_aldR cd_45_136 rfl rfl ?_
                  refine r_get cd_45_137 rfl ss rfl ?_
                  refine r_con (v := 3) cd_45_140 rfl (by decide) ?_
                  refine r_arr (i := 3) cd_45_141 rfl vs rfl (by omega) rfl ?_
                  refine r_cI dc cd_45_142 rfl rfl rfl (rc0 o204 rfl) rfl rfl rfl ?_
                  refine r_pop cd_45_145 rfl rfl ?_
                  refine r_aldR cd_45_146 rfl rfl ?_
                  refine r_dup cd_45_147 rfl rfl ?_
                  refine r_get cd_45_148 rfl sc rfl ?_
                  refine r_con (v := 1) cd_45_151 rfl (by decide) ?_
                  refine r_add (v := ex + 1) cd_45_152 rfl (by rfl) ?_
                  refine r_put (fs' := [aR 202, aR 204, aR 222, aR 223, aR 224, aI dp, aI (ex + 1), aI ek, aI eo]) cd_45_153 rfl sc rfl rfl ?_
                  refine r_con (v := 1) cd_45_156 rfl (by decide) ?_
                  exact r_ret cd_45_157 (Or.inr rfl) (rfl)
                · exact Bool.noConfusion (n67.symm.trans hr)
        · exact absurd n63 (by decide)
      · exact absurd n62 (by decide)
    · exact absurd n61 (by omega)
theorem v_45_8 {h : aH} {tx tb : Nat → Int} {N : Nat} (hN : N ≤ 600) (hT : ∀ k, k < N → BT (tx k) (tb k)) (dp ex ek eo : Int) (hS : h.2.2 201 = SO dp ex ek eo) (hx0 : 0 ≤ ex) (hx : ex < 200) {w : Nat → Int} (hR : Rp h 204 w) (hI : Inv w) {va : Nat → Int} (hV : h.2.2 222 = .inl (0, 4, .inl va)) (hb : TxB tx) (st kd vl : Int) (i : Nat) (hi : i ≤ N) (hO : h.2.2 202 = TO N st ((i : Nat) : Int) kd vl) (hB : h.2.2 203 = .inl (1, 600, .inl tb)) : CmdP 8 45 [aR 201, aC 12] h N dp ex ek eo (cLau tx N i w) := by
  have hbn := hI.1.bNe
  have hpn := hI.1.pNe
  have x0 := hI.1.len
  have x1 := hI.2.1
  have x1b := hI.1.hour
  have x4 := hI.1.gn
  have x5 := hI.1.bn
  have x6 := hI.1.pn
  have P1 := v_46_b0 hN hT dp ex ek eo hS hR hI.1 hV hb st kd vl i hi hO hB
  rcases hA1 : numA tx N i 0 (w 5 - 1) with e | ⟨q1, j1⟩
  · rw [hA1] at P1
    obtain ⟨g1, d1_, s1, t1, v1, m1⟩ := P1
    rw [show cLau tx N i w = .inl e from bnd_e hA1]
    refine ⟨g1, Ct.of [aR 201, aC 12, aU] rfl ?_, s1, t1, (m1.rp hR).ex, v1, NC.rf.tr m1.nc⟩
    refine r_aldC cd_45_0 rfl rfl ?_
    refine r_nnC cd_45_1 ⟨by decide, by decide⟩ ?_
    refine r_aldR cd_45_10 rfl rfl ?_
    refine r_get cd_45_11 rfl hS rfl ?_
    refine r_con (v := 200) cd_45_14 rfl (by decide) ?_
    refine r_ic63 cd_45_17 rfl ⟨by omega, by omega⟩ ⟨by omega, by omega⟩ (fun n61 => ?_) (fun n61 => ?_)
    · refine r_con (v := 0) cd_45_26 rfl (by decide) ?_
      refine r_ist cd_45_27 rfl rfl (L' := [aR 201, aC 12, aI 0]) rfl ?_
      refine r_ild cd_45_28 rfl rfl ?_
      refine r_aldC cd_45_29 rfl rfl ?_
      refine r_cget (v := aC 69) cd_45_30 rfl (rfl) ?_
      refine r_cI (c_378 69 (by decide) (by decide)) cd_45_33 rfl rfl rfl ⟨by decide, by decide⟩ rfl rfl rfl ?_
      refine RU.cast (pc2 := 36) (S2 := [aI 1, aI 0]) rfl rfl rfl ?_
      refine r_ic64 cd_45_36 rfl ⟨by omega, by omega⟩ ⟨by omega, by omega⟩ (fun n62 => ?_) (fun n62 => ?_)
      · refine r_ild cd_45_39 rfl rfl ?_
        refine r_con (v := 4) cd_45_40 rfl (by decide) ?_
        refine r_ic64 cd_45_41 rfl ⟨by omega, by omega⟩ ⟨by omega, by omega⟩ (fun n63 => ?_) (fun n63 => ?_)
        · refine r_aldR cd_45_44 rfl rfl ?_
          refine r_aldC cd_45_45 rfl rfl ?_
          refine r_cget (v := aC 69) cd_45_46 rfl (rfl) ?_
          refine r_ild cd_45_49 rfl rfl ?_
          refine r_cI (c_380 69 0 (by decide) (by decide) (by decide)) cd_45_50 rfl rfl rfl ⟨by decide, by decide⟩ rfl rfl rfl ?_
          refine RU.cast (pc2 := 53) (S2 := [aI 98, aR 201]) rfl rfl rfl ?_
          refine r_ild cd_45_53 rfl rfl ?_
          refine r_cI d1_ cd_45_54 rfl rfl rfl (rc0 hS rfl) rfl rfl rfl ?_
          refine r_if52 cd_45_57 rfl ⟨by omega, by omega⟩ (fun n64 => ?_) (fun n64 => ?_)
          · refine r_con (v := 0) cd_45_60 rfl (by decide) ?_
            exact r_ret cd_45_61 (Or.inl rfl) (rfl)
          · exact absurd n64 (by decide)
        · exact absurd n63 (by decide)
      · exact absurd n62 (by decide)
    · exact absurd n61 (by omega)
  · rw [hA1] at P1
    obtain ⟨g1, d1_, s1, ⟨st1, kd1, vl1, t1⟩, vv1, m1⟩ := P1
    have v1 : g1.2.2 222 = .inl (0, 4, .inl (va_up va 0 ((q1 : Nat) : Int))) := vv1
    have b1 : g1.2.2 203 = .inl (1, 600, .inl tb) := (m1.1 203 (by decide) (by decide) (by decide)).trans hB
    have R1 : Rp g1 204 w := m1.rp hR
    obtain ⟨z1a, z1b, z1c, z1j, -⟩ := numA_o hA1 (by decide)
    have i1 : j1 ≤ N := by rw [z1j]; exact (tPos hi).2
    have N1 : NC h g1 := NC.rf.tr m1.nc
    by_cases hk : tKnd tx N j1 = 1
    rotate_left
    · obtain ⟨gs, ds, ss, ts, ms⟩ := v_41_5b hN hT dp ex ek eo s1 st1 kd1 vl1 j1 i1 t1 b1 hk
      rw [show cLau tx N i w = .inl (1, ((tOff tx N j1 : Nat) : Int)) from (bnd_r hA1).trans (bnd_e (if_pos hk))]
      refine ⟨gs, Ct.of [aR 201, aC 12, aU] rfl ?_, ss, ts, (ms.rp R1).ex, ⟨_, (ms.1 222 (by decide) (by decide)).trans v1⟩, N1.tr ms.nc⟩
      refine r_aldC cd_45_0 rfl rfl ?_
      refine r_nnC cd_45_1 ⟨by decide, by decide⟩ ?_
      refine r_aldR cd_45_10 rfl rfl ?_
      refine r_get cd_45_11 rfl hS rfl ?_
      refine r_con (v := 200) cd_45_14 rfl (by decide) ?_
      refine r_ic63 cd_45_17 rfl ⟨by omega, by omega⟩ ⟨by omega, by omega⟩ (fun n61 => ?_) (fun n61 => ?_)
      · refine r_con (v := 0) cd_45_26 rfl (by decide) ?_
        refine r_ist cd_45_27 rfl rfl (L' := [aR 201, aC 12, aI 0]) rfl ?_
        refine r_ild cd_45_28 rfl rfl ?_
        refine r_aldC cd_45_29 rfl rfl ?_
        refine r_cget (v := aC 69) cd_45_30 rfl (rfl) ?_
        refine r_cI (c_378 69 (by decide) (by decide)) cd_45_33 rfl rfl rfl ⟨by decide, by decide⟩ rfl rfl rfl ?_
        refine RU.cast (pc2 := 36) (S2 := [aI 1, aI 0]) rfl rfl rfl ?_
        refine r_ic64 cd_45_36 rfl ⟨by omega, by omega⟩ ⟨by omega, by omega⟩ (fun n62 => ?_) (fun n62 => ?_)
        · refine r_ild cd_45_39 rfl rfl ?_
          refine r_con (v := 4) cd_45_40 rfl (by decide) ?_
          refine r_ic64 cd_45_41 rfl ⟨by omega, by omega⟩ ⟨by omega, by omega⟩ (fun n63 => ?_) (fun n63 => ?_)
          · refine r_aldR cd_45_44 rfl rfl ?_
            refine r_aldC cd_45_45 rfl rfl ?_
            refine r_cget (v := aC 69) cd_45_46 rfl (rfl) ?_
            refine r_ild cd_45_49 rfl rfl ?_
            refine r_cI (c_380 69 0 (by decide) (by decide) (by decide)) cd_45_50 rfl rfl rfl ⟨by decide, by decide⟩ rfl rfl rfl ?_
            refine RU.cast (pc2 := 53) (S2 := [aI 98, aR 201]) rfl rfl rfl ?_
            refine r_ild cd_45_53 rfl rfl ?_
            refine r_cI d1_ cd_45_54 rfl rfl rfl (rc0 hS rfl) rfl rfl rfl ?_
            refine r_if52 cd_45_57 rfl ⟨by omega, by omega⟩ (fun n64 => ?_) (fun n64 => ?_)
            · exact absurd n64 (by decide)
            · refine r_inc (v := 1) cd_45_62 rfl rfl rfl (by omega) (L' := [aR 201, aC 12, aI 1]) rfl ?_
              refine r_goto cd_45_65 ?_
              refine r_ild cd_45_28 rfl rfl ?_
              refine r_aldC cd_45_29 rfl rfl ?_
              refine r_cget (v := aC 69) cd_45_30 rfl (rfl) ?_
              refine r_cI (c_378 69 (by decide) (by decide)) cd_45_33 rfl rfl rfl ⟨by decide, by decide⟩ rfl rfl rfl ?_
              refine RU.cast (pc2 := 36) (S2 := [aI 1, aI 1]) rfl rfl rfl ?_
              refine r_ic64 cd_45_36 rfl ⟨by omega, by omega⟩ ⟨by omega, by omega⟩ (fun n65 => ?_) (fun n65 => ?_)
              · exact absurd n65 (by decide)
              · refine r_aldR cd_45_68 rfl rfl ?_
                refine r_con (v := 5) cd_45_69 rfl (by decide) ?_
                refine r_cI ds cd_45_70 rfl rfl rfl (rc0 s1 rfl) rfl rfl rfl ?_
                refine r_if52 cd_45_73 rfl ⟨by omega, by omega⟩ (fun n66 => ?_) (fun n66 => ?_)
                · refine r_con (v := 0) cd_45_76 rfl (by decide) ?_
                  exact r_ret cd_45_77 (Or.inl rfl) (rfl)
                · exact absurd n66 (by decide)
          · exact absurd n63 (by decide)
        · exact absurd n62 (by decide)
      · exact absurd n61 (by omega)
    obtain ⟨gs, ds, ss, ⟨kds, vls, ts⟩, ms⟩ := v_41_5a hN hT dp ex ek eo s1 st1 kd1 vl1 j1 i1 t1 b1 hk
    have Rs := ms.rp R1
    have vs : gs.2.2 222 = .inl (0, 4, .inl (va_up va 0 ((q1 : Nat) : Int))) := (ms.1 222 (by decide) (by decide)).trans v1
    have nk : ¬ ¬ tKnd tx N j1 = 1 := fun e => e hk
    obtain ⟨fs, o204⟩ := Rs.o
    by_cases hc : (decide (whyL w q1 = 0)) = true
    rotate_left
    · have hr : (!decide (whyL w q1 = 0)) = true := by rw [Bool.not_eq_true] at hc; rw [hc]; rfl
      rw [show cLau tx N i w = .inl (3, ((tOff tx N j1 : Nat) : Int)) from (bnd_r hA1).trans (bnd_e ((if_neg nk).trans (if_neg hc)))]
      refine ⟨sw gs 201 (SO dp ex 3 ((tOff tx N j1 : Nat) : Int)), Ct.of [aR 201, aC 12, aU] rfl ?_, sw_at _ _ _, ⟨_, _, _, _, (sw_ne (by decide)).trans ts⟩, (Rs.mv fun a h1 h2 => sw_ne (by omega)).ex, ⟨_, (sw_ne (by decide)).trans vs⟩, (N1.tr ms.nc).s⟩
      refine r_aldC cd_45_0 rfl rfl ?_
      refine r_nnC cd_45_1 ⟨by decide, by decide⟩ ?_
      refine r_aldR cd_45_10 rfl rfl ?_
      refine r_get cd_45_11 rfl hS rfl ?_
      refine r_con (v := 200) cd_45_14 rfl (by decide) ?_
      refine r_ic63 cd_45_17 rfl ⟨by omega, by omega⟩ ⟨by omega, by omega⟩ (fun n61 => ?_) (fun n61 => ?_)
      · refine r_con (v := 0) cd_45_26 rfl (by decide) ?_
        refine r_ist cd_45_27 rfl rfl (L' := [aR 201, aC 12, aI 0]) rfl ?_
        refine r_ild cd_45_28 rfl rfl ?_
        refine r_aldC cd_45_29 rfl rfl ?_
        refine r_cget (v := aC 69) cd_45_30 rfl (rfl) ?_
        refine r_cI (c_378 69 (by decide) (by decide)) cd_45_33 rfl rfl rfl ⟨by decide, by decide⟩ rfl rfl rfl ?_
        refine RU.cast (pc2 := 36) (S2 := [aI 1, aI 0]) rfl rfl rfl ?_
        refine r_ic64 cd_45_36 rfl ⟨by omega, by omega⟩ ⟨by omega, by omega⟩ (fun n62 => ?_) (fun n62 => ?_)
        · refine r_ild cd_45_39 rfl rfl ?_
          refine r_con (v := 4) cd_45_40 rfl (by decide) ?_
          refine r_ic64 cd_45_41 rfl ⟨by omega, by omega⟩ ⟨by omega, by omega⟩ (fun n63 => ?_) (fun n63 => ?_)
          · refine r_aldR cd_45_44 rfl rfl ?_
            refine r_aldC cd_45_45 rfl rfl ?_
            refine r_cget (v := aC 69) cd_45_46 rfl (rfl) ?_
            refine r_ild cd_45_49 rfl rfl ?_
            refine r_cI (c_380 69 0 (by decide) (by decide) (by decide)) cd_45_50 rfl rfl rfl ⟨by decide, by decide⟩ rfl rfl rfl ?_
            refine RU.cast (pc2 := 53) (S2 := [aI 98, aR 201]) rfl rfl rfl ?_
            refine r_ild cd_45_53 rfl rfl ?_
            refine r_cI d1_ cd_45_54 rfl rfl rfl (rc0 hS rfl) rfl rfl rfl ?_
            refine r_if52 cd_45_57 rfl ⟨by omega, by omega⟩ (fun n64 => ?_) (fun n64 => ?_)
            · exact absurd n64 (by decide)
            · refine r_inc (v := 1) cd_45_62 rfl rfl rfl (by omega) (L' := [aR 201, aC 12, aI 1]) rfl ?_
              refine r_goto cd_45_65 ?_
              refine r_ild cd_45_28 rfl rfl ?_
              refine r_aldC cd_45_29 rfl rfl ?_
              refine r_cget (v := aC 69) cd_45_30 rfl (rfl) ?_
              refine r_cI (c_378 69 (by decide) (by decide)) cd_45_33 rfl rfl rfl ⟨by decide, by decide⟩ rfl rfl rfl ?_
              refine RU.cast (pc2 := 36) (S2 := [aI 1, aI 1]) rfl rfl rfl ?_
              refine r_ic64 cd_45_36 rfl ⟨by omega, by omega⟩ ⟨by omega, by omega⟩ (fun n65 => ?_) (fun n65 => ?_)
              · exact absurd n65 (by decide)
              · refine r_aldR cd_45_68 rfl rfl ?_
                refine r_con (v := 5) cd_45_69 rfl (by decide) ?_
                refine r_cI ds cd_45_70 rfl rfl rfl (rc0 s1 rfl) rfl rfl rfl ?_
                refine r_if52 cd_45_73 rfl ⟨by omega, by omega⟩ (fun n66 => ?_) (fun n66 => ?_)
                · exact absurd n66 (by decide)
                · refine r_aldR cd_45_78 rfl rfl ?_
                  refine r_get cd_45_79 rfl ss rfl ?_
                  refine r_aldC cd_45_82 rfl rfl ?_
                  refine r_aldR cd_45_83 rfl rfl ?_
                  refine r_get cd_45_84 rfl ss rfl ?_
                  refine r_con (v := 0) cd_45_87 rfl (by decide) ?_
                  refine r_arr (i := 0) cd_45_88 rfl vs rfl (by omega) rfl ?_
                  refine RU.cast (pc2 := 89) (S2 := [aI ((q1 : Nat) : Int), aC 12, aR 204]) rfl rfl rfl ?_
                  refine r_aldR cd_45_89 rfl rfl ?_
                  refine r_get cd_45_90 rfl ss rfl ?_
                  refine r_con (v := 1) cd_45_93 rfl (by decide) ?_
                  refine r_arr (i := 1) cd_45_94 rfl vs rfl (by omega) rfl ?_
                  refine r_aldR cd_45_95 rfl rfl ?_
                  refine r_get cd_45_96 rfl ss rfl ?_
                  refine r_con (v := 3) cd_45_99 rfl (by decide) ?_
                  refine r_arr (i := 3) cd_45_100 rfl vs rfl (by omega) rfl ?_
                  refine r_cI (k_76_8 Rs hI.1 _ _ q1 (by omega)) cd_45_101 rfl rfl rfl (rc0 o204 rfl) rfl rfl rfl ?_
                  refine r_if51b cd_45_104 rfl (fun n67 => ?_) (fun n67 => ?_)
                  · exact Bool.noConfusion (n67.symm.trans hr)
                  · refine r_aldR cd_45_107 rfl rfl ?_
                    refine r_con (v := 3) cd_45_108 rfl (by decide) ?_
                    refine r_cI (k_36 dp ex ek eo ss N _ _ _ _ ts 3) cd_45_109 rfl rfl rfl (rc0 ss rfl) rfl rfl rfl ?_
                    exact r_ret cd_45_112 (Or.inl rfl) (rfl)
          · exact absurd n63 (by decide)
        · exact absurd n62 (by decide)
      · exact absurd n61 (by omega)
    have hr : (!decide (whyL w q1 = 0)) = false := by rw [hc]; rfl
    obtain ⟨gc, dc, Rc, Fc⟩ := v_84_8 (B := 204) Rs hI.1 q1 (by omega) ((va_up va 0 ((q1 : Nat) : Int)) 1) ((va_up va 0 ((q1 : Nat) : Int)) 2) ((va_up va 0 ((q1 : Nat) : Int)) 3)
    have sc := (Fc.1 201 (by decide)).trans ss
    have vc := (Fc.1 222 (by decide)).trans vs
    have tc := (Fc.1 202 (by decide)).trans ts
    rw [show cLau tx N i w = .inr (tEnd tx N j1, sbo w q1 3 1) from (bnd_r hA1).trans ((bnd_r ((if_neg nk).trans (if_pos hc))))]
    refine ⟨sw gc 201 (SO dp (ex + 1) ek eo), Ct.of [aR 201, aC 12, aU] rfl ?_, sw_at _ _ _, ⟨_, _, _, (sw_ne (by decide)).trans tc⟩, Rc.mv fun a h1 h2 => sw_ne (by omega), ⟨_, (sw_ne (by decide)).trans vc⟩, ((N1.tr ms.nc).tr Fc.nc).s⟩
    refine r_aldC cd_45_0 rfl rfl ?_
    refine r_nnC cd_45_1 ⟨by decide, by decide⟩ ?_
    refine r_aldR cd_45_10 rfl rfl ?_
    refine r_get cd_45_11 rfl hS rfl ?_
    refine r_con (v := 200) cd_45_14 rfl (by decide) ?_
    refine r_ic63 cd_45_17 rfl ⟨by omega, by omega⟩ ⟨by omega, by omega⟩ (fun n61 => ?_) (fun n61 => ?_)
    · refine r_con (v := 0) cd_45_26 rfl (by decide) ?_
      refine r_ist cd_45_27 rfl rfl (L' := [aR 201, aC 12, aI 0]) rfl ?_
      refine r_ild cd_45_28 rfl rfl ?_
      refine r_aldC cd_45_29 rfl rfl ?_
      refine r_cget (v := aC 69) cd_45_30 rfl (rfl) ?_
      refine r_cI (c_378 69 (by decide) (by decide)) cd_45_33 rfl rfl rfl ⟨by decide, by decide⟩ rfl rfl rfl ?_
      refine RU.cast (pc2 := 36) (S2 := [aI 1, aI 0]) rfl rfl rfl ?_
      refine r_ic64 cd_45_36 rfl ⟨by omega, by omega⟩ ⟨by omega, by omega⟩ (fun n62 => ?_) (fun n62 => ?_)
      · refine r_ild cd_45_39 rfl rfl ?_
        refine r_con (v := 4) cd_45_40 rfl (by decide) ?_
        refine r_ic64 cd_45_41 rfl ⟨by omega, by omega⟩ ⟨by omega, by omega⟩ (fun n63 => ?_) (fun n63 => ?_)
        · refine r_aldR cd_45_44 rfl rfl ?_
          refine r_aldC cd_45_45 rfl rfl ?_
          refine r_cget (v := aC 69) cd_45_46 rfl (rfl) ?_
          refine r_ild cd_45_49 rfl rfl ?_
          refine r_cI (c_380 69 0 (by decide) (by decide) (by decide)) cd_45_50 rfl rfl rfl ⟨by decide, by decide⟩ rfl rfl rfl ?_
          refine RU.cast (pc2 := 53) (S2 := [aI 98, aR 201]) rfl rfl rfl ?_
          refine r_ild cd_45_53 rfl rfl ?_
          refine r_cI d1_ cd_45_54 rfl rfl rfl (rc0 hS rfl) rfl rfl rfl ?_
          refine r_if52 cd_45_57 rfl ⟨by omega, by omega⟩ (fun n64 => ?_) (fun n64 => ?_)
          · exact absurd n64 (by decide)
          · refine r_inc (v := 1) cd_45_62 rfl rfl rfl (by omega) (L' := [aR 201, aC 12, aI 1]) rfl ?_
            refine r_goto cd_45_65 ?_
            refine r_ild cd_45_28 rfl rfl ?_
            refine r_aldC cd_45_29 rfl rfl ?_
            refine r_cget (v := aC 69) cd_45_30 rfl (rfl) ?_
            refine r_cI (c_378 69 (by decide) (by decide)) cd_45_33 rfl rfl rfl ⟨by decide, by decide⟩ rfl rfl rfl ?_
            refine RU.cast (pc2 := 36) (S2 := [aI 1, aI 1]) rfl rfl rfl ?_
            refine r_ic64 cd_45_36 rfl ⟨by omega, by omega⟩ ⟨by omega, by omega⟩ (fun n65 => ?_) (fun n65 => ?_)
            · exact absurd n65 (by decide)
            · refine r_aldR cd_45_68 rfl rfl ?_
              refine r_con (v := 5) cd_45_69 rfl (by decide) ?_
              refine r_cI ds cd_45_70 rfl rfl rfl (rc0 s1 rfl) rfl rfl rfl ?_
              refine r_if52 cd_45_73 rfl ⟨by omega, by omega⟩ (fun n66 => ?_) (fun n66 => ?_)
              · exact absurd n66 (by decide)
              · refine r_aldR cd_45_78 rfl rfl ?_
                refine r_get cd_45_79 rfl ss rfl ?_
                refine r_aldC cd_45_82 rfl rfl ?_
                refine r_aldR cd_45_83 rfl rfl ?_
                refine r_get cd_45_84 rfl ss rfl ?_
                refine r_con (v := 0) cd_45_87 rfl (by decide) ?_
                refine r_arr (i := 0) cd_45_88 rfl vs rfl (by omega) rfl ?_
                refine RU.cast (pc2 := 89) (S2 := [aI ((q1 : Nat) : Int), aC 12, aR 204]) rfl rfl rfl ?_
                refine r_aldR cd_45_89 rfl rfl ?_
                refine r_get cd_45_90 rfl ss rfl ?_
                refine r_con (v := 1) cd_45_93 rfl (by decide) ?_
                refine r_arr (i := 1) cd_45_94 rfl vs rfl (by omega) rfl ?_
                refine r_aldR cd_45_95 rfl rfl ?_
                refine r_get cd_45_96 rfl ss rfl ?_
                refine r_con (v := 3) cd_45_99 rfl (by decide) ?_
                refine r_arr (i := 3) cd_45_100 rfl vs rfl (by omega) rfl ?_
                refine r_cI (k_76_8 Rs hI.1 _ _ q1 (by omega)) cd_45_101 rfl rfl rfl (rc0 o204 rfl) rfl rfl rfl ?_
                refine r_if51b cd_45_104 rfl (fun n67 => ?_) (fun n67 => ?_)
                · refine r_aldR cd_45_113 rfl rfl ?_
                  refine r_get cd_45_114 rfl ss rfl ?_
                  refine r_aldC cd_45_117 rfl rfl ?_
                  refine r_aldR cd_45_118 rfl rfl ?_
                  refine r_get cd_45_119 rfl ss rfl ?_
                  refine r_con (v := 0) cd_45_122 rfl (by decide) ?_
                  refine r_arr (i := 0) cd_45_123 rfl vs rfl (by omega) rfl ?_
                  refine RU.cast (pc2 := 124) (S2 := [aI ((q1 : Nat) : Int), aC 12, aR 204]) rfl rfl rfl ?_
                  refine r_aldR cd_45_124 rfl rfl ?_
                  refine r_get cd_45_125 rfl ss rfl ?_
                  refine r_con (v := 1) cd_45_128 rfl (by decide) ?_
                  refine r_arr (i := 1) cd_45_129 rfl vs rfl (by omega) rfl ?_
                  refine r_aldR cd_45_130 rfl rfl ?_
                  refine r_get cd_45_131 rfl ss rfl ?_
                  refine r_con (v := 2) cd_45_134 rfl (by decide) ?_
                  refine r_arr (i := 2) cd_45_135 rfl vs rfl (by omega) rfl ?_
                  refine r_aldR cd_45_136 rfl rfl ?_
                  refine r_get cd_45_137 rfl ss rfl ?_
                  refine r_con (v := 3) cd_45_140 rfl (by decide) ?_
                  refine r_arr (i := 3) cd_45_141 rfl vs rfl (by omega) rfl ?_
                  refine r_cI dc cd_45_142 rfl rfl rfl (rc0 o204 rfl) rfl rfl rfl ?_
                  refine r_pop cd_45_145 rfl rfl ?_
                  refine r_aldR cd_45_146 rfl rfl ?_
                  refine r_dup cd_45_147 rfl rfl ?_
                  refine r_get cd_45_148 rfl sc rfl ?_
                  refine r_con (v := 1) cd_45_151 rfl (by decide) ?_
                  refine r_add (v := ex + 1) cd_45_152 rfl (by rfl) ?_
                  refine r_put (fs' := [aR 202, aR 204, aR 222, aR 223, aR 224, aI dp, aI (ex + 1), aI ek, aI eo]) cd_45_153 rfl sc rfl rfl ?_
                  refine r_con (v := 1) cd_45_156 rfl (by decide) ?_
                  exact r_ret cd_45_157 (Or.inr rfl) (rfl)
                · exact Bool.noConfusion (n67.symm.trans hr)
        · exact absurd n63 (by decide)
      · exact absurd n62 (by decide)
    · exact absurd n61 (by omega)
theorem v_45_9 {h : aH} {tx tb : Nat → Int} {N : Nat} (hN : N ≤ 600) (hT : ∀ k, k < N → BT (tx k) (tb k)) (dp ex ek eo : Int) (hS : h.2.2 201 = SO dp ex ek eo) (hx0 : 0 ≤ ex) (hx : ex < 200) {w : Nat → Int} (hR : Rp h 204 w) (hI : Inv w) {va : Nat → Int} (hV : h.2.2 222 = .inl (0, 4, .inl va)) (hb : TxB tx) (st kd vl : Int) (i : Nat) (hi : i ≤ N) (hO : h.2.2 202 = TO N st ((i : Nat) : Int) kd vl) (hB : h.2.2 203 = .inl (1, 600, .inl tb)) : CmdP 8 45 [aR 201, aC 13] h N dp ex ek eo (cMoo tx N i w) := by
  have hbn := hI.1.bNe
  have hpn := hI.1.pNe
  have x0 := hI.1.len
  have x1 := hI.2.1
  have x1b := hI.1.hour
  have x4 := hI.1.gn
  have x5 := hI.1.bn
  have x6 := hI.1.pn
  have P1 := v_46_b0 hN hT dp ex ek eo hS hR hI.1 hV hb st kd vl i hi hO hB
  rcases hA1 : numA tx N i 0 (w 5 - 1) with e | ⟨q1, j1⟩
  · rw [hA1] at P1
    obtain ⟨g1, d1_, s1, t1, v1, m1⟩ := P1
    rw [show cMoo tx N i w = .inl e from bnd_e hA1]
    refine ⟨g1, Ct.of [aR 201, aC 13, aU] rfl ?_, s1, t1, (m1.rp hR).ex, v1, NC.rf.tr m1.nc⟩
    refine r_aldC cd_45_0 rfl rfl ?_
    refine r_nnC cd_45_1 ⟨by decide, by decide⟩ ?_
    refine r_aldR cd_45_10 rfl rfl ?_
    refine r_get cd_45_11 rfl hS rfl ?_
    refine r_con (v := 200) cd_45_14 rfl (by decide) ?_
    refine r_ic63 cd_45_17 rfl ⟨by omega, by omega⟩ ⟨by omega, by omega⟩ (fun n61 => ?_) (fun n61 => ?_)
    · refine r_con (v := 0) cd_45_26 rfl (by decide) ?_
      refine r_ist cd_45_27 rfl rfl (L' := [aR 201, aC 13, aI 0]) rfl ?_
      refine r_ild cd_45_28 rfl rfl ?_
      refine r_aldC cd_45_29 rfl rfl ?_
      refine r_cget (v := aC 69) cd_45_30 rfl (rfl) ?_
      refine r_cI (c_378 69 (by decide) (by decide)) cd_45_33 rfl rfl rfl ⟨by decide, by decide⟩ rfl rfl rfl ?_
      refine RU.cast (pc2 := 36) (S2 := [aI 1, aI 0]) rfl rfl rfl ?_
      refine r_ic64 cd_45_36 rfl ⟨by omega, by omega⟩ ⟨by omega, by omega⟩ (fun n62 => ?_) (fun n62 => ?_)
      · refine r_ild cd_45_39 rfl rfl ?_
        refine r_con (v := 4) cd_45_40 rfl (by decide) ?_
        refine r_ic64 cd_45_41 rfl ⟨by omega, by omega⟩ ⟨by omega, by omega⟩ (fun n63 => ?_) (fun n63 => ?_)
        · refine r_aldR cd_45_44 rfl rfl ?_
          refine r_aldC cd_45_45 rfl rfl ?_
          refine r_cget (v := aC 69) cd_45_46 rfl (rfl) ?_
          refine r_ild cd_45_49 rfl rfl ?_
          refine r_cI (c_380 69 0 (by decide) (by decide) (by decide)) cd_45_50 rfl rfl rfl ⟨by decide, by decide⟩ rfl rfl rfl ?_
          refine RU.cast (pc2 := 53) (S2 := [aI 98, aR 201]) rfl rfl rfl ?_
          refine r_ild cd_45_53 rfl rfl ?_
          refine r_cI d1_ cd_45_54 rfl rfl rfl (rc0 hS rfl) rfl rfl rfl ?_
          refine r_if52 cd_45_57 rfl ⟨by omega, by omega⟩ (fun n64 => ?_) (fun n64 => ?_)
          · refine r_con (v := 0) cd_45_60 rfl (by decide) ?_
            exact r_ret cd_45_61 (Or.inl rfl) (rfl)
          · exact absurd n64 (by decide)
        · exact absurd n63 (by decide)
      · exact absurd n62 (by decide)
    · exact absurd n61 (by omega)
  · rw [hA1] at P1
    obtain ⟨g1, d1_, s1, ⟨st1, kd1, vl1, t1⟩, vv1, m1⟩ := P1
    have v1 : g1.2.2 222 = .inl (0, 4, .inl (va_up va 0 ((q1 : Nat) : Int))) := vv1
    have b1 : g1.2.2 203 = .inl (1, 600, .inl tb) := (m1.1 203 (by decide) (by decide) (by decide)).trans hB
    have R1 : Rp g1 204 w := m1.rp hR
    obtain ⟨z1a, z1b, z1c, z1j, -⟩ := numA_o hA1 (by decide)
    have i1 : j1 ≤ N := by rw [z1j]; exact (tPos hi).2
    have N1 : NC h g1 := NC.rf.tr m1.nc
    by_cases hk : tKnd tx N j1 = 1
    rotate_left
    · obtain ⟨gs, ds, ss, ts, ms⟩ := v_41_5b hN hT dp ex ek eo s1 st1 kd1 vl1 j1 i1 t1 b1 hk
      rw [show cMoo tx N i w = .inl (1, ((tOff tx N j1 : Nat) : Int)) from (bnd_r hA1).trans (bnd_e (if_pos hk))]
      refine ⟨gs, Ct.of [aR 201, aC 13, aU] rfl ?_, ss, ts, (ms.rp R1).ex, ⟨_, (ms.1 222 (by decide) (by decide)).trans v1⟩, N1.tr ms.nc⟩
      refine r_aldC cd_45_0 rfl rfl ?_
      refine r_nnC cd_45_1 ⟨by decide, by decide⟩ ?_
      refine r_aldR cd_45_10 rfl rfl ?_
      refine r_get cd_45_11 rfl hS rfl ?_
      refine r_con (v := 200) cd_45_14 rfl (by decide) ?_
      refine r_ic63 cd_45_17 rfl ⟨by omega, by omega⟩ ⟨by omega, by omega⟩ (fun n61 => ?_) (fun n61 => ?_)
      · refine r_con (v := 0) cd_45_26 rfl (by decide) ?_
        refine r_ist cd_45_27 rfl rfl (L' := [aR 201, aC 13, aI 0]) rfl ?_
        refine r_ild cd_45_28 rfl rfl ?_
        refine r_aldC cd_45_29 rfl rfl ?_
        refine r_cget (v := aC 69) cd_45_30 rfl (rfl) ?_
        refine r_cI (c_378 69 (by decide) (by decide)) cd_45_33 rfl rfl rfl ⟨by decide, by decide⟩ rfl rfl rfl ?_
        refine RU.cast (pc2 := 36) (S2 := [aI 1, aI 0]) rfl rfl rfl ?_
        refine r_ic64 cd_45_36 rfl ⟨by omega, by omega⟩ ⟨by omega, by omega⟩ (fun n62 => ?_) (fun n62 => ?_)
        · refine r_ild cd_45_39 rfl rfl ?_
          refine r_con (v := 4) cd_45_40 rfl (by decide) ?_
          refine r_ic64 cd_45_41 rfl ⟨by omega, by omega⟩ ⟨by omega, by omega⟩ (fun n63 => ?_) (fun n63 => ?_)
          · refine r_aldR cd_45_44 rfl rfl ?_
            refine r_aldC cd_45_45 rfl rfl ?_
            refine r_cget (v := aC 69) cd_45_46 rfl (rfl) ?_
            refine r_ild cd_45_49 rfl rfl ?_
            refine r_cI (c_380 69 0 (by decide) (by decide) (by decide)) cd_45_50 rfl rfl rfl ⟨by decide, by decide⟩ rfl rfl rfl ?_
            refine RU.cast (pc2 := 53) (S2 := [aI 98, aR 201]) rfl rfl rfl ?_
            refine r_ild cd_45_53 rfl rfl ?_
            refine r_cI d1_ cd_45_54 rfl rfl rfl (rc0 hS rfl) rfl rfl rfl ?_
            refine r_if52 cd_45_57 rfl ⟨by omega, by omega⟩ (fun n64 => ?_) (fun n64 => ?_)
            · exact absurd n64 (by decide)
            · refine r_inc (v := 1) cd_45_62 rfl rfl rfl (by omega) (L' := [aR 201, aC 13, aI 1]) rfl ?_
              refine r_goto cd_45_65 ?_
              refine r_ild cd_45_28 rfl rfl ?_
              refine r_aldC cd_45_29 rfl rfl ?_
              refine r_cget (v := aC 69) cd_45_30 rfl (rfl) ?_
              refine r_cI (c_378 69 (by decide) (by decide)) cd_45_33 rfl rfl rfl ⟨by decide, by decide⟩ rfl rfl rfl ?_
              refine RU.cast (pc2 := 36) (S2 := [aI 1, aI 1]) rfl rfl rfl ?_
              refine r_ic64 cd_45_36 rfl ⟨by omega, by omega⟩ ⟨by omega, by omega⟩ (fun n65 => ?_) (fun n65 => ?_)
              · exact absurd n65 (by decide)
              · refine r_aldR cd_45_68 rfl rfl ?_
                refine r_con (v := 5) cd_45_69 rfl (by decide) ?_
                refine r_cI ds cd_45_70 rfl rfl rfl (rc0 s1 rfl) rfl rfl rfl ?_
                refine r_if52 cd_45_73 rfl ⟨by omega, by omega⟩ (fun n66 => ?_) (fun n66 => ?_)
                · refine r_con (v := 0) cd_45_76 rfl (by decide) ?_
                  exact r_ret cd_45_77 (Or.inl rfl) (rfl)
                · exact absurd n66 (by decide)
          · exact absurd n63 (by decide)
        · exact absurd n62 (by decide)
      · exact absurd n61 (by omega)
    obtain ⟨gs, ds, ss, ⟨kds, vls, ts⟩, ms⟩ := v_41_5a hN hT dp ex ek eo s1 st1 kd1 vl1 j1 i1 t1 b1 hk
    have Rs := ms.rp R1
    have vs : gs.2.2 222 = .inl (0, 4, .inl (va_up va 0 ((q1 : Nat) : Int))) := (ms.1 222 (by decide) (by decide)).trans v1
    have nk : ¬ ¬ tKnd tx N j1 = 1 := fun e => e hk
    obtain ⟨fs, o204⟩ := Rs.o
    by_cases hc : (decide (bo w q1 3 = 1)) = true
    rotate_left
    · have hr : (!decide (bo w q1 3 = 1)) = true := by rw [Bool.not_eq_true] at hc; rw [hc]; rfl
      rw [show cMoo tx N i w = .inl (3, ((tOff tx N j1 : Nat) : Int)) from (bnd_r hA1).trans (bnd_e ((if_neg nk).trans (if_neg hc)))]
      refine ⟨sw gs 201 (SO dp ex 3 ((tOff tx N j1 : Nat) : Int)), Ct.of [aR 201, aC 13, aU] rfl ?_, sw_at _ _ _, ⟨_, _, _, _, (sw_ne (by decide)).trans ts⟩, (Rs.mv fun a h1 h2 => sw_ne (by omega)).ex, ⟨_, (sw_ne (by decide)).trans vs⟩, (N1.tr ms.nc).s⟩
      refine r_aldC cd_45_0 rfl rfl ?_
      refine r_nnC cd_45_1 ⟨by decide, by decide⟩ ?_
      refine r_aldR cd_45_10 rfl rfl ?_
      refine r_get cd_45_11 rfl hS rfl ?_
      refine r_con (v := 200) cd_45_14 rfl (by decide) ?_
      refine r_ic63 cd_45_17 rfl ⟨by omega, by omega⟩ ⟨by omega, by omega⟩ (fun n61 => ?_) (fun n61 => ?_)
      · refine r_con (v := 0) cd_45_26 rfl (by decide) ?_
        refine r_ist cd_45_27 rfl rfl (L' := [aR 201, aC 13, aI 0]) rfl ?_
        refine r_ild cd_45_28 rfl rfl ?_
        refine r_aldC cd_45_29 rfl rfl ?_
        refine r_cget (v := aC 69) cd_45_30 rfl (rfl) ?_
        refine r_cI (c_378 69 (by decide) (by decide)) cd_45_33 rfl rfl rfl ⟨by decide, by decide⟩ rfl rfl rfl ?_
        refine RU.cast (pc2 := 36) (S2 := [aI 1, aI 0]) rfl rfl rfl ?_
        refine r_ic64 cd_45_36 rfl ⟨by omega, by omega⟩ ⟨by omega, by omega⟩ (fun n62 => ?_) (fun n62 => ?_)
        · refine r_ild cd_45_39 rfl rfl ?_
          refine r_con (v := 4) cd_45_40 rfl (by decide) ?_
          refine r_ic64 cd_45_41 rfl ⟨by omega, by omega⟩ ⟨by omega, by omega⟩ (fun n63 => ?_) (fun n63 => ?_)
          · refine r_aldR cd_45_44 rfl rfl ?_
            refine r_aldC cd_45_45 rfl rfl ?_
            refine r_cget (v := aC 69) cd_45_46 rfl (rfl) ?_
            refine r_ild cd_45_49 rfl rfl ?_
            refine r_cI (c_380 69 0 (by decide) (by decide) (by decide)) cd_45_50 rfl rfl rfl ⟨by decide, by decide⟩ rfl rfl rfl ?_
            refine RU.cast (pc2 := 53) (S2 := [aI 98, aR 201]) rfl rfl rfl ?_
            refine r_ild cd_45_53 rfl rfl ?_
            refine r_cI d1_ cd_45_54 rfl rfl rfl (rc0 hS rfl) rfl rfl rfl ?_
            refine r_if52 cd_45_57 rfl ⟨by omega, by omega⟩ (fun n64 => ?_) (fun n64 => ?_)
            · exact absurd n64 (by decide)
            · refine r_inc (v := 1) cd_45_62 rfl rfl rfl (by omega) (L' := [aR 201, aC 13, aI 1]) rfl ?_
              refine r_goto cd_45_65 ?_
              refine r_ild cd_45_28 rfl rfl ?_
              refine r_aldC cd_45_29 rfl rfl ?_
              refine r_cget (v := aC 69) cd_45_30 rfl (rfl) ?_
              refine r_cI (c_378 69 (by decide) (by decide)) cd_45_33 rfl rfl rfl ⟨by decide, by decide⟩ rfl rfl rfl ?_
              refine RU.cast (pc2 := 36) (S2 := [aI 1, aI 1]) rfl rfl rfl ?_
              refine r_ic64 cd_45_36 rfl ⟨by omega, by omega⟩ ⟨by omega, by omega⟩ (fun n65 => ?_) (fun n65 => ?_)
              · exact absurd n65 (by decide)
              · refine r_aldR cd_45_68 rfl rfl ?_
                refine r_con (v := 5) cd_45_69 rfl (by decide) ?_
                refine r_cI ds cd_45_70 rfl rfl rfl (rc0 s1 rfl) rfl rfl rfl ?_
                refine r_if52 cd_45_73 rfl ⟨by omega, by omega⟩ (fun n66 => ?_) (fun n66 => ?_)
                · exact absurd n66 (by decide)
                · refine r_aldR cd_45_78 rfl rfl ?_
                  refine r_get cd_45_79 rfl ss rfl ?_
                  refine r_aldC cd_45_82 rfl rfl ?_
                  refine r_aldR cd_45_83 rfl rfl ?_
                  refine r_get cd_45_84 rfl ss rfl ?_
                  refine r_con (v := 0) cd_45_87 rfl (by decide) ?_
                  refine r_arr (i := 0) cd_45_88 rfl vs rfl (by omega) rfl ?_
                  refine RU.cast (pc2 := 89) (S2 := [aI ((q1 : Nat) : Int), aC 13, aR 204]) rfl rfl rfl ?_
                  refine r_aldR cd_45_89 rfl rfl ?_
                  refine r_get cd_45_90 rfl ss rfl ?_
                  refine r_con (v := 1) cd_45_93 rfl (by decide) ?_
                  refine r_arr (i := 1) cd_45_94 rfl vs rfl (by omega) rfl ?_
                  refine r_aldR cd_45_95 rfl rfl ?_
                  refine r_get cd_45_96 rfl ss rfl ?_
                  refine r_con (v := 3) cd_45_99 rfl (by decide) ?_
                  refine r_arr (i := 3) cd_45_100 rfl vs rfl (by omega) rfl ?_
                  refine r_cI (k_76_9 Rs hI.1 _ _ q1 (by omega)) cd_45_101 rfl rfl rfl (rc0 o204 rfl) rfl rfl rfl ?_
                  refine r_if51b cd_45_104 rfl (fun n67 => ?_) (fun n67 => ?_)
                  · exact Bool.noConfusion (n67.symm.trans hr)
                  · refine r_aldR cd_45_107 rfl rfl ?_
                    refine r_con (v := 3) cd_45_108 rfl (by decide) ?_
                    refine r_cI (k_36 dp ex ek eo ss N _ _ _ _ ts 3) cd_45_109 rfl rfl rfl (rc0 ss rfl) rfl rfl rfl ?_
                    exact r_ret cd_45_112 (Or.inl rfl) (rfl)
          · exact absurd n63 (by decide)
        · exact absurd n62 (by decide)
      · exact absurd n61 (by omega)
    have hr : (!decide (bo w q1 3 = 1)) = false := by rw [hc]; rfl
    obtain ⟨gc, dc, Rc, Fc⟩ := v_84_9 (B := 204) Rs hI.1 q1 (by omega) ((va_up va 0 ((q1 : Nat) : Int)) 1) ((va_up va 0 ((q1 : Nat) : Int)) 2) ((va_up va 0 ((q1 : Nat) : Int)) 3)
    have sc := (Fc.1 201 (by decide)).trans ss
    have vc := (Fc.1 222 (by decide)).trans vs
    have tc := (Fc.1 202 (by decide)).trans ts
    rw [show cMoo tx N i w = .inr (tEnd tx N j1, sbo w q1 3 0) from (bnd_r hA1).trans ((bnd_r ((if_neg nk).trans (if_pos hc))))]
    refine ⟨sw gc 201 (SO dp (ex + 1) ek eo), Ct.of [aR 201, aC 13, aU] rfl ?_, sw_at _ _ _, ⟨_, _, _, (sw_ne (by decide)).trans tc⟩, Rc.mv fun a h1 h2 => sw_ne (by omega), ⟨_, (sw_ne (by decide)).trans vc⟩, ((N1.tr ms.nc).tr Fc.nc).s⟩
    refine r_aldC cd_45_0 rfl rfl ?_
    refine r_nnC cd_45_1 ⟨by decide, by decide⟩ ?_
    refine r_aldR cd_45_10 rfl rfl ?_
    refine r_get cd_45_11 rfl hS rfl ?_
    refine r_con (v := 200) cd_45_14 rfl (by decide) ?_
    refine r_ic63 cd_45_17 rfl ⟨by omega, by omega⟩ ⟨by omega, by omega⟩ (fun n61 => ?_) (fun n61 => ?_)
    · refine r_con (v := 0) cd_45_26 rfl (by decide) ?_
      refine r_ist cd_45_27 rfl rfl (L' := [aR 201, aC 13, aI 0]) rfl ?_
      refine r_ild cd_45_28 rfl rfl ?_
      refine r_aldC cd_45_29 rfl rfl ?_
      refine r_cget (v := aC 69) cd_45_30 rfl (rfl) ?_
      refine r_cI (c_378 69 (by decide) (by decide)) cd_45_33 rfl rfl rfl ⟨by decide, by decide⟩ rfl rfl rfl ?_
      refine RU.cast (pc2 := 36) (S2 := [aI 1, aI 0]) rfl rfl rfl ?_
      refine r_ic64 cd_45_36 rfl ⟨by omega, by omega⟩ ⟨by omega, by omega⟩ (fun n62 => ?_) (fun n62 => ?_)
      · refine r_ild cd_45_39 rfl rfl ?_
        refine r_con (v := 4) cd_45_40 rfl (by decide) ?_
        refine r_ic64 cd_45_41 rfl ⟨by omega, by omega⟩ ⟨by omega, by omega⟩ (fun n63 => ?_) (fun n63 => ?_)
        · refine r_aldR cd_45_44 rfl rfl ?_
          refine r_aldC cd_45_45 rfl rfl ?_
          refine r_cget (v := aC 69) cd_45_46 rfl (rfl) ?_
          refine r_ild cd_45_49 rfl rfl ?_
          refine r_cI (c_380 69 0 (by decide) (by decide) (by decide)) cd_45_50 rfl rfl rfl ⟨by decide, by decide⟩ rfl rfl rfl ?_
          refine RU.cast (pc2 := 53) (S2 := [aI 98, aR 201]) rfl rfl rfl ?_
          refine r_ild cd_45_53 rfl rfl ?_
          refine r_cI d1_ cd_45_54 rfl rfl rfl (rc0 hS rfl) rfl rfl rfl ?_
          refine r_if52 cd_45_57 rfl ⟨by omega, by omega⟩ (fun n64 => ?_) (fun n64 => ?_)
          · exact absurd n64 (by decide)
          · refine r_inc (v := 1) cd_45_62 rfl rfl rfl (by omega) (L' := [aR 201, aC 13, aI 1]) rfl ?_
            refine r_goto cd_45_65 ?_
            refine r_ild cd_45_28 rfl rfl ?_
            refine r_aldC cd_45_29 rfl rfl ?_
            refine r_cget (v := aC 69) cd_45_30 rfl (rfl) ?_
            refine r_cI (c_378 69 (by decide) (by decide)) cd_45_33 rfl rfl rfl ⟨by decide, by decide⟩ rfl rfl rfl ?_
            refine RU.cast (pc2 := 36) (S2 := [aI 1, aI 1]) rfl rfl rfl ?_
            refine r_ic64 cd_45_36 rfl ⟨by omega, by omega⟩ ⟨by omega, by omega⟩ (fun n65 => ?_) (fun n65 => ?_)
            · exact absurd n65 (by decide)
            · refine r_aldR cd_45_68 rfl rfl ?_
              refine r_con (v := 5) cd_45_69 rfl (by decide) ?_
              refine r_cI ds cd_45_70 rfl rfl rfl (rc0 s1 rfl) rfl rfl rfl ?_
              refine r_if52 cd_45_73 rfl ⟨by omega, by omega⟩ (fun n66 => ?_) (fun n66 => ?_)
              · exact absurd n66 (by decide)
              · refine r_aldR cd_45_78 rfl rfl ?_
                refine r_get cd_45_79 rfl ss rfl ?_
                refine r_aldC cd_45_82 rfl rfl ?_
                refine r_aldR cd_45_83 rfl rfl ?_
                refine r_get cd_45_84 rfl ss rfl ?_
                refine r_con (v := 0) cd_45_87 rfl (by decide) ?_
                refine r_arr (i := 0) cd_45_88 rfl vs rfl (by omega) rfl ?_
                refine RU.cast (pc2 := 89) (S2 := [aI ((q1 : Nat) : Int), aC 13, aR 204]) rfl rfl rfl ?_
                refine r_aldR cd_45_89 rfl rfl ?_
                refine r_get cd_45_90 rfl ss rfl ?_
                refine r_con (v := 1) cd_45_93 rfl (by decide) ?_
                refine r_arr (i := 1) cd_45_94 rfl vs rfl (by omega) rfl ?_
                refine r_aldR cd_45_95 rfl rfl ?_
                refine r_get cd_45_96 rfl ss rfl ?_
                refine r_con (v := 3) cd_45_99 rfl (by decide) ?_
                refine r_arr (i := 3) cd_45_100 rfl vs rfl (by omega) rfl ?_
                refine r_cI (k_76_9 Rs hI.1 _ _ q1 (by omega)) cd_45_101 rfl rfl rfl (rc0 o204 rfl) rfl rfl rfl ?_
                refine r_if51b cd_45_104 rfl (fun n67 => ?_) (fun n67 => ?_)
                · refine r_aldR cd_45_113 rfl rfl ?_
                  refine r_get cd_45_114 rfl ss rfl ?_
                  refine r_aldC cd_45_117 rfl rfl ?_
                  refine r_aldR cd_45_118 rfl rfl ?_
                  refine r_get cd_45_119 rfl ss rfl ?_
                  refine r_con (v := 0) cd_45_122 rfl (by decide) ?_
                  refine r_arr (i := 0) cd_45_123 rfl vs rfl (by omega) rfl ?_
                  refine RU.cast (pc2 := 124) (S2 := [aI ((q1 : Nat) : Int), aC 13, aR 204]) rfl rfl rfl ?_
                  refine r_aldR cd_45_124 rfl rfl ?_
                  refine r_get cd_45_125 rfl ss rfl ?_
                  refine r_con (v := 1) cd_45_128 rfl (by decide) ?_
                  refine r_arr (i := 1) cd_45_129 rfl vs rfl (by omega) rfl ?_
                  refine r_aldR cd_45_130 rfl rfl ?_
                  refine r_get cd_45_131 rfl ss rfl ?_
                  refine r_con (v := 2) cd_45_134 rfl (by decide) ?_
                  refine r_arr (i := 2) cd_45_135 rfl vs rfl (by omega) rfl ?_
                  refine r_aldR cd_45_136 rfl rfl ?_
                  refine r_get cd_45_137 rfl ss rfl ?_
                  refine r_con (v := 3) cd_45_140 rfl (by decide) ?_
                  refine r_arr (i := 3) cd_45_141 rfl vs rfl (by omega) rfl ?_
                  refine r_cI dc cd_45_142 rfl rfl rfl (rc0 o204 rfl) rfl rfl rfl ?_
                  refine r_pop cd_45_145 rfl rfl ?_
                  refine r_aldR cd_45_146 rfl rfl ?_
                  refine r_dup cd_45_147 rfl rfl ?_
                  refine r_get cd_45_148 rfl sc rfl ?_
                  refine r_con (v := 1) cd_45_151 rfl (by decide) ?_
                  refine r_add (v := ex + 1) cd_45_152 rfl (by rfl) ?_
                  refine r_put (fs' := [aR 202, aR 204, aR 222, aR 223, aR 224, aI dp, aI (ex + 1), aI ek, aI eo]) cd_45_153 rfl sc rfl rfl ?_
                  refine r_con (v := 1) cd_45_156 rfl (by decide) ?_
                  exact r_ret cd_45_157 (Or.inr rfl) (rfl)
                · exact Bool.noConfusion (n67.symm.trans hr)
        · exact absurd n63 (by decide)
      · exact absurd n62 (by decide)
    · exact absurd n61 (by omega)
theorem v_45_10 {h : aH} {tx tb : Nat → Int} {N : Nat} (hN : N ≤ 600) (hT : ∀ k, k < N → BT (tx k) (tb k)) (dp ex ek eo : Int) (hS : h.2.2 201 = SO dp ex ek eo) (hx0 : 0 ≤ ex) (hx : ex < 200) {w : Nat → Int} (hR : Rp h 204 w) (hI : Inv w) {va : Nat → Int} (hV : h.2.2 222 = .inl (0, 4, .inl va)) (hb : TxB tx) (st kd vl : Int) (i : Nat) (hi : i ≤ N) (hO : h.2.2 202 = TO N st ((i : Nat) : Int) kd vl) (hB : h.2.2 203 = .inl (1, 600, .inl tb)) : CmdP 8 45 [aR 201, aC 14] h N dp ex ek eo (cFre tx N i w) := by
  have hbn := hI.1.bNe
  have hpn := hI.1.pNe
  have x0 := hI.1.len
  have x1 := hI.2.1
  have x1b := hI.1.hour
  have x4 := hI.1.gn
  have x5 := hI.1.bn
  have x6 := hI.1.pn
  have P1 := v_46_b0 hN hT dp ex ek eo hS hR hI.1 hV hb st kd vl i hi hO hB
  rcases hA1 : numA tx N i 0 (w 5 - 1) with e | ⟨q1, j1⟩
  · rw [hA1] at P1
    obtain ⟨g1, d1_, s1, t1, v1, m1⟩ := P1
    rw [show cFre tx N i w = .inl e from bnd_e hA1]
    refine ⟨g1, Ct.of [aR 201, aC 14, aU] rfl ?_, s1, t1, (m1.rp hR).ex, v1, NC.rf.tr m1.nc⟩
    refine r_aldC cd_45_0 rfl rfl ?_
    refine r_nnC cd_45_1 ⟨by decide, by decide⟩ ?_
    refine r_aldR cd_45_10 rfl rfl ?_
    refine r_get cd_45_11 rfl hS rfl ?_
    refine r_con (v := 200) cd_45_14 rfl (by decide) ?_
    refine r_ic63 cd_45_17 rfl ⟨by omega, by omega⟩ ⟨by omega, by omega⟩ (fun n61 => ?_) (fun n61 => ?_)
    · refine r_con (v := 0) cd_45_26 rfl (by decide) ?_
      refine r_ist cd_45_27 rfl rfl (L' := [aR 201, aC 14, aI 0]) rfl ?_
      refine r_ild cd_45_28 rfl rfl ?_
      refine r_aldC cd_45_29 rfl rfl ?_
      refine r_cget (v := aC 69) cd_45_30 rfl (rfl) ?_
      refine r_cI (c_378 69 (by decide) (by decide)) cd_45_33 rfl rfl rfl ⟨by decide, by decide⟩ rfl rfl rfl ?_
      refine RU.cast (pc2 := 36) (S2 := [aI 1, aI 0]) rfl rfl rfl ?_
      refine r_ic64 cd_45_36 rfl ⟨by omega, by omega⟩ ⟨by omega, by omega⟩ (fun n62 => ?_) (fun n62 => ?_)
      · refine r_ild cd_45_39 rfl rfl ?_
        refine r_con (v := 4) cd_45_40 rfl (by decide) ?_
        refine r_ic64 cd_45_41 rfl ⟨by omega, by omega⟩ ⟨by omega, by omega⟩ (fun n63 => ?_) (fun n63 => ?_)
        · refine r_aldR cd_45_44 rfl rfl ?_
          refine r_aldC cd_45_45 rfl rfl ?_
          refine r_cget (v := aC 69) cd_45_46 rfl (rfl) ?_
          refine r_ild cd_45_49 rfl rfl ?_
          refine r_cI (c_380 69 0 (by decide) (by decide) (by decide)) cd_45_50 rfl rfl rfl ⟨by decide, by decide⟩ rfl rfl rfl ?_
          refine RU.cast (pc2 := 53) (S2 := [aI 98, aR 201]) rfl rfl rfl ?_
          refine r_ild cd_45_53 rfl rfl ?_
          refine r_cI d1_ cd_45_54 rfl rfl rfl (rc0 hS rfl) rfl rfl rfl ?_
          refine r_if52 cd_45_57 rfl ⟨by omega, by omega⟩ (fun n64 => ?_) (fun n64 => ?_)
          · refine r_con (v := 0) cd_45_60 rfl (by decide) ?_
            exact r_ret cd_45_61 (Or.inl rfl) (rfl)
          · exact absurd n64 (by decide)
        · exact absurd n63 (by decide)
      · exact absurd n62 (by decide)
    · exact absurd n61 (by omega)
  · rw [hA1] at P1
    obtain ⟨g1, d1_, s1, ⟨st1, kd1, vl1, t1⟩, vv1, m1⟩ := P1
    have v1 : g1.2.2 222 = .inl (0, 4, .inl (va_up va 0 ((q1 : Nat) : Int))) := vv1
    have b1 : g1.2.2 203 = .inl (1, 600, .inl tb) := (m1.1 203 (by decide) (by decide) (by decide)).trans hB
    have R1 : Rp g1 204 w := m1.rp hR
    obtain ⟨z1a, z1b, z1c, z1j, -⟩ := numA_o hA1 (by decide)
    have i1 : j1 ≤ N := by rw [z1j]; exact (tPos hi).2
    have N1 : NC h g1 := NC.rf.tr m1.nc
    by_cases hk : tKnd tx N j1 = 1
    rotate_left
    · obtain ⟨gs, ds, ss, ts, ms⟩ := v_41_5b hN hT dp ex ek eo s1 st1 kd1 vl1 j1 i1 t1 b1 hk
      rw [show cFre tx N i w = .inl (1, ((tOff tx N j1 : Nat) : Int)) from (bnd_r hA1).trans (bnd_e (if_pos hk))]
      refine ⟨gs, Ct.of [aR 201, aC 14, aU] rfl ?_, ss, ts, (ms.rp R1).ex, ⟨_, (ms.1 222 (by decide) (by decide)).trans v1⟩, N1.tr ms.nc⟩
      refine r_aldC cd_45_0 rfl rfl ?_
      refine r_nnC cd_45_1 ⟨by decide, by decide⟩ ?_
      refine r_aldR cd_45_10 rfl rfl ?_
      refine r_get cd_45_11 rfl hS rfl ?_
      refine r_con (v := 200) cd_45_14 rfl (by decide) ?_
      refine r_ic63 cd_45_17 rfl ⟨by omega, by omega⟩ ⟨by omega, by omega⟩ (fun n61 => ?_) (fun n61 => ?_)
      · refine r_con (v := 0) cd_45_26 rfl (by decide) ?_
        refine r_ist cd_45_27 rfl rfl (L' := [aR 201, aC 14, aI 0]) rfl ?_
        refine r_ild cd_45_28 rfl rfl ?_
        refine r_aldC cd_45_29 rfl rfl ?_
        refine r_cget (v := aC 69) cd_45_30 rfl (rfl) ?_
        refine r_cI (c_378 69 (by decide) (by decide)) cd_45_33 rfl rfl rfl ⟨by decide, by decide⟩ rfl rfl rfl ?_
        refine RU.cast (pc2 := 36) (S2 := [aI 1, aI 0]) rfl rfl rfl ?_
        refine r_ic64 cd_45_36 rfl ⟨by omega, by omega⟩ ⟨by omega, by omega⟩ (fun n62 => ?_) (fun n62 => ?_)
        · refine r_ild cd_45_39 rfl rfl ?_
          refine r_con (v := 4) cd_45_40 rfl (by decide) ?_
          refine r_ic64 cd_45_41 rfl ⟨by omega, by omega⟩ ⟨by omega, by omega⟩ (fun n63 => ?_) (fun n63 => ?_)
          · refine r_aldR cd_45_44 rfl rfl ?_
            refine r_aldC cd_45_45 rfl rfl ?_
            refine r_cget (v := aC 69) cd_45_46 rfl (rfl) ?_
            refine r_ild cd_45_49 rfl rfl ?_
            refine r_cI (c_380 69 0 (by decide) (by decide) (by decide)) cd_45_50 rfl rfl rfl ⟨by decide, by decide⟩ rfl rfl rfl ?_
            refine RU.cast (pc2 := 53) (S2 := [aI 98, aR 201]) rfl rfl rfl ?_
            refine r_ild cd_45_53 rfl rfl ?_
            refine r_cI d1_ cd_45_54 rfl rfl rfl (rc0 hS rfl) rfl rfl rfl ?_
            refine r_if52 cd_45_57 rfl ⟨by omega, by omega⟩ (fun n64 => ?_) (fun n64 => ?_)
            · exact absurd n64 (by decide)
            · refine r_inc (v := 1) cd_45_62 rfl rfl rfl (by omega) (L' := [aR 201, aC 14, aI 1]) rfl ?_
              refine r_goto cd_45_65 ?_
              refine r_ild cd_45_28 rfl rfl ?_
              refine r_aldC cd_45_29 rfl rfl ?_
              refine r_cget (v := aC 69) cd_45_30 rfl (rfl) ?_
              refine r_cI (c_378 69 (by decide) (by decide)) cd_45_33 rfl rfl rfl ⟨by decide, by decide⟩ rfl rfl rfl ?_
              refine RU.cast (pc2 := 36) (S2 := [aI 1, aI 1]) rfl rfl rfl ?_
              refine r_ic64 cd_45_36 rfl ⟨by omega, by omega⟩ ⟨by omega, by omega⟩ (fun n65 => ?_) (fun n65 => ?_)
              · exact absurd n65 (by decide)
              · refine r_aldR cd_45_68 rfl rfl ?_
                refine r_con (v := 5) cd_45_69 rfl (by decide) ?_
                refine r_cI ds cd_45_70 rfl rfl rfl (rc0 s1 rfl) rfl rfl rfl ?_
                refine r_if52 cd_45_73 rfl ⟨by omega, by omega⟩ (fun n66 => ?_) (fun n66 => ?_)
                · refine r_con (v := 0) cd_45_76 rfl (by decide) ?_
                  exact r_ret cd_45_77 (Or.inl rfl) (rfl)
                · exact absurd n66 (by decide)
          · exact absurd n63 (by decide)
        · exact absurd n62 (by decide)
      · exact absurd n61 (by omega)
    obtain ⟨gs, ds, ss, ⟨kds, vls, ts⟩, ms⟩ := v_41_5a hN hT dp ex ek eo s1 st1 kd1 vl1 j1 i1 t1 b1 hk
    have Rs := ms.rp R1
    have vs : gs.2.2 222 = .inl (0, 4, .inl (va_up va 0 ((q1 : Nat) : Int))) := (ms.1 222 (by decide) (by decide)).trans v1
    have nk : ¬ ¬ tKnd tx N j1 = 1 := fun e => e hk
    obtain ⟨fs, o204⟩ := Rs.o
    by_cases hc : (decide (bo w q1 3 = 2)) = true
    rotate_left
    · have hr : (!decide (bo w q1 3 = 2)) = true := by rw [Bool.not_eq_true] at hc; rw [hc]; rfl
      rw [show cFre tx N i w = .inl (3, ((tOff tx N j1 : Nat) : Int)) from (bnd_r hA1).trans (bnd_e ((if_neg nk).trans (if_neg hc)))]
      refine ⟨sw gs 201 (SO dp ex 3 ((tOff tx N j1 : Nat) : Int)), Ct.of [aR 201, aC 14, aU] rfl ?_, sw_at _ _ _, ⟨_, _, _, _, (sw_ne (by decide)).trans ts⟩, (Rs.mv fun a h1 h2 => sw_ne (by omega)).ex, ⟨_, (sw_ne (by decide)).trans vs⟩, (N1.tr ms.nc).s⟩
      refine r_aldC cd_45_0 rfl rfl ?_
      refine r_nnC cd_45_1 ⟨by decide, by decide⟩ ?_
      refine r_aldR cd_45_10 rfl rfl ?_
      refine r_get cd_45_11 rfl hS rfl ?_
      refine r_con (v := 200) cd_45_14 rfl (by decide) ?_
      refine r_ic63 cd_45_17 rfl ⟨by omega, by omega⟩ ⟨by omega, by omega⟩ (fun n61 => ?_) (fun n61 => ?_)
      · refine r_con (v := 0) cd_45_26 rfl (by decide) ?_
        refine r_ist cd_45_27 rfl rfl (L' := [aR 201, aC 14, aI 0]) rfl ?_
        refine r_ild cd_45_28 rfl rfl ?_
        refine r_aldC cd_45_29 rfl rfl ?_
        refine r_cget (v := aC 69) cd_45_30 rfl (rfl) ?_
        refine r_cI (c_378 69 (by decide) (by decide)) cd_45_33 rfl rfl rfl ⟨by decide, by decide⟩ rfl rfl rfl ?_
        refine RU.cast (pc2 := 36) (S2 := [aI 1, aI 0]) rfl rfl rfl ?_
        refine r_ic64 cd_45_36 rfl ⟨by omega, by omega⟩ ⟨by omega, by omega⟩ (fun n62 => ?_) (fun n62 => ?_)
        · refine r_ild cd_45_39 rfl rfl ?_
          refine r_con (v := 4) cd_45_40 rfl (by decide) ?_
          refine r_ic64 cd_45_41 rfl ⟨by omega, by omega⟩ ⟨by omega, by omega⟩ (fun n63 => ?_) (fun n63 => ?_)
          · refine r_aldR cd_45_44 rfl rfl ?_
            refine r_aldC cd_45_45 rfl rfl ?_
            refine r_cget (v := aC 69) cd_45_46 rfl (rfl) ?_
            refine r_ild cd_45_49 rfl rfl ?_
            refine r_cI (c_380 69 0 (by decide) (by decide) (by decide)) cd_45_50 rfl rfl rfl ⟨by decide, by decide⟩ rfl rfl rfl ?_
            refine RU.cast (pc2 := 53) (S2 := [aI 98, aR 201]) rfl rfl rfl ?_
            refine r_ild cd_45_53 rfl rfl ?_
            refine r_cI d1_ cd_45_54 rfl rfl rfl (rc0 hS rfl) rfl rfl rfl ?_
            refine r_if52 cd_45_57 rfl ⟨by omega, by omega⟩ (fun n64 => ?_) (fun n64 => ?_)
            · exact absurd n64 (by decide)
            · refine r_inc (v := 1) cd_45_62 rfl rfl rfl (by omega) (L' := [aR 201, aC 14, aI 1]) rfl ?_
              refine r_goto cd_45_65 ?_
              refine r_ild cd_45_28 rfl rfl ?_
              refine r_aldC cd_45_29 rfl rfl ?_
              refine r_cget (v := aC 69) cd_45_30 rfl (rfl) ?_
              refine r_cI (c_378 69 (by decide) (by decide)) cd_45_33 rfl rfl rfl ⟨by decide, by decide⟩ rfl rfl rfl ?_
              refine RU.cast (pc2 := 36) (S2 := [aI 1, aI 1]) rfl rfl rfl ?_
              refine r_ic64 cd_45_36 rfl ⟨by omega, by omega⟩ ⟨by omega, by omega⟩ (fun n65 => ?_) (fun n65 => ?_)
              · exact absurd n65 (by decide)
              · refine r_aldR cd_45_68 rfl rfl ?_
                refine r_con (v := 5) cd_45_69 rfl (by decide) ?_
                refine r_cI ds cd_45_70 rfl rfl rfl (rc0 s1 rfl) rfl rfl rfl ?_
                refine r_if52 cd_45_73 rfl ⟨by omega, by omega⟩ (fun n66 => ?_) (fun n66 => ?_)
                · exact absurd n66 (by decide)
                · refine r_aldR cd_45_78 rfl rfl ?_
                  refine r_get cd_45_79 rfl ss rfl ?_
                  refine r_aldC cd_45_82 rfl rfl ?_
                  refine r_aldR cd_45_83 rfl rfl ?_
                  refine r_get cd_45_84 rfl ss rfl ?_
                  refine r_con (v := 0) cd_45_87 rfl (by decide) ?_
                  refine r_arr (i := 0) cd_45_88 rfl vs rfl (by omega) rfl ?_
                  refine RU.cast (pc2 := 89) (S2 := [aI ((q1 : Nat) : Int), aC 14, aR 204]) rfl rfl rfl ?_
                  refine r_aldR cd_45_89 rfl rfl ?_
                  refine r_get cd_45_90 rfl ss rfl ?_
                  refine r_con (v := 1) cd_45_93 rfl (by decide) ?_
                  refine r_arr (i := 1) cd_45_94 rfl vs rfl (by omega) rfl ?_
                  refine r_aldR cd_45_95 rfl rfl ?_
                  refine r_get cd_45_96 rfl ss rfl ?_
                  refine r_con (v := 3) cd_45_99 rfl (by decide) ?_
                  refine r_arr (i := 3) cd_45_100 rfl vs rfl (by omega) rfl ?_
                  refine r_cI (k_76_10 Rs hI.1 _ _ q1 (by omega)) cd_45_101 rfl rfl rfl (rc0 o204 rfl) rfl rfl rfl ?_
                  refine r_if51b cd_45_104 rfl (fun n67 => ?_) (fun n67 => ?_)
                  · exact Bool.noConfusion (n67.symm.trans hr)
                  · refine r_aldR cd_45_107 rfl rfl ?_
                    refine r_con (v := 3) cd_45_108 rfl (by decide) ?_
                    refine r_cI (k_36 dp ex ek eo ss N _ _ _ _ ts 3) cd_45_109 rfl rfl rfl (rc0 ss rfl) rfl rfl rfl ?_
                    exact r_ret cd_45_112 (Or.inl rfl) (rfl)
          · exact absurd n63 (by decide)
        · exact absurd n62 (by decide)
      · exact absurd n61 (by omega)
    have hr : (!decide (bo w q1 3 = 2)) = false := by rw [hc]; rfl
    obtain ⟨gc, dc, Rc, Fc⟩ := v_84_10 (B := 204) Rs hI.1 q1 (by omega) ((va_up va 0 ((q1 : Nat) : Int)) 1) ((va_up va 0 ((q1 : Nat) : Int)) 2) ((va_up va 0 ((q1 : Nat) : Int)) 3)
    have sc := (Fc.1 201 (by decide)).trans ss
    have vc := (Fc.1 222 (by decide)).trans vs
    have tc := (Fc.1 202 (by decide)).trans ts
    rw [show cFre tx N i w = .inr (tEnd tx N j1, freeW w q1) from (bnd_r hA1).trans ((bnd_r ((if_neg nk).trans (if_pos hc))))]
    refine ⟨sw gc 201 (SO dp (ex + 1) ek eo), Ct.of [aR 201, aC 14, aU] rfl ?_, sw_at _ _ _, ⟨_, _, _, (sw_ne (by decide)).trans tc⟩, Rc.mv fun a h1 h2 => sw_ne (by omega), ⟨_, (sw_ne (by decide)).trans vc⟩, ((N1.tr ms.nc).tr Fc.nc).s⟩
    refine r_aldC cd_45_0 rfl rfl ?_
    refine r_nnC cd_45_1 ⟨by decide, by decide⟩ ?_
    refine r_aldR cd_45_10 rfl rfl ?_
    refine r_get cd_45_11 rfl hS rfl ?_
    refine r_con (v := 200) cd_45_14 rfl (by decide) ?_
    refine r_ic63 cd_45_17 rfl ⟨by omega, by omega⟩ ⟨by omega, by omega⟩ (fun n61 => ?_) (fun n61 => ?_)
    · refine r_con (v := 0) cd_45_26 rfl (by decide) ?_
      refine r_ist cd_45_27 rfl rfl (L' := [aR 201, aC 14, aI 0]) rfl ?_
      refine r_ild cd_45_28 rfl rfl ?_
      refine r_aldC cd_45_29 rfl rfl ?_
      refine r_cget (v := aC 69) cd_45_30 rfl (rfl) ?_
      refine r_cI (c_378 69 (by decide) (by decide)) cd_45_33 rfl rfl rfl ⟨by decide, by decide⟩ rfl rfl rfl ?_
      refine RU.cast (pc2 := 36) (S2 := [aI 1, aI 0]) rfl rfl rfl ?_
      refine r_ic64 cd_45_36 rfl ⟨by omega, by omega⟩ ⟨by omega, by omega⟩ (fun n62 => ?_) (fun n62 => ?_)
      · refine r_ild cd_45_39 rfl rfl ?_
        refine r_con (v := 4) cd_45_40 rfl (by decide) ?_
        refine r_ic64 cd_45_41 rfl ⟨by omega, by omega⟩ ⟨by omega, by omega⟩ (fun n63 => ?_) (fun n63 => ?_)
        · refine r_aldR cd_45_44 rfl rfl ?_
          refine r_aldC cd_45_45 rfl rfl ?_
          refine r_cget (v := aC 69) cd_45_46 rfl (rfl) ?_
          refine r_ild cd_45_49 rfl rfl ?_
          refine r_cI (c_380 69 0 (by decide) (by decide) (by decide)) cd_45_50 rfl rfl rfl ⟨by decide, by decide⟩ rfl rfl rfl ?_
          refine RU.cast (pc2 := 53) (S2 := [aI 98, aR 201]) rfl rfl rfl ?_
          refine r_ild cd_45_53 rfl rfl ?_
          refine r_cI d1_ cd_45_54 rfl rfl rfl (rc0 hS rfl) rfl rfl rfl ?_
          refine r_if52 cd_45_57 rfl ⟨by omega, by omega⟩ (fun n64 => ?_) (fun n64 => ?_)
          · exact absurd n64 (by decide)
          · refine r_inc (v := 1) cd_45_62 rfl rfl rfl (by omega) (L' := [aR 201, aC 14, aI 1]) rfl ?_
            refine r_goto cd_45_65 ?_
            refine r_ild cd_45_28 rfl rfl ?_
            refine r_aldC cd_45_29 rfl rfl ?_
            refine r_cget (v := aC 69) cd_45_30 rfl (rfl) ?_
            refine r_cI (c_378 69 (by decide) (by decide)) cd_45_33 rfl rfl rfl ⟨by decide, by decide⟩ rfl rfl rfl ?_
            refine RU.cast (pc2 := 36) (S2 := [aI 1, aI 1]) rfl rfl rfl ?_
            refine r_ic64 cd_45_36 rfl ⟨by omega, by omega⟩ ⟨by omega, by omega⟩ (fun n65 => ?_) (fun n65 => ?_)
            · exact absurd n65 (by decide)
            · refine r_aldR cd_45_68 rfl rfl ?_
              refine r_con (v := 5) cd_45_69 rfl (by decide) ?_
              refine r_cI ds cd_45_70 rfl rfl rfl (rc0 s1 rfl) rfl rfl rfl ?_
              refine r_if52 cd_45_73 rfl ⟨by omega, by omega⟩ (fun n66 => ?_) (fun n66 => ?_)
              · exact absurd n66 (by decide)
              · refine r_aldR cd_45_78 rfl rfl ?_
                refine r_get cd_45_79 rfl ss rfl ?_
                refine r_aldC cd_45_82 rfl rfl ?_
                refine r_aldR cd_45_83 rfl rfl ?_
                refine r_get cd_45_84 rfl ss rfl ?_
                refine r_con (v := 0) cd_45_87 rfl (by decide) ?_
                refine r_arr (i := 0) cd_45_88 rfl vs rfl (by omega) rfl ?_
                refine RU.cast (pc2 := 89) (S2 := [aI ((q1 : Nat) : Int), aC 14, aR 204]) rfl rfl rfl ?_
                refine r_aldR cd_45_89 rfl rfl ?_
                refine r_get cd_45_90 rfl ss rfl ?_
                refine r_con (v := 1) cd_45_93 rfl (by decide) ?_
                refine r_arr (i := 1) cd_45_94 rfl vs rfl (by omega) rfl ?_
                refine r_aldR cd_45_95 rfl rfl ?_
                refine r_get cd_45_96 rfl ss rfl ?_
                refine r_con (v := 3) cd_45_99 rfl (by decide) ?_
                refine r_arr (i := 3) cd_45_100 rfl vs rfl (by omega) rfl ?_
                refine r_cI (k_76_10 Rs hI.1 _ _ q1 (by omega)) cd_45_101 rfl rfl rfl (rc0 o204 rfl) rfl rfl rfl ?_
                refine r_if51b cd_45_104 rfl (fun n67 => ?_) (fun n67 => ?_)
                · refine r_aldR cd_45_113 rfl rfl ?_
                  refine r_get cd_45_114 rfl ss rfl ?_
                  refine r_aldC cd_45_117 rfl rfl ?_
                  refine r_aldR cd_45_118 rfl rfl ?_
                  refine r_get cd_45_119 rfl ss rfl ?_
                  refine r_con (v := 0) cd_45_122 rfl (by decide) ?_
                  refine r_arr (i := 0) cd_45_123 rfl vs rfl (by omega) rfl ?_
                  refine RU.cast (pc2 := 124) (S2 := [aI ((q1 : Nat) : Int), aC 14, aR 204]) rfl rfl rfl ?_
                  refine r_aldR cd_45_124 rfl rfl ?_
                  refine r_get cd_45_125 rfl ss rfl ?_
                  refine r_con (v := 1) cd_45_128 rfl (by decide) ?_
                  refine r_arr (i := 1) cd_45_129 rfl vs rfl (by omega) rfl ?_
                  refine r_aldR cd_45_130 rfl rfl ?_
                  refine r_get cd_45_131 rfl ss rfl ?_
                  refine r_con (v := 2) cd_45_134 rfl (by decide) ?_
                  refine r_arr (i := 2) cd_45_135 rfl vs rfl (by omega) rfl ?_
                  refine r_aldR cd_45_136 rfl rfl ?_
                  refine r_get cd_45_137 rfl ss rfl ?_
                  refine r_con (v := 3) cd_45_140 rfl (by decide) ?_
                  refine r_arr (i := 3) cd_45_141 rfl vs rfl (by omega) rfl ?_
                  refine r_cI dc cd_45_142 rfl rfl rfl (rc0 o204 rfl) rfl rfl rfl ?_
                  refine r_pop cd_45_145 rfl rfl ?_
                  refine r_aldR cd_45_146 rfl rfl ?_
                  refine r_dup cd_45_147 rfl rfl ?_
                  refine r_get cd_45_148 rfl sc rfl ?_
                  refine r_con (v := 1) cd_45_151 rfl (by decide) ?_
                  refine r_add (v := ex + 1) cd_45_152 rfl (by rfl) ?_
                  refine r_put (fs' := [aR 202, aR 204, aR 222, aR 223, aR 224, aI dp, aI (ex + 1), aI ek, aI eo]) cd_45_153 rfl sc rfl rfl ?_
                  refine r_con (v := 1) cd_45_156 rfl (by decide) ?_
                  exact r_ret cd_45_157 (Or.inr rfl) (rfl)
                · exact Bool.noConfusion (n67.symm.trans hr)
        · exact absurd n63 (by decide)
      · exact absurd n62 (by decide)
    · exact absurd n61 (by omega)
theorem v_45_11 {h : aH} {tx tb : Nat → Int} {N : Nat} (hN : N ≤ 600) (hT : ∀ k, k < N → BT (tx k) (tb k)) (dp ex ek eo : Int) (hS : h.2.2 201 = SO dp ex ek eo) (hx0 : 0 ≤ ex) (hx : ex < 200) {w : Nat → Int} (hR : Rp h 204 w) (hI : Inv w) {va : Nat → Int} (hV : h.2.2 222 = .inl (0, 4, .inl va)) (hb : TxB tx) (st kd vl : Int) (i : Nat) (hi : i ≤ N) (hO : h.2.2 202 = TO N st ((i : Nat) : Int) kd vl) (hB : h.2.2 203 = .inl (1, 600, .inl tb)) : CmdP 8 45 [aR 201, aC 15] h N dp ex ek eo (cFil tx N i w) := by
  have hbn := hI.1.bNe
  have hpn := hI.1.pNe
  have x0 := hI.1.len
  have x1 := hI.2.1
  have x1b := hI.1.hour
  have x4 := hI.1.gn
  have x5 := hI.1.bn
  have x6 := hI.1.pn
  have P1 := v_46_b0 hN hT dp ex ek eo hS hR hI.1 hV hb st kd vl i hi hO hB
  rcases hA1 : numA tx N i 0 (w 5 - 1) with e | ⟨q1, j1⟩
  · rw [hA1] at P1
    obtain ⟨g1, d1_, s1, t1, v1, m1⟩ := P1
    rw [show cFil tx N i w = .inl e from bnd_e hA1]
    refine ⟨g1, Ct.of [aR 201, aC 15, aU] rfl ?_, s1, t1, (m1.rp hR).ex, v1, NC.rf.tr m1.nc⟩
    refine r_aldC cd_45_0 rfl rfl ?_
    refine r_nnC cd_45_1 ⟨by decide, by decide⟩ ?_
    refine r_aldR cd_45_10 rfl rfl ?_
    refine r_get cd_45_11 rfl hS rfl ?_
    refine r_con (v := 200) cd_45_14 rfl (by decide) ?_
    refine r_ic63 cd_45_17 rfl ⟨by omega, by omega⟩ ⟨by omega, by omega⟩ (fun n61 => ?_) (fun n61 => ?_)
    · refine r_con (v := 0) cd_45_26 rfl (by decide) ?_
      refine r_ist cd_45_27 rfl rfl (L' := [aR 201, aC 15, aI 0]) rfl ?_
      refine r_ild cd_45_28 rfl rfl ?_
      refine r_aldC cd_45_29 rfl rfl ?_
      refine r_cget (v := aC 73) cd_45_30 rfl (rfl) ?_
      refine r_cI (c_378 73 (by decide) (by decide)) cd_45_33 rfl rfl rfl ⟨by decide, by decide⟩ rfl rfl rfl ?_
      refine RU.cast (pc2 := 36) (S2 := [aI 2, aI 0]) rfl rfl rfl ?_
      refine r_ic64 cd_45_36 rfl ⟨by omega, by omega⟩ ⟨by omega, by omega⟩ (fun n62 => ?_) (fun n62 => ?_)
      · refine r_ild cd_45_39 rfl rfl ?_
        refine r_con (v := 4) cd_45_40 rfl (by decide) ?_
        refine r_ic64 cd_45_41 rfl ⟨by omega, by omega⟩ ⟨by omega, by omega⟩ (fun n63 => ?_) (fun n63 => ?_)
        · refine r_aldR cd_45_44 rfl rfl ?_
          refine r_aldC cd_45_45 rfl rfl ?_
          refine r_cget (v := aC 73) cd_45_46 rfl (rfl) ?_
          refine r_ild cd_45_49 rfl rfl ?_
          refine r_cI (c_380 73 0 (by decide) (by decide) (by decide)) cd_45_50 rfl rfl rfl ⟨by decide, by decide⟩ rfl rfl rfl ?_
          refine RU.cast (pc2 := 53) (S2 := [aI 98, aR 201]) rfl rfl rfl ?_
          refine r_ild cd_45_53 rfl rfl ?_
          refine r_cI d1_ cd_45_54 rfl rfl rfl (rc0 hS rfl) rfl rfl rfl ?_
          refine r_if52 cd_45_57 rfl ⟨by omega, by omega⟩ (fun n64 => ?_) (fun n64 => ?_)
          · refine r_con (v := 0) cd_45_60 rfl (by decide) ?_
            exact r_ret cd_45_61 (Or.inl rfl) (rfl)
          · exact absurd n64 (by decide)
        · exact absurd n63 (by decide)
      · exact absurd n62 (by decide)
    · exact absurd n61 (by omega)
  · rw [hA1] at P1
    obtain ⟨g1, d1_, s1, ⟨st1, kd1, vl1, t1⟩, vv1, m1⟩ := P1
    have v1 : g1.2.2 222 = .inl (0, 4, .inl (va_up va 0 ((q1 : Nat) : Int))) := vv1
    have b1 : g1.2.2 203 = .inl (1, 600, .inl tb) := (m1.1 203 (by decide) (by decide) (by decide)).trans hB
    have R1 : Rp g1 204 w := m1.rp hR
    obtain ⟨z1a, z1b, z1c, z1j, -⟩ := numA_o hA1 (by decide)
    have i1 : j1 ≤ N := by rw [z1j]; exact (tPos hi).2
    have N1 : NC h g1 := NC.rf.tr m1.nc
    have P2 := v_46_f1 hN hT dp ex ek eo s1 R1 hI.1 v1 hb st1 kd1 vl1 j1 i1 t1 b1
    rcases hA2 : numA tx N j1 1 29 with e | ⟨q2, j2⟩
    · rw [hA2] at P2
      obtain ⟨g2, d2_, s2, t2, v2, m2⟩ := P2
      rw [show cFil tx N i w = .inl e from (bnd_r hA1).trans (bnd_e hA2)]
      refine ⟨g2, Ct.of [aR 201, aC 15, aU] rfl ?_, s2, t2, (m2.rp R1).ex, v2, N1.tr m2.nc⟩
      refine r_aldC cd_45_0 rfl rfl ?_
      refine r_nnC cd_45_1 ⟨by decide, by decide⟩ ?_
      refine r_aldR cd_45_10 rfl rfl ?_
      refine r_get cd_45_11 rfl hS rfl ?_
      refine r_con (v := 200) cd_45_14 rfl (by decide) ?_
      refine r_ic63 cd_45_17 rfl ⟨by omega, by omega⟩ ⟨by omega, by omega⟩ (fun n61 => ?_) (fun n61 => ?_)
      · refine r_con (v := 0) cd_45_26 rfl (by decide) ?_
        refine r_ist cd_45_27 rfl rfl (L' := [aR 201, aC 15, aI 0]) rfl ?_
        refine r_ild cd_45_28 rfl rfl ?_
        refine r_aldC cd_45_29 rfl rfl ?_
        refine r_cget (v := aC 73) cd_45_30 rfl (rfl) ?_
        refine r_cI (c_378 73 (by decide) (by decide)) cd_45_33 rfl rfl rfl ⟨by decide, by decide⟩ rfl rfl rfl ?_
        refine RU.cast (pc2 := 36) (S2 := [aI 2, aI 0]) rfl rfl rfl ?_
        refine r_ic64 cd_45_36 rfl ⟨by omega, by omega⟩ ⟨by omega, by omega⟩ (fun n62 => ?_) (fun n62 => ?_)
        · refine r_ild cd_45_39 rfl rfl ?_
          refine r_con (v := 4) cd_45_40 rfl (by decide) ?_
          refine r_ic64 cd_45_41 rfl ⟨by omega, by omega⟩ ⟨by omega, by omega⟩ (fun n63 => ?_) (fun n63 => ?_)
          · refine r_aldR cd_45_44 rfl rfl ?_
            refine r_aldC cd_45_45 rfl rfl ?_
            refine r_cget (v := aC 73) cd_45_46 rfl (rfl) ?_
            refine r_ild cd_45_49 rfl rfl ?_
            refine r_cI (c_380 73 0 (by decide) (by decide) (by decide)) cd_45_50 rfl rfl rfl ⟨by decide, by decide⟩ rfl rfl rfl ?_
            refine RU.cast (pc2 := 53) (S2 := [aI 98, aR 201]) rfl rfl rfl ?_
            refine r_ild cd_45_53 rfl rfl ?_
            refine r_cI d1_ cd_45_54 rfl rfl rfl (rc0 hS rfl) rfl rfl rfl ?_
            refine r_if52 cd_45_57 rfl ⟨by omega, by omega⟩ (fun n64 => ?_) (fun n64 => ?_)
            · exact absurd n64 (by decide)
            · refine r_inc (v := 1) cd_45_62 rfl rfl rfl (by omega) (L' := [aR 201, aC 15, aI 1]) rfl ?_
              refine r_goto cd_45_65 ?_
              refine r_ild cd_45_28 rfl rfl ?_
              refine r_aldC cd_45_29 rfl rfl ?_
              refine r_cget (v := aC 73) cd_45_30 rfl (rfl) ?_
              refine r_cI (c_378 73 (by decide) (by decide)) cd_45_33 rfl rfl rfl ⟨by decide, by decide⟩ rfl rfl rfl ?_
              refine RU.cast (pc2 := 36) (S2 := [aI 2, aI 1]) rfl rfl rfl ?_
              refine r_ic64 cd_45_36 rfl ⟨by omega, by omega⟩ ⟨by omega, by omega⟩ (fun n65 => ?_) (fun n65 => ?_)
              · refine r_ild cd_45_39 rfl rfl ?_
                refine r_con (v := 4) cd_45_40 rfl (by decide) ?_
                refine r_ic64 cd_45_41 rfl ⟨by omega, by omega⟩ ⟨by omega, by omega⟩ (fun n66 => ?_) (fun n66 => ?_)
                · refine r_aldR cd_45_44 rfl rfl ?_
                  refine r_aldC cd_45_45 rfl rfl ?_
                  refine r_cget (v := aC 73) cd_45_46 rfl (rfl) ?_
                  refine r_ild cd_45_49 rfl rfl ?_
                  refine r_cI (c_380 73 1 (by decide) (by decide) (by decide)) cd_45_50 rfl rfl rfl ⟨by decide, by decide⟩ rfl rfl rfl ?_
                  refine RU.cast (pc2 := 53) (S2 := [aI 102, aR 201]) rfl rfl rfl ?_
                  refine r_ild cd_45_53 rfl rfl ?_
                  refine r_cI d2_ cd_45_54 rfl rfl rfl (rc0 s1 rfl) rfl rfl rfl ?_
                  refine r_if52 cd_45_57 rfl ⟨by omega, by omega⟩ (fun n67 => ?_) (fun n67 => ?_)
                  · refine r_con (v := 0) cd_45_60 rfl (by decide) ?_
                    exact r_ret cd_45_61 (Or.inl rfl) (rfl)
                  · exact absurd n67 (by decide)
                · exact absurd n66 (by decide)
              · exact absurd n65 (by decide)
          · exact absurd n63 (by decide)
        · exact absurd n62 (by decide)
      · exact absurd n61 (by omega)
    · rw [hA2] at P2
      obtain ⟨g2, d2_, s2, ⟨st2, kd2, vl2, t2⟩, vv2, m2⟩ := P2
      have v2 : g2.2.2 222 = .inl (0, 4, .inl (va_up (va_up va 0 ((q1 : Nat) : Int)) 1 ((q2 : Nat) : Int))) := vv2
      have b2 : g2.2.2 203 = .inl (1, 600, .inl tb) := (m2.1 203 (by decide) (by decide) (by decide)).trans b1
      have R2 : Rp g2 204 w := m2.rp R1
      obtain ⟨z2a, z2b, z2c, z2j, -⟩ := numA_o hA2 (by decide)
      have i2 : j2 ≤ N := by rw [z2j]; exact (tPos i1).2
      have N2 : NC h g2 := N1.tr m2.nc
      by_cases hk : tKnd tx N j2 = 1
      rotate_left
      · obtain ⟨gs, ds, ss, ts, ms⟩ := v_41_5b hN hT dp ex ek eo s2 st2 kd2 vl2 j2 i2 t2 b2 hk
        rw [show cFil tx N i w = .inl (1, ((tOff tx N j2 : Nat) : Int)) from (bnd_r hA1).trans ((bnd_r hA2).trans (bnd_e (if_pos hk)))]
        refine ⟨gs, Ct.of [aR 201, aC 15, aU] rfl ?_, ss, ts, (ms.rp R2).ex, ⟨_, (ms.1 222 (by decide) (by decide)).trans v2⟩, N2.tr ms.nc⟩
        refine r_aldC cd_45_0 rfl rfl ?_
        refine r_nnC cd_45_1 ⟨by decide, by decide⟩ ?_
        refine r_aldR cd_45_10 rfl rfl ?_
        refine r_get cd_45_11 rfl hS rfl ?_
        refine r_con (v := 200) cd_45_14 rfl (by decide) ?_
        refine r_ic63 cd_45_17 rfl ⟨by omega, by omega⟩ ⟨by omega, by omega⟩ (fun n61 => ?_) (fun n61 => ?_)
        · refine r_con (v := 0) cd_45_26 rfl (by decide) ?_
          refine r_ist cd_45_27 rfl rfl (L' := [aR 201, aC 15, aI 0]) rfl ?_
          refine r_ild cd_45_28 rfl rfl ?_
          refine r_aldC cd_45_29 rfl rfl ?_
          refine r_cget (v := aC 73) cd_45_30 rfl (rfl) ?_
          refine r_cI (c_378 73 (by decide) (by decide)) cd_45_33 rfl rfl rfl ⟨by decide, by decide⟩ rfl rfl rfl ?_
          refine RU.cast (pc2 := 36) (S2 := [aI 2, aI 0]) rfl rfl rfl ?_
          refine r_ic64 cd_45_36 rfl ⟨by omega, by omega⟩ ⟨by omega, by omega⟩ (fun n62 => ?_) (fun n62 => ?_)
          · refine r_ild cd_45_39 rfl rfl ?_
            refine r_con (v := 4) cd_45_40 rfl (by decide) ?_
            refine r_ic64 cd_45_41 rfl ⟨by omega, by omega⟩ ⟨by omega, by omega⟩ (fun n63 => ?_) (fun n63 => ?_)
            · refine r_aldR cd_45_44 rfl rfl ?_
              refine r_aldC cd_45_45 rfl rfl ?_
              refine r_cget (v := aC 73) cd_45_46 rfl (rfl) ?_
              refine r_ild cd_45_49 rfl rfl ?_
              refine r_cI (c_380 73 0 (by decide) (by decide) (by decide)) cd_45_50 rfl rfl rfl ⟨by decide, by decide⟩ rfl rfl rfl ?_
              refine RU.cast (pc2 := 53) (S2 := [aI 98, aR 201]) rfl rfl rfl ?_
              refine r_ild cd_45_53 rfl rfl ?_
              refine r_cI d1_ cd_45_54 rfl rfl rfl (rc0 hS rfl) rfl rfl rfl ?_
              refine r_if52 cd_45_57 rfl ⟨by omega, by omega⟩ (fun n64 => ?_) (fun n64 => ?_)
              · exact absurd n64 (by decide)
              · refine r_inc (v := 1) cd_45_62 rfl rfl rfl (by omega) (L' := [aR 201, aC 15, aI 1]) rfl ?_
                refine r_goto cd_45_65 ?_
                refine r_ild cd_45_28 rfl rfl ?_
                refine r_aldC cd_45_29 rfl rfl ?_
                refine r_cget (v := aC 73) cd_45_30 rfl (rfl) ?_
                refine r_cI (c_378 73 (by decide) (by decide)) cd_45_33 rfl rfl rfl ⟨by decide, by decide⟩ rfl rfl rfl ?_
                refine RU.cast (pc2 := 36) (S2 := [aI 2, aI 1]) rfl rfl rfl ?_
                refine r_ic64 cd_45_36 rfl ⟨by omega, by omega⟩ ⟨by omega, by omega⟩ (fun n65 => ?_) (fun n65 => ?_)
                · refine r_ild cd_45_39 rfl rfl ?_
                  refine r_con (v := 4) cd_45_40 rfl (by decide) ?_
                  refine r_ic64 cd_45_41 rfl ⟨by omega, by omega⟩ ⟨by omega, by omega⟩ (fun n66 => ?_) (fun n66 => ?_)
                  · refine r_aldR cd_45_44 rfl rfl ?_
                    refine r_aldC cd_45_45 rfl rfl ?_
                    refine r_cget (v := aC 73) cd_45_46 rfl (rfl) ?_
                    refine r_ild cd_45_49 rfl rfl ?_
                    refine r_cI (c_380 73 1 (by decide) (by decide) (by decide)) cd_45_50 rfl rfl rfl ⟨by decide, by decide⟩ rfl rfl rfl ?_
                    refine RU.cast (pc2 := 53) (S2 := [aI 102, aR 201]) rfl rfl rfl ?_
                    refine r_ild cd_45_53 rfl rfl ?_
                    refine r_cI d2_ cd_45_54 rfl rfl rfl (rc0 s1 rfl) rfl rfl rfl ?_
                    refine r_if52 cd_45_57 rfl ⟨by omega, by omega⟩ (fun n67 => ?_) (fun n67 => ?_)
                    · exact absurd n67 (by decide)
                    · refine r_inc (v := 2) cd_45_62 rfl rfl rfl (by omega) (L' := [aR 201, aC 15, aI 2]) rfl ?_
                      refine r_goto cd_45_65 ?_
                      refine r_ild cd_45_28 rfl rfl ?_
                      refine r_aldC cd_45_29 rfl rfl ?_
                      refine r_cget (v := aC 73) cd_45_30 rfl (rfl) ?_
                      refine r_cI (c_378 73 (by decide) (by decide)) cd_45_33 rfl rfl rfl ⟨by decide, by decide⟩ rfl rfl rfl ?_
                      refine RU.cast (pc2 := 36) (S2 := [aI 2, aI 2]) rfl rfl rfl ?_
                      refine r_ic64 cd_45_36 rfl ⟨by omega, by omega⟩ ⟨by omega, by omega⟩ (fun n68 => ?_) (fun n68 => ?_)
                      · exact absurd n68 (by decide)
                      · refine r_aldR cd_45_68 rfl rfl ?_
                        refine r_con (v := 5) cd_45_69 rfl (by decide) ?_
                        refine r_cI ds cd_45_70 rfl rfl rfl (rc0 s2 rfl) rfl rfl rfl ?_
                        refine r_if52 cd_45_73 rfl ⟨by omega, by omega⟩ (fun n69 => ?_) (fun n69 => ?_)
                        · refine r_con (v := 0) cd_45_76 rfl (by decide) ?_
                          exact r_ret cd_45_77 (Or.inl rfl) (rfl)
                        · exact absurd n69 (by decide)
                  · exact absurd n66 (by decide)
                · exact absurd n65 (by decide)
            · exact absurd n63 (by decide)
          · exact absurd n62 (by decide)
        · exact absurd n61 (by omega)
      obtain ⟨gs, ds, ss, ⟨kds, vls, ts⟩, ms⟩ := v_41_5a hN hT dp ex ek eo s2 st2 kd2 vl2 j2 i2 t2 b2 hk
      have Rs := ms.rp R2
      have vs : gs.2.2 222 = .inl (0, 4, .inl (va_up (va_up va 0 ((q1 : Nat) : Int)) 1 ((q2 : Nat) : Int))) := (ms.1 222 (by decide) (by decide)).trans v2
      have nk : ¬ ¬ tKnd tx N j2 = 1 := fun e => e hk
      obtain ⟨fs, o204⟩ := Rs.o
      by_cases hc : (canF w q1 ((q2 : Nat) : Int)) = true
      rotate_left
      · have hr : (!canF w q1 ((q2 : Nat) : Int)) = true := by rw [Bool.not_eq_true] at hc; rw [hc]; rfl
        rw [show cFil tx N i w = .inl (3, ((tOff tx N j2 : Nat) : Int)) from (bnd_r hA1).trans ((bnd_r hA2).trans (bnd_e ((if_neg nk).trans (if_neg hc))))]
        refine ⟨sw gs 201 (SO dp ex 3 ((tOff tx N j2 : Nat) : Int)), Ct.of [aR 201, aC 15, aU] rfl ?_, sw_at _ _ _, ⟨_, _, _, _, (sw_ne (by decide)).trans ts⟩, (Rs.mv fun a h1 h2 => sw_ne (by omega)).ex, ⟨_, (sw_ne (by decide)).trans vs⟩, (N2.tr ms.nc).s⟩
        refine r_aldC cd_45_0 rfl rfl ?_
        refine r_nnC cd_45_1 ⟨by decide, by decide⟩ ?_
        refine r_aldR cd_45_10 rfl rfl ?_
        refine r_get cd_45_11 rfl hS rfl ?_
        refine r_con (v := 200) cd_45_14 rfl (by decide) ?_
        refine r_ic63 cd_45_17 rfl ⟨by omega, by omega⟩ ⟨by omega, by omega⟩ (fun n61 => ?_) (fun n61 => ?_)
        · refine r_con (v := 0) cd_45_26 rfl (by decide) ?_
          refine r_ist cd_45_27 rfl rfl (L' := [aR 201, aC 15, aI 0]) rfl ?_
          refine r_ild cd_45_28 rfl rfl ?_
          refine r_aldC cd_45_29 rfl rfl ?_
          refine r_cget (v := aC 73) cd_45_30 rfl (rfl) ?_
          refine r_cI (c_378 73 (by decide) (by decide)) cd_45_33 rfl rfl rfl ⟨by decide, by decide⟩ rfl rfl rfl ?_
          refine RU.cast (pc2 := 36) (S2 := [aI 2, aI 0]) rfl rfl rfl ?_
          refine r_ic64 cd_45_36 rfl ⟨by omega, by omega⟩ ⟨by omega, by omega⟩ (fun n62 => ?_) (fun n62 => ?_)
          · refine r_ild cd_45_39 rfl rfl ?_
            refine r_con (v := 4) cd_45_40 rfl (by decide) ?_
            refine r_ic64 cd_45_41 rfl ⟨by omega, by omega⟩ ⟨by omega, by omega⟩ (fun n63 => ?_) (fun n63 => ?_)
            · refine r_aldR cd_45_44 rfl rfl ?_
              refine r_aldC cd_45_45 rfl rfl ?_
              refine r_cget (v := aC 73) cd_45_46 rfl (rfl) ?_
              refine r_ild cd_45_49 rfl rfl ?_
              refine r_cI (c_380 73 0 (by decide) (by decide) (by decide)) cd_45_50 rfl rfl rfl ⟨by decide, by decide⟩ rfl rfl rfl ?_
              refine RU.cast (pc2 := 53) (S2 := [aI 98, aR 201]) rfl rfl rfl ?_
              refine r_ild cd_45_53 rfl rfl ?_
              refine r_cI d1_ cd_45_54 rfl rfl rfl (rc0 hS rfl) rfl rfl rfl ?_
              refine r_if52 cd_45_57 rfl ⟨by omega, by omega⟩ (fun n64 => ?_) (fun n64 => ?_)
              · exact absurd n64 (by decide)
              · refine r_inc (v := 1) cd_45_62 rfl rfl rfl (by omega) (L' := [aR 201, aC 15, aI 1]) rfl ?_
                refine r_goto cd_45_65 ?_
                refine r_ild cd_45_28 rfl rfl ?_
                refine r_aldC cd_45_29 rfl rfl ?_
                refine r_cget (v := aC 73) cd_45_30 rfl (rfl) ?_
                refine r_cI (c_378 73 (by decide) (by decide)) cd_45_33 rfl rfl rfl ⟨by decide, by decide⟩ rfl rfl rfl ?_
                refine RU.cast (pc2 := 36) (S2 := [aI 2, aI 1]) rfl rfl rfl ?_
                refine r_ic64 cd_45_36 rfl ⟨by omega, by omega⟩ ⟨by omega, by omega⟩ (fun n65 => ?_) (fun n65 => ?_)
                · refine r_ild cd_45_39 rfl rfl ?_
                  refine r_con (v := 4) cd_45_40 rfl (by decide) ?_
                  refine r_ic64 cd_45_41 rfl ⟨by omega, by omega⟩ ⟨by omega, by omega⟩ (fun n66 => ?_) (fun n66 => ?_)
                  · refine r_aldR cd_45_44 rfl rfl ?_
                    refine r_aldC cd_45_45 rfl rfl ?_
                    refine r_cget (v := aC 73) cd_45_46 rfl (rfl) ?_
                    refine r_ild cd_45_49 rfl rfl ?_
                    refine r_cI (c_380 73 1 (by decide) (by decide) (by decide)) cd_45_50 rfl rfl rfl ⟨by decide, by decide⟩ rfl rfl rfl ?_
                    refine RU.cast (pc2 := 53) (S2 := [aI 102, aR 201]) rfl rfl rfl ?_
                    refine r_ild cd_45_53 rfl rfl ?_
                    refine r_cI d2_ cd_45_54 rfl rfl rfl (rc0 s1 rfl) rfl rfl rfl ?_
                    refine r_if52 cd_45_57 rfl ⟨by omega, by omega⟩ (fun n67 => ?_) (fun n67 => ?_)
                    · exact absurd n67 (by decide)
                    · refine r_inc (v := 2) cd_45_62 rfl rfl rfl (by omega) (L' := [aR 201, aC 15, aI 2]) rfl ?_
                      refine r_goto cd_45_65 ?_
                      refine r_ild cd_45_28 rfl rfl ?_
                      refine r_aldC cd_45_29 rfl rfl ?_
                      refine r_cget (v := aC 73) cd_45_30 rfl (rfl) ?_
                      refine r_cI (c_378 73 (by decide) (by decide)) cd_45_33 rfl rfl rfl ⟨by decide, by decide⟩ rfl rfl rfl ?_
                      refine RU.cast (pc2 := 36) (S2 := [aI 2, aI 2]) rfl rfl rfl ?_
                      refine r_ic64 cd_45_36 rfl ⟨by omega, by omega⟩ ⟨by omega, by omega⟩ (fun n68 => ?_) (fun n68 => ?_)
                      · exact absurd n68 (by decide)
                      · refine r_aldR cd_45_68 rfl rfl ?_
                        refine r_con (v := 5) cd_45_69 rfl (by decide) ?_
                        refine r_cI ds cd_45_70 rfl rfl rfl (rc0 s2 rfl) rfl rfl rfl ?_
                        refine r_if52 cd_45_73 rfl ⟨by omega, by omega⟩ (fun n69 => ?_) (fun n69 => ?_)
                        · exact absurd n69 (by decide)
                        · refine r_aldR cd_45_78 rfl rfl ?_
                          refine r_get cd_45_79 rfl ss rfl ?_
                          refine r_aldC cd_45_82 rfl rfl ?_
                          refine r_aldR cd_45_83 rfl rfl ?_
                          refine r_get cd_45_84 rfl ss rfl ?_
                          refine r_con (v := 0) cd_45_87 rfl (by decide) ?_
                          refine r_arr (i := 0) cd_45_88 rfl vs rfl (by omega) rfl ?_
                          refine RU.cast (pc2 := 89) (S2 := [aI ((q1 : Nat) : Int), aC 15, aR 204]) rfl rfl rfl ?_
                          refine r_aldR cd_45_89 rfl rfl ?_
                          refine r_get cd_45_90 rfl ss rfl ?_
                          refine r_con (v := 1) cd_45_93 rfl (by decide) ?_
                          refine r_arr (i := 1) cd_45_94 rfl vs rfl (by omega) rfl ?_
                          refine RU.cast (pc2 := 95) (S2 := [aI ((q2 : Nat) : Int), aI ((q1 : Nat) : Int), aC 15, aR 204]) rfl rfl rfl ?_
                          refine r_aldR cd_45_95 rfl rfl ?_
                          refine r_get cd_45_96 rfl ss rfl ?_
                          refine r_con (v := 3) cd_45_99 rfl (by decide) ?_
                          refine r_arr (i := 3) cd_45_100 rfl vs rfl (by omega) rfl ?_
                          refine r_cI (k_76_11 Rs hI.1 _ q1 (by omega) q2 (by omega)) cd_45_101 rfl rfl rfl (rc0 o204 rfl) rfl rfl rfl ?_
                          refine r_if51b cd_45_104 rfl (fun n70 => ?_) (fun n70 => ?_)
                          · exact Bool.noConfusion (n70.symm.trans hr)
                          · refine r_aldR cd_45_107 rfl rfl ?_
                            refine r_con (v := 3) cd_45_108 rfl (by decide) ?_
                            refine r_cI (k_36 dp ex ek eo ss N _ _ _ _ ts 3) cd_45_109 rfl rfl rfl (rc0 ss rfl) rfl rfl rfl ?_
                            exact r_ret cd_45_112 (Or.inl rfl) (rfl)
                  · exact absurd n66 (by decide)
                · exact absurd n65 (by decide)
            · exact absurd n63 (by decide)
          · exact absurd n62 (by decide)
        · exact absurd n61 (by omega)
      have hr : (!canF w q1 ((q2 : Nat) : Int)) = false := by rw [hc]; rfl
      obtain ⟨gc, dc, Rc, Fc⟩ := v_84_11 (B := 204) Rs hI.1 q1 ((q2 : Nat) : Int) (by omega) ((va_up (va_up va 0 ((q1 : Nat) : Int)) 1 ((q2 : Nat) : Int)) 2) ((va_up (va_up va 0 ((q1 : Nat) : Int)) 1 ((q2 : Nat) : Int)) 3)
      have sc := (Fc.1 201 (by decide)).trans ss
      have vc := (Fc.1 222 (by decide)).trans vs
      have tc := (Fc.1 202 (by decide)).trans ts
      rw [show cFil tx N i w = .inr (tEnd tx N j2, fillW w q1 ((q2 : Nat) : Int)) from (bnd_r hA1).trans ((bnd_r hA2).trans ((bnd_r ((if_neg nk).trans (if_pos hc)))))]
      refine ⟨sw gc 201 (SO dp (ex + 1) ek eo), Ct.of [aR 201, aC 15, aU] rfl ?_, sw_at _ _ _, ⟨_, _, _, (sw_ne (by decide)).trans tc⟩, Rc.mv fun a h1 h2 => sw_ne (by omega), ⟨_, (sw_ne (by decide)).trans vc⟩, ((N2.tr ms.nc).tr Fc.nc).s⟩
      refine r_aldC cd_45_0 rfl rfl ?_
      refine r_nnC cd_45_1 ⟨by decide, by decide⟩ ?_
      refine r_aldR cd_45_10 rfl rfl ?_
      refine r_get cd_45_11 rfl hS rfl ?_
      refine r_con (v := 200) cd_45_14 rfl (by decide) ?_
      refine r_ic63 cd_45_17 rfl ⟨by omega, by omega⟩ ⟨by omega, by omega⟩ (fun n61 => ?_) (fun n61 => ?_)
      · refine r_con (v := 0) cd_45_26 rfl (by decide) ?_
        refine r_ist cd_45_27 rfl rfl (L' := [aR 201, aC 15, aI 0]) rfl ?_
        refine r_ild cd_45_28 rfl rfl ?_
        refine r_aldC cd_45_29 rfl rfl ?_
        refine r_cget (v := aC 73) cd_45_30 rfl (rfl) ?_
        refine r_cI (c_378 73 (by decide) (by decide)) cd_45_33 rfl rfl rfl ⟨by decide, by decide⟩ rfl rfl rfl ?_
        refine RU.cast (pc2 := 36) (S2 := [aI 2, aI 0]) rfl rfl rfl ?_
        refine r_ic64 cd_45_36 rfl ⟨by omega, by omega⟩ ⟨by omega, by omega⟩ (fun n62 => ?_) (fun n62 => ?_)
        · refine r_ild cd_45_39 rfl rfl ?_
          refine r_con (v := 4) cd_45_40 rfl (by decide) ?_
          refine r_ic64 cd_45_41 rfl ⟨by omega, by omega⟩ ⟨by omega, by omega⟩ (fun n63 => ?_) (fun n63 => ?_)
          · refine r_aldR cd_45_44 rfl rfl ?_
            refine r_aldC cd_45_45 rfl rfl ?_
            refine r_cget (v := aC 73) cd_45_46 rfl (rfl) ?_
            refine r_ild cd_45_49 rfl rfl ?_
            refine r_cI (c_380 73 0 (by decide) (by decide) (by decide)) cd_45_50 rfl rfl rfl ⟨by decide, by decide⟩ rfl rfl rfl ?_
            refine RU.cast (pc2 := 53) (S2 := [aI 98, aR 201]) rfl rfl rfl ?_
            refine r_ild cd_45_53 rfl rfl ?_
            refine r_cI d1_ cd_45_54 rfl rfl rfl (rc0 hS rfl) rfl rfl rfl ?_
            refine r_if52 cd_45_57 rfl ⟨by omega, by omega⟩ (fun n64 => ?_) (fun n64 => ?_)
            · exact absurd n64 (by decide)
            · refine r_inc (v := 1) cd_45_62 rfl rfl rfl (by omega) (L' := [aR 201, aC 15, aI 1]) rfl ?_
              refine r_goto cd_45_65 ?_
              refine r_ild cd_45_28 rfl rfl ?_
              refine r_aldC cd_45_29 rfl rfl ?_
              refine r_cget (v := aC 73) cd_45_30 rfl (rfl) ?_
              refine r_cI (c_378 73 (by decide) (by decide)) cd_45_33 rfl rfl rfl ⟨by decide, by decide⟩ rfl rfl rfl ?_
              refine RU.cast (pc2 := 36) (S2 := [aI 2, aI 1]) rfl rfl rfl ?_
              refine r_ic64 cd_45_36 rfl ⟨by omega, by omega⟩ ⟨by omega, by omega⟩ (fun n65 => ?_) (fun n65 => ?_)
              · refine r_ild cd_45_39 rfl rfl ?_
                refine r_con (v := 4) cd_45_40 rfl (by decide) ?_
                refine r_ic64 cd_45_41 rfl ⟨by omega, by omega⟩ ⟨by omega, by omega⟩ (fun n66 => ?_) (fun n66 => ?_)
                · refine r_aldR cd_45_44 rfl rfl ?_
                  refine r_aldC cd_45_45 rfl rfl ?_
                  refine r_cget (v := aC 73) cd_45_46 rfl (rfl) ?_
                  refine r_ild cd_45_49 rfl rfl ?_
                  refine r_cI (c_380 73 1 (by decide) (by decide) (by decide)) cd_45_50 rfl rfl rfl ⟨by decide, by decide⟩ rfl rfl rfl ?_
                  refine RU.cast (pc2 := 53) (S2 := [aI 102, aR 201]) rfl rfl rfl ?_
                  refine r_ild cd_45_53 rfl rfl ?_
                  refine r_cI d2_ cd_45_54 rfl rfl rfl (rc0 s1 rfl) rfl rfl rfl ?_
                  refine r_if52 cd_45_57 rfl ⟨by omega, by omega⟩ (fun n67 => ?_) (fun n67 => ?_)
                  · exact absurd n67 (by decide)
                  · refine r_inc (v := 2) cd_45_62 rfl rfl rfl (by omega) (L' := [aR 201, aC 15, aI 2]) rfl ?_
                    refine r_goto cd_45_65 ?_
                    refine r_ild cd_45_28 rfl rfl ?_
                    refine r_aldC cd_45_29 rfl rfl ?_
                    refine r_cget (v := aC 73) cd_45_30 rfl (rfl) ?_
                    refine r_cI (c_378 73 (by decide) (by decide)) cd_45_33 rfl rfl rfl ⟨by decide, by decide⟩ rfl rfl rfl ?_
                    refine RU.cast (pc2 := 36) (S2 := [aI 2, aI 2]) rfl rfl rfl ?_
                    refine r_ic64 cd_45_36 rfl ⟨by omega, by omega⟩ ⟨by omega, by omega⟩ (fun n68 => ?_) (fun n68 => ?_)
                    · exact absurd n68 (by decide)
                    · refine r_aldR cd_45_68 rfl rfl ?_
                      refine r_con (v := 5) cd_45_69 rfl (by decide) ?_
                      refine r_cI ds cd_45_70 rfl rfl rfl (rc0 s2 rfl) rfl rfl rfl ?_
                      refine r_if52 cd_45_73 rfl ⟨by omega, by omega⟩ (fun n69 => ?_) (fun n69 => ?_)
                      · exact absurd n69 (by decide)
                      · refine r_aldR cd_45_78 rfl rfl ?_
                        refine r_get cd_45_79 rfl ss rfl ?_
                        refine r_aldC cd_45_82 rfl rfl ?_
                        refine r_aldR cd_45_83 rfl rfl ?_
                        refine r_get cd_45_84 rfl ss rfl ?_
                        refine r_con (v := 0) cd_45_87 rfl (by decide) ?_
                        refine r_arr (i := 0) cd_45_88 rfl vs rfl (by omega) rfl ?_
                        refine RU.cast (pc2 := 89) (S2 := [aI ((q1 : Nat) : Int), aC 15, aR 204]) rfl rfl rfl ?_
                        refine r_aldR cd_45_89 rfl rfl ?_
                        refine r_get cd_45_90 rfl ss rfl ?_
                        refine r_con (v := 1) cd_45_93 rfl (by decide) ?_
                        refine r_arr (i := 1) cd_45_94 rfl vs rfl (by omega) rfl ?_
                        refine RU.cast (pc2 := 95) (S2 := [aI ((q2 : Nat) : Int), aI ((q1 : Nat) : Int), aC 15, aR 204]) rfl rfl rfl ?_
                        refine r_aldR cd_45_95 rfl rfl ?_
                        refine r_get cd_45_96 rfl ss rfl ?_
                        refine r_con (v := 3) cd_45_99 rfl (by decide) ?_
                        refine r_arr (i := 3) cd_45_100 rfl vs rfl (by omega) rfl ?_
                        refine r_cI (k_76_11 Rs hI.1 _ q1 (by omega) q2 (by omega)) cd_45_101 rfl rfl rfl (rc0 o204 rfl) rfl rfl rfl ?_
                        refine r_if51b cd_45_104 rfl (fun n70 => ?_) (fun n70 => ?_)
                        · refine r_aldR cd_45_113 rfl rfl ?_
                          refine r_get cd_45_114 rfl ss rfl ?_
                          refine r_aldC cd_45_117 rfl rfl ?_
                          refine r_aldR cd_45_118 rfl rfl ?_
                          refine r_get cd_45_119 rfl ss rfl ?_
                          refine r_con (v := 0) cd_45_122 rfl (by decide) ?_
                          refine r_arr (i := 0) cd_45_123 rfl vs rfl (by omega) rfl ?_
                          refine RU.cast (pc2 := 124) (S2 := [aI ((q1 : Nat) : Int), aC 15, aR 204]) rfl rfl rfl ?_
                          refine r_aldR cd_45_124 rfl rfl ?_
                          refine r_get cd_45_125 rfl ss rfl ?_
                          refine r_con (v := 1) cd_45_128 rfl (by decide) ?_
                          refine r_arr (i := 1) cd_45_129 rfl vs rfl (by omega) rfl ?_
                          refine RU.cast (pc2 := 130) (S2 := [aI ((q2 : Nat) : Int), aI ((q1 : Nat) : Int), aC 15, aR 204]) rfl rfl rfl ?_
                          refine r_aldR cd_45_130 rfl rfl ?_
                          refine r_get cd_45_131 rfl ss rfl ?_
                          refine r_con (v := 2) cd_45_134 rfl (by decide) ?_
                          refine r_arr (i := 2) cd_45_135 rfl vs rfl (by omega) rfl ?_
                          refine r_aldR cd_45_136 rfl rfl ?_
                          refine r_get cd_45_137 rfl ss rfl ?_
                          refine r_con (v := 3) cd_45_140 rfl (by decide) ?_
                          refine r_arr (i := 3) cd_45_141 rfl vs rfl (by omega) rfl ?_
                          refine r_cI dc cd_45_142 rfl rfl rfl (rc0 o204 rfl) rfl rfl rfl ?_
                          refine r_pop cd_45_145 rfl rfl ?_
                          refine r_aldR cd_45_146 rfl rfl ?_
                          refine r_dup cd_45_147 rfl rfl ?_
                          refine r_get cd_45_148 rfl sc rfl ?_
                          refine r_con (v := 1) cd_45_151 rfl (by decide) ?_
                          refine r_add (v := ex + 1) cd_45_152 rfl (by rfl) ?_
                          refine r_put (fs' := [aR 202, aR 204, aR 222, aR 223, aR 224, aI dp, aI (ex + 1), aI ek, aI eo]) cd_45_153 rfl sc rfl rfl ?_
                          refine r_con (v := 1) cd_45_156 rfl (by decide) ?_
                          exact r_ret cd_45_157 (Or.inr rfl) (rfl)
                        · exact Bool.noConfusion (n70.symm.trans hr)
                · exact absurd n66 (by decide)
              · exact absurd n65 (by decide)
          · exact absurd n63 (by decide)
        · exact absurd n62 (by decide)
      · exact absurd n61 (by omega)
theorem v_45_12 {h : aH} {tx tb : Nat → Int} {N : Nat} (hN : N ≤ 600) (hT : ∀ k, k < N → BT (tx k) (tb k)) (dp ex ek eo : Int) (hS : h.2.2 201 = SO dp ex ek eo) (hx0 : 0 ≤ ex) (hx : ex < 200) {w : Nat → Int} (hR : Rp h 204 w) (hI : Inv w) {va : Nat → Int} (hV : h.2.2 222 = .inl (0, 4, .inl va)) (hb : TxB tx) (st kd vl : Int) (i : Nat) (hi : i ≤ N) (hO : h.2.2 202 = TO N st ((i : Nat) : Int) kd vl) (hB : h.2.2 203 = .inl (1, 600, .inl tb)) : CmdP 8 45 [aR 201, aC 16] h N dp ex ek eo (cGas tx N i w) := by
  have hbn := hI.1.bNe
  have hpn := hI.1.pNe
  have x0 := hI.1.len
  have x1 := hI.2.1
  have x1b := hI.1.hour
  have x4 := hI.1.gn
  have x5 := hI.1.bn
  have x6 := hI.1.pn
  have P1 := v_46_a0 hN hT dp ex ek eo hS hR hI.1 hV hb st kd vl i hi hO hB
  rcases hA1 : numA tx N i 1 200 with e | ⟨q1, j1⟩
  · rw [hA1] at P1
    obtain ⟨g1, d1_, s1, t1, v1, m1⟩ := P1
    rw [show cGas tx N i w = .inl e from bnd_e hA1]
    refine ⟨g1, Ct.of [aR 201, aC 16, aU] rfl ?_, s1, t1, (m1.rp hR).ex, v1, NC.rf.tr m1.nc⟩
    refine r_aldC cd_45_0 rfl rfl ?_
    refine r_nnC cd_45_1 ⟨by decide, by decide⟩ ?_
    refine r_aldR cd_45_10 rfl rfl ?_
    refine r_get cd_45_11 rfl hS rfl ?_
    refine r_con (v := 200) cd_45_14 rfl (by decide) ?_
    refine r_ic63 cd_45_17 rfl ⟨by omega, by omega⟩ ⟨by omega, by omega⟩ (fun n61 => ?_) (fun n61 => ?_)
    · refine r_con (v := 0) cd_45_26 rfl (by decide) ?_
      refine r_ist cd_45_27 rfl rfl (L' := [aR 201, aC 16, aI 0]) rfl ?_
      refine r_ild cd_45_28 rfl rfl ?_
      refine r_aldC cd_45_29 rfl rfl ?_
      refine r_cget (v := aC 75) cd_45_30 rfl (rfl) ?_
      refine r_cI (c_378 75 (by decide) (by decide)) cd_45_33 rfl rfl rfl ⟨by decide, by decide⟩ rfl rfl rfl ?_
      refine RU.cast (pc2 := 36) (S2 := [aI 1, aI 0]) rfl rfl rfl ?_
      refine r_ic64 cd_45_36 rfl ⟨by omega, by omega⟩ ⟨by omega, by omega⟩ (fun n62 => ?_) (fun n62 => ?_)
      · refine r_ild cd_45_39 rfl rfl ?_
        refine r_con (v := 4) cd_45_40 rfl (by decide) ?_
        refine r_ic64 cd_45_41 rfl ⟨by omega, by omega⟩ ⟨by omega, by omega⟩ (fun n63 => ?_) (fun n63 => ?_)
        · refine r_aldR cd_45_44 rfl rfl ?_
          refine r_aldC cd_45_45 rfl rfl ?_
          refine r_cget (v := aC 75) cd_45_46 rfl (rfl) ?_
          refine r_ild cd_45_49 rfl rfl ?_
          refine r_cI (c_380 75 0 (by decide) (by decide) (by decide)) cd_45_50 rfl rfl rfl ⟨by decide, by decide⟩ rfl rfl rfl ?_
          refine RU.cast (pc2 := 53) (S2 := [aI 97, aR 201]) rfl rfl rfl ?_
          refine r_ild cd_45_53 rfl rfl ?_
          refine r_cI d1_ cd_45_54 rfl rfl rfl (rc0 hS rfl) rfl rfl rfl ?_
          refine r_if52 cd_45_57 rfl ⟨by omega, by omega⟩ (fun n64 => ?_) (fun n64 => ?_)
          · refine r_con (v := 0) cd_45_60 rfl (by decide) ?_
            exact r_ret cd_45_61 (Or.inl rfl) (rfl)
          · exact absurd n64 (by decide)
        · exact absurd n63 (by decide)
      · exact absurd n62 (by decide)
    · exact absurd n61 (by omega)
  · rw [hA1] at P1
    obtain ⟨g1, d1_, s1, ⟨st1, kd1, vl1, t1⟩, vv1, m1⟩ := P1
    have v1 : g1.2.2 222 = .inl (0, 4, .inl (va_up va 0 ((q1 : Nat) : Int))) := vv1
    have b1 : g1.2.2 203 = .inl (1, 600, .inl tb) := (m1.1 203 (by decide) (by decide) (by decide)).trans hB
    have R1 : Rp g1 204 w := m1.rp hR
    obtain ⟨z1a, z1b, z1c, z1j, -⟩ := numA_o hA1 (by decide)
    have i1 : j1 ≤ N := by rw [z1j]; exact (tPos hi).2
    have N1 : NC h g1 := NC.rf.tr m1.nc
    by_cases hk : tKnd tx N j1 = 1
    rotate_left
    · obtain ⟨gs, ds, ss, ts, ms⟩ := v_41_5b hN hT dp ex ek eo s1 st1 kd1 vl1 j1 i1 t1 b1 hk
      rw [show cGas tx N i w = .inl (1, ((tOff tx N j1 : Nat) : Int)) from (bnd_r hA1).trans (bnd_e (if_pos hk))]
      refine ⟨gs, Ct.of [aR 201, aC 16, aU] rfl ?_, ss, ts, (ms.rp R1).ex, ⟨_, (ms.1 222 (by decide) (by decide)).trans v1⟩, N1.tr ms.nc⟩
      refine r_aldC cd_45_0 rfl rfl ?_
      refine r_nnC cd_45_1 ⟨by decide, by decide⟩ ?_
      refine r_aldR cd_45_10 rfl rfl ?_
      refine r_get cd_45_11 rfl hS rfl ?_
      refine r_con (v := 200) cd_45_14 rfl (by decide) ?_
      refine r_ic63 cd_45_17 rfl ⟨by omega, by omega⟩ ⟨by omega, by omega⟩ (fun n61 => ?_) (fun n61 => ?_)
      · refine r_con (v := 0) cd_45_26 rfl (by decide) ?_
        refine r_ist cd_45_27 rfl rfl (L' := [aR 201, aC 16, aI 0]) rfl ?_
        refine r_ild cd_45_28 rfl rfl ?_
        refine r_aldC cd_45_29 rfl rfl ?_
        refine r_cget (v := aC 75) cd_45_30 rfl (rfl) ?_
        refine r_cI (c_378 75 (by decide) (by decide)) cd_45_33 rfl rfl rfl ⟨by decide, by decide⟩ rfl rfl rfl ?_
        refine RU.cast (pc2 := 36) (S2 := [aI 1, aI 0]) rfl rfl rfl ?_
        refine r_ic64 cd_45_36 rfl ⟨by omega, by omega⟩ ⟨by omega, by omega⟩ (fun n62 => ?_) (fun n62 => ?_)
        · refine r_ild cd_45_39 rfl rfl ?_
          refine r_con (v := 4) cd_45_40 rfl (by decide) ?_
          refine r_ic64 cd_45_41 rfl ⟨by omega, by omega⟩ ⟨by omega, by omega⟩ (fun n63 => ?_) (fun n63 => ?_)
          · refine r_aldR cd_45_44 rfl rfl ?_
            refine r_aldC cd_45_45 rfl rfl ?_
            refine r_cget (v := aC 75) cd_45_46 rfl (rfl) ?_
            refine r_ild cd_45_49 rfl rfl ?_
            refine r_cI (c_380 75 0 (by decide) (by decide) (by decide)) cd_45_50 rfl rfl rfl ⟨by decide, by decide⟩ rfl rfl rfl ?_
            refine RU.cast (pc2 := 53) (S2 := [aI 97, aR 201]) rfl rfl rfl ?_
            refine r_ild cd_45_53 rfl rfl ?_
            refine r_cI d1_ cd_45_54 rfl rfl rfl (rc0 hS rfl) rfl rfl rfl ?_
            refine r_if52 cd_45_57 rfl ⟨by omega, by omega⟩ (fun n64 => ?_) (fun n64 => ?_)
            · exact absurd n64 (by decide)
            · refine r_inc (v := 1) cd_45_62 rfl rfl rfl (by omega) (L' := [aR 201, aC 16, aI 1]) rfl ?_
              refine r_goto cd_45_65 ?_
              refine r_ild cd_45_28 rfl rfl ?_
              refine r_aldC cd_45_29 rfl rfl ?_
              refine r_cget (v := aC 75) cd_45_30 rfl (rfl) ?_
              refine r_cI (c_378 75 (by decide) (by decide)) cd_45_33 rfl rfl rfl ⟨by decide, by decide⟩ rfl rfl rfl ?_
              refine RU.cast (pc2 := 36) (S2 := [aI 1, aI 1]) rfl rfl rfl ?_
              refine r_ic64 cd_45_36 rfl ⟨by omega, by omega⟩ ⟨by omega, by omega⟩ (fun n65 => ?_) (fun n65 => ?_)
              · exact absurd n65 (by decide)
              · refine r_aldR cd_45_68 rfl rfl ?_
                refine r_con (v := 5) cd_45_69 rfl (by decide) ?_
                refine r_cI ds cd_45_70 rfl rfl rfl (rc0 s1 rfl) rfl rfl rfl ?_
                refine r_if52 cd_45_73 rfl ⟨by omega, by omega⟩ (fun n66 => ?_) (fun n66 => ?_)
                · refine r_con (v := 0) cd_45_76 rfl (by decide) ?_
                  exact r_ret cd_45_77 (Or.inl rfl) (rfl)
                · exact absurd n66 (by decide)
          · exact absurd n63 (by decide)
        · exact absurd n62 (by decide)
      · exact absurd n61 (by omega)
    obtain ⟨gs, ds, ss, ⟨kds, vls, ts⟩, ms⟩ := v_41_5a hN hT dp ex ek eo s1 st1 kd1 vl1 j1 i1 t1 b1 hk
    have Rs := ms.rp R1
    have vs : gs.2.2 222 = .inl (0, 4, .inl (va_up va 0 ((q1 : Nat) : Int))) := (ms.1 222 (by decide) (by decide)).trans v1
    have nk : ¬ ¬ tKnd tx N j1 = 1 := fun e => e hk
    obtain ⟨fs, o204⟩ := Rs.o
    by_cases hc : (!decide (999 < w 2 + ((q1 : Nat) : Int))) = true
    rotate_left
    · have hr : (decide (999 < w 2 + ((q1 : Nat) : Int))) = true := by cases e : decide (999 < w 2 + ((q1 : Nat) : Int)); exact absurd (by rw [e]; rfl) hc; rfl
      rw [show cGas tx N i w = .inl (3, ((tOff tx N j1 : Nat) : Int)) from (bnd_r hA1).trans (bnd_e ((if_neg nk).trans (if_neg hc)))]
      refine ⟨sw gs 201 (SO dp ex 3 ((tOff tx N j1 : Nat) : Int)), Ct.of [aR 201, aC 16, aU] rfl ?_, sw_at _ _ _, ⟨_, _, _, _, (sw_ne (by decide)).trans ts⟩, (Rs.mv fun a h1 h2 => sw_ne (by omega)).ex, ⟨_, (sw_ne (by decide)).trans vs⟩, (N1.tr ms.nc).s⟩
      refine r_aldC cd_45_0 rfl rfl ?_
      refine r_nnC cd_45_1 ⟨by decide, by decide⟩ ?_
      refine r_aldR cd_45_10 rfl rfl ?_
      refine r_get cd_45_11 rfl hS rfl ?_
      refine r_con (v := 200) cd_45_14 rfl (by decide) ?_
      refine r_ic63 cd_45_17 rfl ⟨by omega, by omega⟩ ⟨by omega, by omega⟩ (fun n61 => ?_) (fun n61 => ?_)
      · refine r_con (v := 0) cd_45_26 rfl (by decide) ?_
        refine r_ist cd_45_27 rfl rfl (L' := [aR 201, aC 16, aI 0]) rfl ?_
        refine r_ild cd_45_28 rfl rfl ?_
        refine r_aldC cd_45_29 rfl rfl ?_
        refine r_cget (v := aC 75) cd_45_30 rfl (rfl) ?_
        refine r_cI (c_378 75 (by decide) (by decide)) cd_45_33 rfl rfl rfl ⟨by decide, by decide⟩ rfl rfl rfl ?_
        refine RU.cast (pc2 := 36) (S2 := [aI 1, aI 0]) rfl rfl rfl ?_
        refine r_ic64 cd_45_36 rfl ⟨by omega, by omega⟩ ⟨by omega, by omega⟩ (fun n62 => ?_) (fun n62 => ?_)
        · refine r_ild cd_45_39 rfl rfl ?_
          refine r_con (v := 4) cd_45_40 rfl (by decide) ?_
          refine r_ic64 cd_45_41 rfl ⟨by omega, by omega⟩ ⟨by omega, by omega⟩ (fun n63 => ?_) (fun n63 => ?_)
          · refine r_aldR cd_45_44 rfl rfl ?_
            refine r_aldC cd_45_45 rfl rfl ?_
            refine r_cget (v := aC 75) cd_45_46 rfl (rfl) ?_
            refine r_ild cd_45_49 rfl rfl ?_
            refine r_cI (c_380 75 0 (by decide) (by decide) (by decide)) cd_45_50 rfl rfl rfl ⟨by decide, by decide⟩ rfl rfl rfl ?_
            refine RU.cast (pc2 := 53) (S2 := [aI 97, aR 201]) rfl rfl rfl ?_
            refine r_ild cd_45_53 rfl rfl ?_
            refine r_cI d1_ cd_45_54 rfl rfl rfl (rc0 hS rfl) rfl rfl rfl ?_
            refine r_if52 cd_45_57 rfl ⟨by omega, by omega⟩ (fun n64 => ?_) (fun n64 => ?_)
            · exact absurd n64 (by decide)
            · refine r_inc (v := 1) cd_45_62 rfl rfl rfl (by omega) (L' := [aR 201, aC 16, aI 1]) rfl ?_
              refine r_goto cd_45_65 ?_
              refine r_ild cd_45_28 rfl rfl ?_
              refine r_aldC cd_45_29 rfl rfl ?_
              refine r_cget (v := aC 75) cd_45_30 rfl (rfl) ?_
              refine r_cI (c_378 75 (by decide) (by decide)) cd_45_33 rfl rfl rfl ⟨by decide, by decide⟩ rfl rfl rfl ?_
              refine RU.cast (pc2 := 36) (S2 := [aI 1, aI 1]) rfl rfl rfl ?_
              refine r_ic64 cd_45_36 rfl ⟨by omega, by omega⟩ ⟨by omega, by omega⟩ (fun n65 => ?_) (fun n65 => ?_)
              · exact absurd n65 (by decide)
              · refine r_aldR cd_45_68 rfl rfl ?_
                refine r_con (v := 5) cd_45_69 rfl (by decide) ?_
                refine r_cI ds cd_45_70 rfl rfl rfl (rc0 s1 rfl) rfl rfl rfl ?_
                refine r_if52 cd_45_73 rfl ⟨by omega, by omega⟩ (fun n66 => ?_) (fun n66 => ?_)
                · exact absurd n66 (by decide)
                · refine r_aldR cd_45_78 rfl rfl ?_
                  refine r_get cd_45_79 rfl ss rfl ?_
                  refine r_aldC cd_45_82 rfl rfl ?_
                  refine r_aldR cd_45_83 rfl rfl ?_
                  refine r_get cd_45_84 rfl ss rfl ?_
                  refine r_con (v := 0) cd_45_87 rfl (by decide) ?_
                  refine r_arr (i := 0) cd_45_88 rfl vs rfl (by omega) rfl ?_
                  refine RU.cast (pc2 := 89) (S2 := [aI ((q1 : Nat) : Int), aC 16, aR 204]) rfl rfl rfl ?_
                  refine r_aldR cd_45_89 rfl rfl ?_
                  refine r_get cd_45_90 rfl ss rfl ?_
                  refine r_con (v := 1) cd_45_93 rfl (by decide) ?_
                  refine r_arr (i := 1) cd_45_94 rfl vs rfl (by omega) rfl ?_
                  refine r_aldR cd_45_95 rfl rfl ?_
                  refine r_get cd_45_96 rfl ss rfl ?_
                  refine r_con (v := 3) cd_45_99 rfl (by decide) ?_
                  refine r_arr (i := 3) cd_45_100 rfl vs rfl (by omega) rfl ?_
                  refine r_cI (k_76_12 Rs hI.1 _ _ q1 (by omega)) cd_45_101 rfl rfl rfl (rc0 o204 rfl) rfl rfl rfl ?_
                  refine r_if51b cd_45_104 rfl (fun n67 => ?_) (fun n67 => ?_)
                  · exact Bool.noConfusion (n67.symm.trans hr)
                  · refine r_aldR cd_45_107 rfl rfl ?_
                    refine r_con (v := 3) cd_45_108 rfl (by decide) ?_
                    refine r_cI (k_36 dp ex ek eo ss N _ _ _ _ ts 3) cd_45_109 rfl rfl rfl (rc0 ss rfl) rfl rfl rfl ?_
                    exact r_ret cd_45_112 (Or.inl rfl) (rfl)
          · exact absurd n63 (by decide)
        · exact absurd n62 (by decide)
      · exact absurd n61 (by omega)
    have hr : (decide (999 < w 2 + ((q1 : Nat) : Int))) = false := by cases e : decide (999 < w 2 + ((q1 : Nat) : Int)); rfl; rw [e] at hc; exact absurd hc (by decide)
    obtain ⟨gc, dc, Rc, Fc⟩ := v_84_12 (B := 204) Rs hI.1 ((q1 : Nat) : Int) ((va_up va 0 ((q1 : Nat) : Int)) 1) ((va_up va 0 ((q1 : Nat) : Int)) 2) ((va_up va 0 ((q1 : Nat) : Int)) 3)
    have sc := (Fc.1 201 (by decide)).trans ss
    have vc := (Fc.1 222 (by decide)).trans vs
    have tc := (Fc.1 202 (by decide)).trans ts
    rw [show cGas tx N i w = .inr (tEnd tx N j1, va_up w 2 (w 2 + ((q1 : Nat) : Int))) from (bnd_r hA1).trans ((bnd_r ((if_neg nk).trans (if_pos hc))))]
    refine ⟨sw gc 201 (SO dp (ex + 1) ek eo), Ct.of [aR 201, aC 16, aU] rfl ?_, sw_at _ _ _, ⟨_, _, _, (sw_ne (by decide)).trans tc⟩, Rc.mv fun a h1 h2 => sw_ne (by omega), ⟨_, (sw_ne (by decide)).trans vc⟩, ((N1.tr ms.nc).tr Fc.nc).s⟩
    refine r_aldC cd_45_0 rfl rfl ?_
    refine r_nnC cd_45_1 ⟨by decide, by decide⟩ ?_
    refine r_aldR cd_45_10 rfl rfl ?_
    refine r_get cd_45_11 rfl hS rfl ?_
    refine r_con (v := 200) cd_45_14 rfl (by decide) ?_
    refine r_ic63 cd_45_17 rfl ⟨by omega, by omega⟩ ⟨by omega, by omega⟩ (fun n61 => ?_) (fun n61 => ?_)
    · refine r_con (v := 0) cd_45_26 rfl (by decide) ?_
      refine r_ist cd_45_27 rfl rfl (L' := [aR 201, aC 16, aI 0]) rfl ?_
      refine r_ild cd_45_28 rfl rfl ?_
      refine r_aldC cd_45_29 rfl rfl ?_
      refine r_cget (v := aC 75) cd_45_30 rfl (rfl) ?_
      refine r_cI (c_378 75 (by decide) (by decide)) cd_45_33 rfl rfl rfl ⟨by decide, by decide⟩ rfl rfl rfl ?_
      refine RU.cast (pc2 := 36) (S2 := [aI 1, aI 0]) rfl rfl rfl ?_
      refine r_ic64 cd_45_36 rfl ⟨by omega, by omega⟩ ⟨by omega, by omega⟩ (fun n62 => ?_) (fun n62 => ?_)
      · refine r_ild cd_45_39 rfl rfl ?_
        refine r_con (v := 4) cd_45_40 rfl (by decide) ?_
        refine r_ic64 cd_45_41 rfl ⟨by omega, by omega⟩ ⟨by omega, by omega⟩ (fun n63 => ?_) (fun n63 => ?_)
        · refine r_aldR cd_45_44 rfl rfl ?_
          refine r_aldC cd_45_45 rfl rfl ?_
          refine r_cget (v := aC 75) cd_45_46 rfl (rfl) ?_
          refine r_ild cd_45_49 rfl rfl ?_
          refine r_cI (c_380 75 0 (by decide) (by decide) (by decide)) cd_45_50 rfl rfl rfl ⟨by decide, by decide⟩ rfl rfl rfl ?_
          refine RU.cast (pc2 := 53) (S2 := [aI 97, aR 201]) rfl rfl rfl ?_
          refine r_ild cd_45_53 rfl rfl ?_
          refine r_cI d1_ cd_45_54 rfl rfl rfl (rc0 hS rfl) rfl rfl rfl ?_
          refine r_if52 cd_45_57 rfl ⟨by omega, by omega⟩ (fun n64 => ?_) (fun n64 => ?_)
          · exact absurd n64 (by decide)
          · refine r_inc (v := 1) cd_45_62 rfl rfl rfl (by omega) (L' := [aR 201, aC 16, aI 1]) rfl ?_
            refine r_goto cd_45_65 ?_
            refine r_ild cd_45_28 rfl rfl ?_
            refine r_aldC cd_45_29 rfl rfl ?_
            refine r_cget (v := aC 75) cd_45_30 rfl (rfl) ?_
            refine r_cI (c_378 75 (by decide) (by decide)) cd_45_33 rfl rfl rfl ⟨by decide, by decide⟩ rfl rfl rfl ?_
            refine RU.cast (pc2 := 36) (S2 := [aI 1, aI 1]) rfl rfl rfl ?_
            refine r_ic64 cd_45_36 rfl ⟨by omega, by omega⟩ ⟨by omega, by omega⟩ (fun n65 => ?_) (fun n65 => ?_)
            · exact absurd n65 (by decide)
            · refine r_aldR cd_45_68 rfl rfl ?_
              refine r_con (v := 5) cd_45_69 rfl (by decide) ?_
              refine r_cI ds cd_45_70 rfl rfl rfl (rc0 s1 rfl) rfl rfl rfl ?_
              refine r_if52 cd_45_73 rfl ⟨by omega, by omega⟩ (fun n66 => ?_) (fun n66 => ?_)
              · exact absurd n66 (by decide)
              · refine r_aldR cd_45_78 rfl rfl ?_
                refine r_get cd_45_79 rfl ss rfl ?_
                refine r_aldC cd_45_82 rfl rfl ?_
                refine r_aldR cd_45_83 rfl rfl ?_
                refine r_get cd_45_84 rfl ss rfl ?_
                refine r_con (v := 0) cd_45_87 rfl (by decide) ?_
                refine r_arr (i := 0) cd_45_88 rfl vs rfl (by omega) rfl ?_
                refine RU.cast (pc2 := 89) (S2 := [aI ((q1 : Nat) : Int), aC 16, aR 204]) rfl rfl rfl ?_
                refine r_aldR cd_45_89 rfl rfl ?_
                refine r_get cd_45_90 rfl ss rfl ?_
                refine r_con (v := 1) cd_45_93 rfl (by decide) ?_
                refine r_arr (i := 1) cd_45_94 rfl vs rfl (by omega) rfl ?_
                refine r_aldR cd_45_95 rfl rfl ?_
                refine r_get cd_45_96 rfl ss rfl ?_
                refine r_con (v := 3) cd_45_99 rfl (by decide) ?_
                refine r_arr (i := 3) cd_45_100 rfl vs rfl (by omega) rfl ?_
                refine r_cI (k_76_12 Rs hI.1 _ _ q1 (by omega)) cd_45_101 rfl rfl rfl (rc0 o204 rfl) rfl rfl rfl ?_
                refine r_if51b cd_45_104 rfl (fun n67 => ?_) (fun n67 => ?_)
                · refine r_aldR cd_45_113 rfl rfl ?_
                  refine r_get cd_45_114 rfl ss rfl ?_
                  refine r_aldC cd_45_117 rfl rfl ?_
                  refine r_aldR cd_45_118 rfl rfl ?_
                  refine r_get cd_45_119 rfl ss rfl ?_
                  refine r_con (v := 0) cd_45_122 rfl (by decide) ?_
                  refine r_arr (i := 0) cd_45_123 rfl vs rfl (by omega) rfl ?_
                  refine RU.cast (pc2 := 124) (S2 := [aI ((q1 : Nat) : Int), aC 16, aR 204]) rfl rfl rfl ?_
                  refine r_aldR cd_45_124 rfl rfl ?_
                  refine r_get cd_45_125 rfl ss rfl ?_
                  refine r_con (v := 1) cd_45_128 rfl (by decide) ?_
                  refine r_arr (i := 1) cd_45_129 rfl vs rfl (by omega) rfl ?_
                  refine r_aldR cd_45_130 rfl rfl ?_
                  refine r_get cd_45_131 rfl ss rfl ?_
                  refine r_con (v := 2) cd_45_134 rfl (by decide) ?_
                  refine r_arr (i := 2) cd_45_135 rfl vs rfl (by omega) rfl ?_
                  refine r_aldR cd_45_136 rfl rfl ?_
                  refine r_get cd_45_137 rfl ss rfl ?_
                  refine r_con (v := 3) cd_45_140 rfl (by decide) ?_
                  refine r_arr (i := 3) cd_45_141 rfl vs rfl (by omega) rfl ?_
                  refine r_cI dc cd_45_142 rfl rfl rfl (rc0 o204 rfl) rfl rfl rfl ?_
                  refine r_pop cd_45_145 rfl rfl ?_
                  refine r_aldR cd_45_146 rfl rfl ?_
                  refine r_dup cd_45_147 rfl rfl ?_
                  refine r_get cd_45_148 rfl sc rfl ?_
                  refine r_con (v := 1) cd_45_151 rfl (by decide) ?_
                  refine r_add (v := ex + 1) cd_45_152 rfl (by rfl) ?_
                  refine r_put (fs' := [aR 202, aR 204, aR 222, aR 223, aR 224, aI dp, aI (ex + 1), aI ek, aI eo]) cd_45_153 rfl sc rfl rfl ?_
                  refine r_con (v := 1) cd_45_156 rfl (by decide) ?_
                  exact r_ret cd_45_157 (Or.inr rfl) (rfl)
                · exact Bool.noConfusion (n67.symm.trans hr)
        · exact absurd n63 (by decide)
      · exact absurd n62 (by decide)
    · exact absurd n61 (by omega)
theorem v_45_13 {h : aH} {tx tb : Nat → Int} {N : Nat} (hN : N ≤ 600) (hT : ∀ k, k < N → BT (tx k) (tb k)) (dp ex ek eo : Int) (hS : h.2.2 201 = SO dp ex ek eo) (hx0 : 0 ≤ ex) (hx : ex < 200) {w : Nat → Int} (hR : Rp h 204 w) (hI : Inv w) {va : Nat → Int} (hV : h.2.2 222 = .inl (0, 4, .inl va)) (hb : TxB tx) (st kd vl : Int) (i : Nat) (hi : i ≤ N) (hO : h.2.2 202 = TO N st ((i : Nat) : Int) kd vl) (hB : h.2.2 203 = .inl (1, 600, .inl tb)) : CmdP 8 45 [aR 201, aC 17] h N dp ex ek eo (cClm tx N i w) := by
  have hbn := hI.1.bNe
  have hpn := hI.1.pNe
  have x0 := hI.1.len
  have x1 := hI.2.1
  have x1b := hI.1.hour
  have x4 := hI.1.gn
  have x5 := hI.1.bn
  have x6 := hI.1.pn
  have P1 := v_46_p0 hN hT dp ex ek eo hS hR hI.1 hV hb st kd vl i hi hO hB
  rcases hA1 : numA tx N i 0 (w 0 - 1) with e | ⟨q1, j1⟩
  · rw [hA1] at P1
    obtain ⟨g1, d1_, s1, t1, v1, m1⟩ := P1
    rw [show cClm tx N i w = .inl e from bnd_e hA1]
    refine ⟨g1, Ct.of [aR 201, aC 17, aU] rfl ?_, s1, t1, (m1.rp hR).ex, v1, NC.rf.tr m1.nc⟩
    refine r_aldC cd_45_0 rfl rfl ?_
    refine r_nnC cd_45_1 ⟨by decide, by decide⟩ ?_
    refine r_aldR cd_45_10 rfl rfl ?_
    refine r_get cd_45_11 rfl hS rfl ?_
    refine r_con (v := 200) cd_45_14 rfl (by decide) ?_
    refine r_ic63 cd_45_17 rfl ⟨by omega, by omega⟩ ⟨by omega, by omega⟩ (fun n61 => ?_) (fun n61 => ?_)
    · refine r_con (v := 0) cd_45_26 rfl (by decide) ?_
      refine r_ist cd_45_27 rfl rfl (L' := [aR 201, aC 17, aI 0]) rfl ?_
      refine r_ild cd_45_28 rfl rfl ?_
      refine r_aldC cd_45_29 rfl rfl ?_
      refine r_cget (v := aC 77) cd_45_30 rfl (rfl) ?_
      refine r_cI (c_378 77 (by decide) (by decide)) cd_45_33 rfl rfl rfl ⟨by decide, by decide⟩ rfl rfl rfl ?_
      refine RU.cast (pc2 := 36) (S2 := [aI 2, aI 0]) rfl rfl rfl ?_
      refine r_ic64 cd_45_36 rfl ⟨by omega, by omega⟩ ⟨by omega, by omega⟩ (fun n62 => ?_) (fun n62 => ?_)
      · refine r_ild cd_45_39 rfl rfl ?_
        refine r_con (v := 4) cd_45_40 rfl (by decide) ?_
        refine r_ic64 cd_45_41 rfl ⟨by omega, by omega⟩ ⟨by omega, by omega⟩ (fun n63 => ?_) (fun n63 => ?_)
        · refine r_aldR cd_45_44 rfl rfl ?_
          refine r_aldC cd_45_45 rfl rfl ?_
          refine r_cget (v := aC 77) cd_45_46 rfl (rfl) ?_
          refine r_ild cd_45_49 rfl rfl ?_
          refine r_cI (c_380 77 0 (by decide) (by decide) (by decide)) cd_45_50 rfl rfl rfl ⟨by decide, by decide⟩ rfl rfl rfl ?_
          refine RU.cast (pc2 := 53) (S2 := [aI 112, aR 201]) rfl rfl rfl ?_
          refine r_ild cd_45_53 rfl rfl ?_
          refine r_cI d1_ cd_45_54 rfl rfl rfl (rc0 hS rfl) rfl rfl rfl ?_
          refine r_if52 cd_45_57 rfl ⟨by omega, by omega⟩ (fun n64 => ?_) (fun n64 => ?_)
          · refine r_con (v := 0) cd_45_60 rfl (by decide) ?_
            exact r_ret cd_45_61 (Or.inl rfl) (rfl)
          · exact absurd n64 (by decide)
        · exact absurd n63 (by decide)
      · exact absurd n62 (by decide)
    · exact absurd n61 (by omega)
  · rw [hA1] at P1
    obtain ⟨g1, d1_, s1, ⟨st1, kd1, vl1, t1⟩, vv1, m1⟩ := P1
    have v1 : g1.2.2 222 = .inl (0, 4, .inl (va_up va 0 ((q1 : Nat) : Int))) := vv1
    have b1 : g1.2.2 203 = .inl (1, 600, .inl tb) := (m1.1 203 (by decide) (by decide) (by decide)).trans hB
    have R1 : Rp g1 204 w := m1.rp hR
    obtain ⟨z1a, z1b, z1c, z1j, -⟩ := numA_o hA1 (by decide)
    have i1 : j1 ≤ N := by rw [z1j]; exact (tPos hi).2
    have N1 : NC h g1 := NC.rf.tr m1.nc
    have P2 := v_46_k1 hN hT dp ex ek eo s1 R1 hI.1 v1 hb st1 kd1 vl1 j1 i1 t1 b1 q1 (by omega) (vu_at _ _ _)
    rcases hA2 : clmA tx N j1 q1 w with e | ⟨q2, j2⟩
    · rw [hA2] at P2
      obtain ⟨g2, d2_, s2, t2, v2, m2⟩ := P2
      rw [show cClm tx N i w = .inl e from (bnd_r hA1).trans (bnd_e hA2)]
      refine ⟨g2, Ct.of [aR 201, aC 17, aU] rfl ?_, s2, t2, (m2.rp R1).ex, v2, N1.tr m2.nc⟩
      refine r_aldC cd_45_0 rfl rfl ?_
      refine r_nnC cd_45_1 ⟨by decide, by decide⟩ ?_
      refine r_aldR cd_45_10 rfl rfl ?_
      refine r_get cd_45_11 rfl hS rfl ?_
      refine r_con (v := 200) cd_45_14 rfl (by decide) ?_
      refine r_ic63 cd_45_17 rfl ⟨by omega, by omega⟩ ⟨by omega, by omega⟩ (fun n61 => ?_) (fun n61 => ?_)
      · refine r_con (v := 0) cd_45_26 rfl (by decide) ?_
        refine r_ist cd_45_27 rfl rfl (L' := [aR 201, aC 17, aI 0]) rfl ?_
        refine r_ild cd_45_28 rfl rfl ?_
        refine r_aldC cd_45_29 rfl rfl ?_
        refine r_cget (v := aC 77) cd_45_30 rfl (rfl) ?_
        refine r_cI (c_378 77 (by decide) (by decide)) cd_45_33 rfl rfl rfl ⟨by decide, by decide⟩ rfl rfl rfl ?_
        refine RU.cast (pc2 := 36) (S2 := [aI 2, aI 0]) rfl rfl rfl ?_
        refine r_ic64 cd_45_36 rfl ⟨by omega, by omega⟩ ⟨by omega, by omega⟩ (fun n62 => ?_) (fun n62 => ?_)
        · refine r_ild cd_45_39 rfl rfl ?_
          refine r_con (v := 4) cd_45_40 rfl (by decide) ?_
          refine r_ic64 cd_45_41 rfl ⟨by omega, by omega⟩ ⟨by omega, by omega⟩ (fun n63 => ?_) (fun n63 => ?_)
          · refine r_aldR cd_45_44 rfl rfl ?_
            refine r_aldC cd_45_45 rfl rfl ?_
            refine r_cget (v := aC 77) cd_45_46 rfl (rfl) ?_
            refine r_ild cd_45_49 rfl rfl ?_
            refine r_cI (c_380 77 0 (by decide) (by decide) (by decide)) cd_45_50 rfl rfl rfl ⟨by decide, by decide⟩ rfl rfl rfl ?_
            refine RU.cast (pc2 := 53) (S2 := [aI 112, aR 201]) rfl rfl rfl ?_
            refine r_ild cd_45_53 rfl rfl ?_
            refine r_cI d1_ cd_45_54 rfl rfl rfl (rc0 hS rfl) rfl rfl rfl ?_
            refine r_if52 cd_45_57 rfl ⟨by omega, by omega⟩ (fun n64 => ?_) (fun n64 => ?_)
            · exact absurd n64 (by decide)
            · refine r_inc (v := 1) cd_45_62 rfl rfl rfl (by omega) (L' := [aR 201, aC 17, aI 1]) rfl ?_
              refine r_goto cd_45_65 ?_
              refine r_ild cd_45_28 rfl rfl ?_
              refine r_aldC cd_45_29 rfl rfl ?_
              refine r_cget (v := aC 77) cd_45_30 rfl (rfl) ?_
              refine r_cI (c_378 77 (by decide) (by decide)) cd_45_33 rfl rfl rfl ⟨by decide, by decide⟩ rfl rfl rfl ?_
              refine RU.cast (pc2 := 36) (S2 := [aI 2, aI 1]) rfl rfl rfl ?_
              refine r_ic64 cd_45_36 rfl ⟨by omega, by omega⟩ ⟨by omega, by omega⟩ (fun n65 => ?_) (fun n65 => ?_)
              · refine r_ild cd_45_39 rfl rfl ?_
                refine r_con (v := 4) cd_45_40 rfl (by decide) ?_
                refine r_ic64 cd_45_41 rfl ⟨by omega, by omega⟩ ⟨by omega, by omega⟩ (fun n66 => ?_) (fun n66 => ?_)
                · refine r_aldR cd_45_44 rfl rfl ?_
                  refine r_aldC cd_45_45 rfl rfl ?_
                  refine r_cget (v := aC 77) cd_45_46 rfl (rfl) ?_
                  refine r_ild cd_45_49 rfl rfl ?_
                  refine r_cI (c_380 77 1 (by decide) (by decide) (by decide)) cd_45_50 rfl rfl rfl ⟨by decide, by decide⟩ rfl rfl rfl ?_
                  refine RU.cast (pc2 := 53) (S2 := [aI 107, aR 201]) rfl rfl rfl ?_
                  refine r_ild cd_45_53 rfl rfl ?_
                  refine r_cI d2_ cd_45_54 rfl rfl rfl (rc0 s1 rfl) rfl rfl rfl ?_
                  refine r_if52 cd_45_57 rfl ⟨by omega, by omega⟩ (fun n67 => ?_) (fun n67 => ?_)
                  · refine r_con (v := 0) cd_45_60 rfl (by decide) ?_
                    exact r_ret cd_45_61 (Or.inl rfl) (rfl)
                  · exact absurd n67 (by decide)
                · exact absurd n66 (by decide)
              · exact absurd n65 (by decide)
          · exact absurd n63 (by decide)
        · exact absurd n62 (by decide)
      · exact absurd n61 (by omega)
    · rw [hA2] at P2
      obtain ⟨g2, d2_, s2, ⟨st2, kd2, vl2, t2⟩, vv2, m2⟩ := P2
      have v2 : g2.2.2 222 = .inl (0, 4, .inl (va_up (va_up va 0 ((q1 : Nat) : Int)) 1 ((q2 : Nat) : Int))) := vv2
      have b2 : g2.2.2 203 = .inl (1, 600, .inl tb) := (m2.1 203 (by decide) (by decide) (by decide)).trans b1
      have R2 : Rp g2 204 w := m2.rp R1
      obtain ⟨z2a, z2b, z2c, z2j, -⟩ := numA_o (clmA_o hA2).1 (by decide)
      have i2 : j2 ≤ N := by rw [z2j]; exact (tPos i1).2
      have N2 : NC h g2 := N1.tr m2.nc
      by_cases hk : tKnd tx N j2 = 1
      rotate_left
      · obtain ⟨gs, ds, ss, ts, ms⟩ := v_41_5b hN hT dp ex ek eo s2 st2 kd2 vl2 j2 i2 t2 b2 hk
        rw [show cClm tx N i w = .inl (1, ((tOff tx N j2 : Nat) : Int)) from (bnd_r hA1).trans ((bnd_r hA2).trans (bnd_e (if_pos hk)))]
        refine ⟨gs, Ct.of [aR 201, aC 17, aU] rfl ?_, ss, ts, (ms.rp R2).ex, ⟨_, (ms.1 222 (by decide) (by decide)).trans v2⟩, N2.tr ms.nc⟩
        refine r_aldC cd_45_0 rfl rfl ?_
        refine r_nnC cd_45_1 ⟨by decide, by decide⟩ ?_
        refine r_aldR cd_45_10 rfl rfl ?_
        refine r_get cd_45_11 rfl hS rfl ?_
        refine r_con (v := 200) cd_45_14 rfl (by decide) ?_
        refine r_ic63 cd_45_17 rfl ⟨by omega, by omega⟩ ⟨by omega, by omega⟩ (fun n61 => ?_) (fun n61 => ?_)
        · refine r_con (v := 0) cd_45_26 rfl (by decide) ?_
          refine r_ist cd_45_27 rfl rfl (L' := [aR 201, aC 17, aI 0]) rfl ?_
          refine r_ild cd_45_28 rfl rfl ?_
          refine r_aldC cd_45_29 rfl rfl ?_
          refine r_cget (v := aC 77) cd_45_30 rfl (rfl) ?_
          refine r_cI (c_378 77 (by decide) (by decide)) cd_45_33 rfl rfl rfl ⟨by decide, by decide⟩ rfl rfl rfl ?_
          refine RU.cast (pc2 := 36) (S2 := [aI 2, aI 0]) rfl rfl rfl ?_
          refine r_ic64 cd_45_36 rfl ⟨by omega, by omega⟩ ⟨by omega, by omega⟩ (fun n62 => ?_) (fun n62 => ?_)
          · refine r_ild cd_45_39 rfl rfl ?_
            refine r_con (v := 4) cd_45_40 rfl (by decide) ?_
            refine r_ic64 cd_45_41 rfl ⟨by omega, by omega⟩ ⟨by omega, by omega⟩ (fun n63 => ?_) (fun n63 => ?_)
            · refine r_aldR cd_45_44 rfl rfl ?_
              refine r_aldC cd_45_45 rfl rfl ?_
              refine r_cget (v := aC 77) cd_45_46 rfl (rfl) ?_
              refine r_ild cd_45_49 rfl rfl ?_
              refine r_cI (c_380 77 0 (by decide) (by decide) (by decide)) cd_45_50 rfl rfl rfl ⟨by decide, by decide⟩ rfl rfl rfl ?_
              refine RU.cast (pc2 := 53) (S2 := [aI 112, aR 201]) rfl rfl rfl ?_
              refine r_ild cd_45_53 rfl rfl ?_
              refine r_cI d1_ cd_45_54 rfl rfl rfl (rc0 hS rfl) rfl rfl rfl ?_
              refine r_if52 cd_45_57 rfl ⟨by omega, by omega⟩ (fun n64 => ?_) (fun n64 => ?_)
              · exact absurd n64 (by decide)
              · refine r_inc (v := 1) cd_45_62 rfl rfl rfl (by omega) (L' := [aR 201, aC 17, aI 1]) rfl ?_
                refine r_goto cd_45_65 ?_
                refine r_ild cd_45_28 rfl rfl ?_
                refine r_aldC cd_45_29 rfl rfl ?_
                refine r_cget (v := aC 77) cd_45_30 rfl (rfl) ?_
                refine r_cI (c_378 77 (by decide) (by decide)) cd_45_33 rfl rfl rfl ⟨by decide, by decide⟩ rfl rfl rfl ?_
                refine RU.cast (pc2 := 36) (S2 := [aI 2, aI 1]) rfl rfl rfl ?_
                refine r_ic64 cd_45_36 rfl ⟨by omega, by omega⟩ ⟨by omega, by omega⟩ (fun n65 => ?_) (fun n65 => ?_)
                · refine r_ild cd_45_39 rfl rfl ?_
                  refine r_con (v := 4) cd_45_40 rfl (by decide) ?_
                  refine r_ic64 cd_45_41 rfl ⟨by omega, by omega⟩ ⟨by omega, by omega⟩ (fun n66 => ?_) (fun n66 => ?_)
                  · refine r_aldR cd_45_44 rfl rfl ?_
                    refine r_aldC cd_45_45 rfl rfl ?_
                    refine r_cget (v := aC 77) cd_45_46 rfl (rfl) ?_
                    refine r_ild cd_45_49 rfl rfl ?_
                    refine r_cI (c_380 77 1 (by decide) (by decide) (by decide)) cd_45_50 rfl rfl rfl ⟨by decide, by decide⟩ rfl rfl rfl ?_
                    refine RU.cast (pc2 := 53) (S2 := [aI 107, aR 201]) rfl rfl rfl ?_
                    refine r_ild cd_45_53 rfl rfl ?_
                    refine r_cI d2_ cd_45_54 rfl rfl rfl (rc0 s1 rfl) rfl rfl rfl ?_
                    refine r_if52 cd_45_57 rfl ⟨by omega, by omega⟩ (fun n67 => ?_) (fun n67 => ?_)
                    · exact absurd n67 (by decide)
                    · refine r_inc (v := 2) cd_45_62 rfl rfl rfl (by omega) (L' := [aR 201, aC 17, aI 2]) rfl ?_
                      refine r_goto cd_45_65 ?_
                      refine r_ild cd_45_28 rfl rfl ?_
                      refine r_aldC cd_45_29 rfl rfl ?_
                      refine r_cget (v := aC 77) cd_45_30 rfl (rfl) ?_
                      refine r_cI (c_378 77 (by decide) (by decide)) cd_45_33 rfl rfl rfl ⟨by decide, by decide⟩ rfl rfl rfl ?_
                      refine RU.cast (pc2 := 36) (S2 := [aI 2, aI 2]) rfl rfl rfl ?_
                      refine r_ic64 cd_45_36 rfl ⟨by omega, by omega⟩ ⟨by omega, by omega⟩ (fun n68 => ?_) (fun n68 => ?_)
                      · exact absurd n68 (by decide)
                      · refine r_aldR cd_45_68 rfl rfl ?_
                        refine r_con (v := 5) cd_45_69 rfl (by decide) ?_
                        refine r_cI ds cd_45_70 rfl rfl rfl (rc0 s2 rfl) rfl rfl rfl ?_
                        refine r_if52 cd_45_73 rfl ⟨by omega, by omega⟩ (fun n69 => ?_) (fun n69 => ?_)
                        · refine r_con (v := 0) cd_45_76 rfl (by decide) ?_
                          exact r_ret cd_45_77 (Or.inl rfl) (rfl)
                        · exact absurd n69 (by decide)
                  · exact absurd n66 (by decide)
                · exact absurd n65 (by decide)
            · exact absurd n63 (by decide)
          · exact absurd n62 (by decide)
        · exact absurd n61 (by omega)
      obtain ⟨gs, ds, ss, ⟨kds, vls, ts⟩, ms⟩ := v_41_5a hN hT dp ex ek eo s2 st2 kd2 vl2 j2 i2 t2 b2 hk
      have Rs := ms.rp R2
      have vs : gs.2.2 222 = .inl (0, 4, .inl (va_up (va_up va 0 ((q1 : Nat) : Int)) 1 ((q2 : Nat) : Int))) := (ms.1 222 (by decide) (by decide)).trans v2
      have nk : ¬ ¬ tKnd tx N j2 = 1 := fun e => e hk
      obtain ⟨fs, o204⟩ := Rs.o
      have hnf := (clmA_o hA2).2
      have hfb := foundP_b (w := w) ((q1 : Nat) : Int) ((q2 : Nat) : Int)
      obtain ⟨p9, hf⟩ : ∃ p : Nat, foundP w ((q1 : Nat) : Int) ((q2 : Nat) : Int) = ((p : Nat) : Int) := ⟨(foundP w ((q1 : Nat) : Int) ((q2 : Nat) : Int)).toNat, by omega⟩
      have hr : false = false := rfl
      obtain ⟨gc, dc, Rc, Fc⟩ := v_84_13 (B := 204) Rs hI.1 q1 (by omega) ((q2 : Nat) : Int) ⟨by omega, by omega⟩ p9 hf ((va_up (va_up va 0 ((q1 : Nat) : Int)) 1 ((q2 : Nat) : Int)) 2) ((va_up (va_up va 0 ((q1 : Nat) : Int)) 1 ((q2 : Nat) : Int)) 3)
      have sc := (Fc.1 201 (by decide)).trans ss
      have vc := (Fc.1 222 (by decide)).trans vs
      have tc := (Fc.1 202 (by decide)).trans ts
      rw [show cClm tx N i w = .inr (tEnd tx N j2, clmW w (foundP w ((q1 : Nat) : Int) ((q2 : Nat) : Int)).toNat) from (bnd_r hA1).trans ((bnd_r hA2).trans ((bnd_r ((if_neg nk).trans (if_pos rfl)))))]
      rw [hf, Int.toNat_natCast]
      refine ⟨sw gc 201 (SO dp (ex + 1) ek eo), Ct.of [aR 201, aC 17, aU] rfl ?_, sw_at _ _ _, ⟨_, _, _, (sw_ne (by decide)).trans tc⟩, Rc.mv fun a h1 h2 => sw_ne (by omega), ⟨_, (sw_ne (by decide)).trans vc⟩, ((N2.tr ms.nc).tr Fc.nc).s⟩
      refine r_aldC cd_45_0 rfl rfl ?_
      refine r_nnC cd_45_1 ⟨by decide, by decide⟩ ?_
      refine r_aldR cd_45_10 rfl rfl ?_
      refine r_get cd_45_11 rfl hS rfl ?_
      refine r_con (v := 200) cd_45_14 rfl (by decide) ?_
      refine r_ic63 cd_45_17 rfl ⟨by omega, by omega⟩ ⟨by omega, by omega⟩ (fun n61 => ?_) (fun n61 => ?_)
      · refine r_con (v := 0) cd_45_26 rfl (by decide) ?_
        refine r_ist cd_45_27 rfl rfl (L' := [aR 201, aC 17, aI 0]) rfl ?_
        refine r_ild cd_45_28 rfl rfl ?_
        refine r_aldC cd_45_29 rfl rfl ?_
        refine r_cget (v := aC 77) cd_45_30 rfl (rfl) ?_
        refine r_cI (c_378 77 (by decide) (by decide)) cd_45_33 rfl rfl rfl ⟨by decide, by decide⟩ rfl rfl rfl ?_
        refine RU.cast (pc2 := 36) (S2 := [aI 2, aI 0]) rfl rfl rfl ?_
        refine r_ic64 cd_45_36 rfl ⟨by omega, by omega⟩ ⟨by omega, by omega⟩ (fun n62 => ?_) (fun n62 => ?_)
        · refine r_ild cd_45_39 rfl rfl ?_
          refine r_con (v := 4) cd_45_40 rfl (by decide) ?_
          refine r_ic64 cd_45_41 rfl ⟨by omega, by omega⟩ ⟨by omega, by omega⟩ (fun n63 => ?_) (fun n63 => ?_)
          · refine r_aldR cd_45_44 rfl rfl ?_
            refine r_aldC cd_45_45 rfl rfl ?_
            refine r_cget (v := aC 77) cd_45_46 rfl (rfl) ?_
            refine r_ild cd_45_49 rfl rfl ?_
            refine r_cI (c_380 77 0 (by decide) (by decide) (by decide)) cd_45_50 rfl rfl rfl ⟨by decide, by decide⟩ rfl rfl rfl ?_
            refine RU.cast (pc2 := 53) (S2 := [aI 112, aR 201]) rfl rfl rfl ?_
            refine r_ild cd_45_53 rfl rfl ?_
            refine r_cI d1_ cd_45_54 rfl rfl rfl (rc0 hS rfl) rfl rfl rfl ?_
            refine r_if52 cd_45_57 rfl ⟨by omega, by omega⟩ (fun n64 => ?_) (fun n64 => ?_)
            · exact absurd n64 (by decide)
            · refine r_inc (v := 1) cd_45_62 rfl rfl rfl (by omega) (L' := [aR 201, aC 17, aI 1]) rfl ?_
              refine r_goto cd_45_65 ?_
              refine r_ild cd_45_28 rfl rfl ?_
              refine r_aldC cd_45_29 rfl rfl ?_
              refine r_cget (v := aC 77) cd_45_30 rfl (rfl) ?_
              refine r_cI (c_378 77 (by decide) (by decide)) cd_45_33 rfl rfl rfl ⟨by decide, by decide⟩ rfl rfl rfl ?_
              refine RU.cast (pc2 := 36) (S2 := [aI 2, aI 1]) rfl rfl rfl ?_
              refine r_ic64 cd_45_36 rfl ⟨by omega, by omega⟩ ⟨by omega, by omega⟩ (fun n65 => ?_) (fun n65 => ?_)
              · refine r_ild cd_45_39 rfl rfl ?_
                refine r_con (v := 4) cd_45_40 rfl (by decide) ?_
                refine r_ic64 cd_45_41 rfl ⟨by omega, by omega⟩ ⟨by omega, by omega⟩ (fun n66 => ?_) (fun n66 => ?_)
                · refine r_aldR cd_45_44 rfl rfl ?_
                  refine r_aldC cd_45_45 rfl rfl ?_
                  refine r_cget (v := aC 77) cd_45_46 rfl (rfl) ?_
                  refine r_ild cd_45_49 rfl rfl ?_
                  refine r_cI (c_380 77 1 (by decide) (by decide) (by decide)) cd_45_50 rfl rfl rfl ⟨by decide, by decide⟩ rfl rfl rfl ?_
                  refine RU.cast (pc2 := 53) (S2 := [aI 107, aR 201]) rfl rfl rfl ?_
                  refine r_ild cd_45_53 rfl rfl ?_
                  refine r_cI d2_ cd_45_54 rfl rfl rfl (rc0 s1 rfl) rfl rfl rfl ?_
                  refine r_if52 cd_45_57 rfl ⟨by omega, by omega⟩ (fun n67 => ?_) (fun n67 => ?_)
                  · exact absurd n67 (by decide)
                  · refine r_inc (v := 2) cd_45_62 rfl rfl rfl (by omega) (L' := [aR 201, aC 17, aI 2]) rfl ?_
                    refine r_goto cd_45_65 ?_
                    refine r_ild cd_45_28 rfl rfl ?_
                    refine r_aldC cd_45_29 rfl rfl ?_
                    refine r_cget (v := aC 77) cd_45_30 rfl (rfl) ?_
                    refine r_cI (c_378 77 (by decide) (by decide)) cd_45_33 rfl rfl rfl ⟨by decide, by decide⟩ rfl rfl rfl ?_
                    refine RU.cast (pc2 := 36) (S2 := [aI 2, aI 2]) rfl rfl rfl ?_
                    refine r_ic64 cd_45_36 rfl ⟨by omega, by omega⟩ ⟨by omega, by omega⟩ (fun n68 => ?_) (fun n68 => ?_)
                    · exact absurd n68 (by decide)
                    · refine r_aldR cd_45_68 rfl rfl ?_
                      refine r_con (v := 5) cd_45_69 rfl (by decide) ?_
                      refine r_cI ds cd_45_70 rfl rfl rfl (rc0 s2 rfl) rfl rfl rfl ?_
                      refine r_if52 cd_45_73 rfl ⟨by omega, by omega⟩ (fun n69 => ?_) (fun n69 => ?_)
                      · exact absurd n69 (by decide)
                      · refine r_aldR cd_45_78 rfl rfl ?_
                        refine r_get cd_45_79 rfl ss rfl ?_
                        refine r_aldC cd_45_82 rfl rfl ?_
                        refine r_aldR cd_45_83 rfl rfl ?_
                        refine r_get cd_45_84 rfl ss rfl ?_
                        refine r_con (v := 0) cd_45_87 rfl (by decide) ?_
                        refine r_arr (i := 0) cd_45_88 rfl vs rfl (by omega) rfl ?_
                        refine RU.cast (pc2 := 89) (S2 := [aI ((q1 : Nat) : Int), aC 17, aR 204]) rfl rfl rfl ?_
                        refine r_aldR cd_45_89 rfl rfl ?_
                        refine r_get cd_45_90 rfl ss rfl ?_
                        refine r_con (v := 1) cd_45_93 rfl (by decide) ?_
                        refine r_arr (i := 1) cd_45_94 rfl vs rfl (by omega) rfl ?_
                        refine RU.cast (pc2 := 95) (S2 := [aI ((q2 : Nat) : Int), aI ((q1 : Nat) : Int), aC 17, aR 204]) rfl rfl rfl ?_
                        refine r_aldR cd_45_95 rfl rfl ?_
                        refine r_get cd_45_96 rfl ss rfl ?_
                        refine r_con (v := 3) cd_45_99 rfl (by decide) ?_
                        refine r_arr (i := 3) cd_45_100 rfl vs rfl (by omega) rfl ?_
                        refine r_cI (k_76_13 Rs hI.1 _ _ _) cd_45_101 rfl rfl rfl (rc0 o204 rfl) rfl rfl rfl ?_
                        refine r_if51b cd_45_104 rfl (fun n70 => ?_) (fun n70 => ?_)
                        · refine r_aldR cd_45_113 rfl rfl ?_
                          refine r_get cd_45_114 rfl ss rfl ?_
                          refine r_aldC cd_45_117 rfl rfl ?_
                          refine r_aldR cd_45_118 rfl rfl ?_
                          refine r_get cd_45_119 rfl ss rfl ?_
                          refine r_con (v := 0) cd_45_122 rfl (by decide) ?_
                          refine r_arr (i := 0) cd_45_123 rfl vs rfl (by omega) rfl ?_
                          refine RU.cast (pc2 := 124) (S2 := [aI ((q1 : Nat) : Int), aC 17, aR 204]) rfl rfl rfl ?_
                          refine r_aldR cd_45_124 rfl rfl ?_
                          refine r_get cd_45_125 rfl ss rfl ?_
                          refine r_con (v := 1) cd_45_128 rfl (by decide) ?_
                          refine r_arr (i := 1) cd_45_129 rfl vs rfl (by omega) rfl ?_
                          refine RU.cast (pc2 := 130) (S2 := [aI ((q2 : Nat) : Int), aI ((q1 : Nat) : Int), aC 17, aR 204]) rfl rfl rfl ?_
                          refine r_aldR cd_45_130 rfl rfl ?_
                          refine r_get cd_45_131 rfl ss rfl ?_
                          refine r_con (v := 2) cd_45_134 rfl (by decide) ?_
                          refine r_arr (i := 2) cd_45_135 rfl vs rfl (by omega) rfl ?_
                          refine r_aldR cd_45_136 rfl rfl ?_
                          refine r_get cd_45_137 rfl ss rfl ?_
                          refine r_con (v := 3) cd_45_140 rfl (by decide) ?_
                          refine r_arr (i := 3) cd_45_141 rfl vs rfl (by omega) rfl ?_
                          refine r_cI dc cd_45_142 rfl rfl rfl (rc0 o204 rfl) rfl rfl rfl ?_
                          refine r_pop cd_45_145 rfl rfl ?_
                          refine r_aldR cd_45_146 rfl rfl ?_
                          refine r_dup cd_45_147 rfl rfl ?_
                          refine r_get cd_45_148 rfl sc rfl ?_
                          refine r_con (v := 1) cd_45_151 rfl (by decide) ?_
                          refine r_add (v := ex + 1) cd_45_152 rfl (by rfl) ?_
                          refine r_put (fs' := [aR 202, aR 204, aR 222, aR 223, aR 224, aI dp, aI (ex + 1), aI ek, aI eo]) cd_45_153 rfl sc rfl rfl ?_
                          refine r_con (v := 1) cd_45_156 rfl (by decide) ?_
                          exact r_ret cd_45_157 (Or.inr rfl) (rfl)
                        · exact absurd n70 (by decide)
                · exact absurd n66 (by decide)
              · exact absurd n65 (by decide)
          · exact absurd n63 (by decide)
        · exact absurd n62 (by decide)
      · exact absurd n61 (by omega)
theorem v_45_14 {h : aH} {tx tb : Nat → Int} {N : Nat} (hN : N ≤ 600) (hT : ∀ k, k < N → BT (tx k) (tb k)) (dp ex ek eo : Int) (hS : h.2.2 201 = SO dp ex ek eo) (hx0 : 0 ≤ ex) (hx : ex < 200) {w : Nat → Int} (hR : Rp h 204 w) (hI : Inv w) {va : Nat → Int} (hV : h.2.2 222 = .inl (0, 4, .inl va)) (hb : TxB tx) (st kd vl : Int) (i : Nat) (hi : i ≤ N) (hO : h.2.2 202 = TO N st ((i : Nat) : Int) kd vl) (hB : h.2.2 203 = .inl (1, 600, .inl tb)) : CmdP 8 45 [aR 201, aC 18] h N dp ex ek eo (cHrs tx N i w) := by
  have hbn := hI.1.bNe
  have hpn := hI.1.pNe
  have x0 := hI.1.len
  have x1 := hI.2.1
  have x1b := hI.1.hour
  have x4 := hI.1.gn
  have x5 := hI.1.bn
  have x6 := hI.1.pn
  have P1 := v_46_t0 hN hT dp ex ek eo hS hR hI.1 hV hb st kd vl i hi hO hB
  rcases hA1 : numA tx N i 1 24 with e | ⟨q1, j1⟩
  · rw [hA1] at P1
    obtain ⟨g1, d1_, s1, t1, v1, m1⟩ := P1
    rw [show cHrs tx N i w = .inl e from bnd_e hA1]
    refine ⟨g1, Ct.of [aR 201, aC 18, aU] rfl ?_, s1, t1, (m1.rp hR).ex, v1, NC.rf.tr m1.nc⟩
    refine r_aldC cd_45_0 rfl rfl ?_
    refine r_nnC cd_45_1 ⟨by decide, by decide⟩ ?_
    refine r_aldR cd_45_10 rfl rfl ?_
    refine r_get cd_45_11 rfl hS rfl ?_
    refine r_con (v := 200) cd_45_14 rfl (by decide) ?_
    refine r_ic63 cd_45_17 rfl ⟨by omega, by omega⟩ ⟨by omega, by omega⟩ (fun n61 => ?_) (fun n61 => ?_)
    · refine r_con (v := 0) cd_45_26 rfl (by decide) ?_
      refine r_ist cd_45_27 rfl rfl (L' := [aR 201, aC 18, aI 0]) rfl ?_
      refine r_ild cd_45_28 rfl rfl ?_
      refine r_aldC cd_45_29 rfl rfl ?_
      refine r_cget (v := aC 79) cd_45_30 rfl (rfl) ?_
      refine r_cI (c_378 79 (by decide) (by decide)) cd_45_33 rfl rfl rfl ⟨by decide, by decide⟩ rfl rfl rfl ?_
      refine RU.cast (pc2 := 36) (S2 := [aI 1, aI 0]) rfl rfl rfl ?_
      refine r_ic64 cd_45_36 rfl ⟨by omega, by omega⟩ ⟨by omega, by omega⟩ (fun n62 => ?_) (fun n62 => ?_)
      · refine r_ild cd_45_39 rfl rfl ?_
        refine r_con (v := 4) cd_45_40 rfl (by decide) ?_
        refine r_ic64 cd_45_41 rfl ⟨by omega, by omega⟩ ⟨by omega, by omega⟩ (fun n63 => ?_) (fun n63 => ?_)
        · refine r_aldR cd_45_44 rfl rfl ?_
          refine r_aldC cd_45_45 rfl rfl ?_
          refine r_cget (v := aC 79) cd_45_46 rfl (rfl) ?_
          refine r_ild cd_45_49 rfl rfl ?_
          refine r_cI (c_380 79 0 (by decide) (by decide) (by decide)) cd_45_50 rfl rfl rfl ⟨by decide, by decide⟩ rfl rfl rfl ?_
          refine RU.cast (pc2 := 53) (S2 := [aI 116, aR 201]) rfl rfl rfl ?_
          refine r_ild cd_45_53 rfl rfl ?_
          refine r_cI d1_ cd_45_54 rfl rfl rfl (rc0 hS rfl) rfl rfl rfl ?_
          refine r_if52 cd_45_57 rfl ⟨by omega, by omega⟩ (fun n64 => ?_) (fun n64 => ?_)
          · refine r_con (v := 0) cd_45_60 rfl (by decide) ?_
            exact r_ret cd_45_61 (Or.inl rfl) (rfl)
          · exact absurd n64 (by decide)
        · exact absurd n63 (by decide)
      · exact absurd n62 (by decide)
    · exact absurd n61 (by omega)
  · rw [hA1] at P1
    obtain ⟨g1, d1_, s1, ⟨st1, kd1, vl1, t1⟩, vv1, m1⟩ := P1
    have v1 : g1.2.2 222 = .inl (0, 4, .inl (va_up va 0 ((q1 : Nat) : Int))) := vv1
    have b1 : g1.2.2 203 = .inl (1, 600, .inl tb) := (m1.1 203 (by decide) (by decide) (by decide)).trans hB
    have R1 : Rp g1 204 w := m1.rp hR
    obtain ⟨z1a, z1b, z1c, z1j, -⟩ := numA_o hA1 (by decide)
    have i1 : j1 ≤ N := by rw [z1j]; exact (tPos hi).2
    have N1 : NC h g1 := NC.rf.tr m1.nc
    by_cases hk : tKnd tx N j1 = 1
    rotate_left
    · obtain ⟨gs, ds, ss, ts, ms⟩ := v_41_5b hN hT dp ex ek eo s1 st1 kd1 vl1 j1 i1 t1 b1 hk
      rw [show cHrs tx N i w = .inl (1, ((tOff tx N j1 : Nat) : Int)) from (bnd_r hA1).trans (bnd_e (if_pos hk))]
      refine ⟨gs, Ct.of [aR 201, aC 18, aU] rfl ?_, ss, ts, (ms.rp R1).ex, ⟨_, (ms.1 222 (by decide) (by decide)).trans v1⟩, N1.tr ms.nc⟩
      refine r_aldC cd_45_0 rfl rfl ?_
      refine r_nnC cd_45_1 ⟨by decide, by decide⟩ ?_
      refine r_aldR cd_45_10 rfl rfl ?_
      refine r_get cd_45_11 rfl hS rfl ?_
      refine r_con (v := 200) cd_45_14 rfl (by decide) ?_
      refine r_ic63 cd_45_17 rfl ⟨by omega, by omega⟩ ⟨by omega, by omega⟩ (fun n61 => ?_) (fun n61 => ?_)
      · refine r_con (v := 0) cd_45_26 rfl (by decide) ?_
        refine r_ist cd_45_27 rfl rfl (L' := [aR 201, aC 18, aI 0]) rfl ?_
        refine r_ild cd_45_28 rfl rfl ?_
        refine r_aldC cd_45_29 rfl rfl ?_
        refine r_cget (v := aC 79) cd_45_30 rfl (rfl) ?_
        refine r_cI (c_378 79 (by decide) (by decide)) cd_45_33 rfl rfl rfl ⟨by decide, by decide⟩ rfl rfl rfl ?_
        refine RU.cast (pc2 := 36) (S2 := [aI 1, aI 0]) rfl rfl rfl ?_
        refine r_ic64 cd_45_36 rfl ⟨by omega, by omega⟩ ⟨by omega, by omega⟩ (fun n62 => ?_) (fun n62 => ?_)
        · refine r_ild cd_45_39 rfl rfl ?_
          refine r_con (v := 4) cd_45_40 rfl (by decide) ?_
          refine r_ic64 cd_45_41 rfl ⟨by omega, by omega⟩ ⟨by omega, by omega⟩ (fun n63 => ?_) (fun n63 => ?_)
          · refine r_aldR cd_45_44 rfl rfl ?_
            refine r_aldC cd_45_45 rfl rfl ?_
            refine r_cget (v := aC 79) cd_45_46 rfl (rfl) ?_
            refine r_ild cd_45_49 rfl rfl ?_
            refine r_cI (c_380 79 0 (by decide) (by decide) (by decide)) cd_45_50 rfl rfl rfl ⟨by decide, by decide⟩ rfl rfl rfl ?_
            refine RU.cast (pc2 := 53) (S2 := [aI 116, aR 201]) rfl rfl rfl ?_
            refine r_ild cd_45_53 rfl rfl ?_
            refine r_cI d1_ cd_45_54 rfl rfl rfl (rc0 hS rfl) rfl rfl rfl ?_
            refine r_if52 cd_45_57 rfl ⟨by omega, by omega⟩ (fun n64 => ?_) (fun n64 => ?_)
            · exact absurd n64 (by decide)
            · refine r_inc (v := 1) cd_45_62 rfl rfl rfl (by omega) (L' := [aR 201, aC 18, aI 1]) rfl ?_
              refine r_goto cd_45_65 ?_
              refine r_ild cd_45_28 rfl rfl ?_
              refine r_aldC cd_45_29 rfl rfl ?_
              refine r_cget (v := aC 79) cd_45_30 rfl (rfl) ?_
              refine r_cI (c_378 79 (by decide) (by decide)) cd_45_33 rfl rfl rfl ⟨by decide, by decide⟩ rfl rfl rfl ?_
              refine RU.cast (pc2 := 36) (S2 := [aI 1, aI 1]) rfl rfl rfl ?_
              refine r_ic64 cd_45_36 rfl ⟨by omega, by omega⟩ ⟨by omega, by omega⟩ (fun n65 => ?_) (fun n65 => ?_)
              · exact absurd n65 (by decide)
              · refine r_aldR cd_45_68 rfl rfl ?_
                refine r_con (v := 5) cd_45_69 rfl (by decide) ?_
                refine r_cI ds cd_45_70 rfl rfl rfl (rc0 s1 rfl) rfl rfl rfl ?_
                refine r_if52 cd_45_73 rfl ⟨by omega, by omega⟩ (fun n66 => ?_) (fun n66 => ?_)
                · refine r_con (v := 0) cd_45_76 rfl (by decide) ?_
                  exact r_ret cd_45_77 (Or.inl rfl) (rfl)
                · exact absurd n66 (by decide)
          · exact absurd n63 (by decide)
        · exact absurd n62 (by decide)
      · exact absurd n61 (by omega)
    obtain ⟨gs, ds, ss, ⟨kds, vls, ts⟩, ms⟩ := v_41_5a hN hT dp ex ek eo s1 st1 kd1 vl1 j1 i1 t1 b1 hk
    have Rs := ms.rp R1
    have vs : gs.2.2 222 = .inl (0, 4, .inl (va_up va 0 ((q1 : Nat) : Int))) := (ms.1 222 (by decide) (by decide)).trans v1
    have nk : ¬ ¬ tKnd tx N j1 = 1 := fun e => e hk
    obtain ⟨fs, o204⟩ := Rs.o
    by_cases hc : (!decide (999 < w 1 + ((q1 : Nat) : Int))) = true
    rotate_left
    · have hr : (decide (999 < w 1 + ((q1 : Nat) : Int))) = true := by cases e : decide (999 < w 1 + ((q1 : Nat) : Int)); exact absurd (by rw [e]; rfl) hc; rfl
      rw [show cHrs tx N i w = .inl (3, ((tOff tx N j1 : Nat) : Int)) from (bnd_r hA1).trans (bnd_e ((if_neg nk).trans (if_neg hc)))]
      refine ⟨sw gs 201 (SO dp ex 3 ((tOff tx N j1 : Nat) : Int)), Ct.of [aR 201, aC 18, aU] rfl ?_, sw_at _ _ _, ⟨_, _, _, _, (sw_ne (by decide)).trans ts⟩, (Rs.mv fun a h1 h2 => sw_ne (by omega)).ex, ⟨_, (sw_ne (by decide)).trans vs⟩, (N1.tr ms.nc).s⟩
      refine r_aldC cd_45_0 rfl rfl ?_
      refine r_nnC cd_45_1 ⟨by decide, by decide⟩ ?_
      refine r_aldR cd_45_10 rfl rfl ?_
      refine r_get cd_45_11 rfl hS rfl ?_
      refine r_con (v := 200) cd_45_14 rfl (by decide) ?_
      refine r_ic63 cd_45_17 rfl ⟨by omega, by omega⟩ ⟨by omega, by omega⟩ (fun n61 => ?_) (fun n61 => ?_)
      · refine r_con (v := 0) cd_45_26 rfl (by decide) ?_
        refine r_ist cd_45_27 rfl rfl (L' := [aR 201, aC 18, aI 0]) rfl ?_
        refine r_ild cd_45_28 rfl rfl ?_
        refine r_aldC cd_45_29 rfl rfl ?_
        refine r_cget (v := aC 79) cd_45_30 rfl (rfl) ?_
        refine r_cI (c_378 79 (by decide) (by decide)) cd_45_33 rfl rfl rfl ⟨by decide, by decide⟩ rfl rfl rfl ?_
        refine RU.cast (pc2 := 36) (S2 := [aI 1, aI 0]) rfl rfl rfl ?_
        refine r_ic64 cd_45_36 rfl ⟨by omega, by omega⟩ ⟨by omega, by omega⟩ (fun n62 => ?_) (fun n62 => ?_)
        · refine r_ild cd_45_39 rfl rfl ?_
          refine r_con (v := 4) cd_45_40 rfl (by decide) ?_
          refine r_ic64 cd_45_41 rfl ⟨by omega, by omega⟩ ⟨by omega, by omega⟩ (fun n63 => ?_) (fun n63 => ?_)
          · refine r_aldR cd_45_44 rfl rfl ?_
            refine r_aldC cd_45_45 rfl rfl ?_
            refine r_cget (v := aC 79) cd_45_46 rfl (rfl) ?_
            refine r_ild cd_45_49 rfl rfl ?_
            refine r_cI (c_380 79 0 (by decide) (by decide) (by decide)) cd_45_50 rfl rfl rfl ⟨by decide, by decide⟩ rfl rfl rfl ?_
            refine RU.cast (pc2 := 53) (S2 := [aI 116, aR 201]) rfl rfl rfl ?_
            refine r_ild cd_45_53 rfl rfl ?_
            refine r_cI d1_ cd_45_54 rfl rfl rfl (rc0 hS rfl) rfl rfl rfl ?_
            refine r_if52 cd_45_57 rfl ⟨by omega, by omega⟩ (fun n64 => ?_) (fun n64 => ?_)
            · exact absurd n64 (by decide)
            · refine r_inc (v := 1) cd_45_62 rfl rfl rfl (by omega) (L' := [aR 201, aC 18, aI 1]) rfl ?_
              refine r_goto cd_45_65 ?_
              refine r_ild cd_45_28 rfl rfl ?_
              refine r_aldC cd_45_29 rfl rfl ?_
              refine r_cget (v := aC 79) cd_45_30 rfl (rfl) ?_
              refine r_cI (c_378 79 (by decide) (by decide)) cd_45_33 rfl rfl rfl ⟨by decide, by decide⟩ rfl rfl rfl ?_
              refine RU.cast (pc2 := 36) (S2 := [aI 1, aI 1]) rfl rfl rfl ?_
              refine r_ic64 cd_45_36 rfl ⟨by omega, by omega⟩ ⟨by omega, by omega⟩ (fun n65 => ?_) (fun n65 => ?_)
              · exact absurd n65 (by decide)
              · refine r_aldR cd_45_68 rfl rfl ?_
                refine r_con (v := 5) cd_45_69 rfl (by decide) ?_
                refine r_cI ds cd_45_70 rfl rfl rfl (rc0 s1 rfl) rfl rfl rfl ?_
                refine r_if52 cd_45_73 rfl ⟨by omega, by omega⟩ (fun n66 => ?_) (fun n66 => ?_)
                · exact absurd n66 (by decide)
                · refine r_aldR cd_45_78 rfl rfl ?_
                  refine r_get cd_45_79 rfl ss rfl ?_
                  refine r_aldC cd_45_82 rfl rfl ?_
                  refine r_aldR cd_45_83 rfl rfl ?_
                  refine r_get cd_45_84 rfl ss rfl ?_
                  refine r_con (v := 0) cd_45_87 rfl (by decide) ?_
                  refine r_arr (i := 0) cd_45_88 rfl vs rfl (by omega) rfl ?_
                  refine RU.cast (pc2 := 89) (S2 := [aI ((q1 : Nat) : Int), aC 18, aR 204]) rfl rfl rfl ?_
                  refine r_aldR cd_45_89 rfl rfl ?_
                  refine r_get cd_45_90 rfl ss rfl ?_
                  refine r_con (v := 1) cd_45_93 rfl (by decide) ?_
                  refine r_arr (i := 1) cd_45_94 rfl vs rfl (by omega) rfl ?_
                  refine r_aldR cd_45_95 rfl rfl ?_
                  refine r_get cd_45_96 rfl ss rfl ?_
                  refine r_con (v := 3) cd_45_99 rfl (by decide) ?_
                  refine r_arr (i := 3) cd_45_100 rfl vs rfl (by omega) rfl ?_
                  refine r_cI (k_76_14 Rs hI.1 _ _ q1 (by omega)) cd_45_101 rfl rfl rfl (rc0 o204 rfl) rfl rfl rfl ?_
                  refine r_if51b cd_45_104 rfl (fun n67 => ?_) (fun n67 => ?_)
                  · exact Bool.noConfusion (n67.symm.trans hr)
                  · refine r_aldR cd_45_107 rfl rfl ?_
                    refine r_con (v := 3) cd_45_108 rfl (by decide) ?_
                    refine r_cI (k_36 dp ex ek eo ss N _ _ _ _ ts 3) cd_45_109 rfl rfl rfl (rc0 ss rfl) rfl rfl rfl ?_
                    exact r_ret cd_45_112 (Or.inl rfl) (rfl)
          · exact absurd n63 (by decide)
        · exact absurd n62 (by decide)
      · exact absurd n61 (by omega)
    have h4 : ¬ 999 < w 1 + ((q1 : Nat) : Int) := by intro e; rw [decide_eq_true e] at hc; exact absurd hc (by decide)
    have hr : (decide (999 < w 1 + ((q1 : Nat) : Int))) = false := by cases e : decide (999 < w 1 + ((q1 : Nat) : Int)); rfl; rw [e] at hc; exact absurd hc (by decide)
    obtain ⟨gc, dc, Rc, Fc⟩ := v_84_14 (B := 204) Rs hI.1 q1 (by omega) ((va_up va 0 ((q1 : Nat) : Int)) 1) ((va_up va 0 ((q1 : Nat) : Int)) 2) ((va_up va 0 ((q1 : Nat) : Int)) 3)
    have sc := (Fc.1 201 (by decide)).trans ss
    have vc := (Fc.1 222 (by decide)).trans vs
    have tc := (Fc.1 202 (by decide)).trans ts
    rw [show cHrs tx N i w = .inr (tEnd tx N j1, passW w q1) from (bnd_r hA1).trans ((bnd_r ((if_neg nk).trans (if_pos hc))))]
    refine ⟨sw gc 201 (SO dp (ex + 1) ek eo), Ct.of [aR 201, aC 18, aU] rfl ?_, sw_at _ _ _, ⟨_, _, _, (sw_ne (by decide)).trans tc⟩, Rc.mv fun a h1 h2 => sw_ne (by omega), ⟨_, (sw_ne (by decide)).trans vc⟩, ((N1.tr ms.nc).tr Fc.nc).s⟩
    refine r_aldC cd_45_0 rfl rfl ?_
    refine r_nnC cd_45_1 ⟨by decide, by decide⟩ ?_
    refine r_aldR cd_45_10 rfl rfl ?_
    refine r_get cd_45_11 rfl hS rfl ?_
    refine r_con (v := 200) cd_45_14 rfl (by decide) ?_
    refine r_ic63 cd_45_17 rfl ⟨by omega, by omega⟩ ⟨by omega, by omega⟩ (fun n61 => ?_) (fun n61 => ?_)
    · refine r_con (v := 0) cd_45_26 rfl (by decide) ?_
      refine r_ist cd_45_27 rfl rfl (L' := [aR 201, aC 18, aI 0]) rfl ?_
      refine r_ild cd_45_28 rfl rfl ?_
      refine r_aldC cd_45_29 rfl rfl ?_
      refine r_cget (v := aC 79) cd_45_30 rfl (rfl) ?_
      refine r_cI (c_378 79 (by decide) (by decide)) cd_45_33 rfl rfl rfl ⟨by decide, by decide⟩ rfl rfl rfl ?_
      refine RU.cast (pc2 := 36) (S2 := [aI 1, aI 0]) rfl rfl rfl ?_
      refine r_ic64 cd_45_36 rfl ⟨by omega, by omega⟩ ⟨by omega, by omega⟩ (fun n62 => ?_) (fun n62 => ?_)
      · refine r_ild cd_45_39 rfl rfl ?_
        refine r_con (v := 4) cd_45_40 rfl (by decide) ?_
        refine r_ic64 cd_45_41 rfl ⟨by omega, by omega⟩ ⟨by omega, by omega⟩ (fun n63 => ?_) (fun n63 => ?_)
        · refine r_aldR cd_45_44 rfl rfl ?_
          refine r_aldC cd_45_45 rfl rfl ?_
          refine r_cget (v := aC 79) cd_45_46 rfl (rfl) ?_
          refine r_ild cd_45_49 rfl rfl ?_
          refine r_cI (c_380 79 0 (by decide) (by decide) (by decide)) cd_45_50 rfl rfl rfl ⟨by decide, by decide⟩ rfl rfl rfl ?_
          refine RU.cast (pc2 := 53) (S2 := [aI 116, aR 201]) rfl rfl rfl ?_
          refine r_ild cd_45_53 rfl rfl ?_
          refine r_cI d1_ cd_45_54 rfl rfl rfl (rc0 hS rfl) rfl rfl rfl ?_
          refine r_if52 cd_45_57 rfl ⟨by omega, by omega⟩ (fun n64 => ?_) (fun n64 => ?_)
          · exact absurd n64 (by decide)
          · refine r_inc (v := 1) cd_45_62 rfl rfl rfl (by omega) (L' := [aR 201, aC 18, aI 1]) rfl ?_
            refine r_goto cd_45_65 ?_
            refine r_ild cd_45_28 rfl rfl ?_
            refine r_aldC cd_45_29 rfl rfl ?_
            refine r_cget (v := aC 79) cd_45_30 rfl (rfl) ?_
            refine r_cI (c_378 79 (by decide) (by decide)) cd_45_33 rfl rfl rfl ⟨by decide, by decide⟩ rfl rfl rfl ?_
            refine RU.cast (pc2 := 36) (S2 := [aI 1, aI 1]) rfl rfl rfl ?_
            refine r_ic64 cd_45_36 rfl ⟨by omega, by omega⟩ ⟨by omega, by omega⟩ (fun n65 => ?_) (fun n65 => ?_)
            · exact absurd n65 (by decide)
            · refine r_aldR cd_45_68 rfl rfl ?_
              refine r_con (v := 5) cd_45_69 rfl (by decide) ?_
              refine r_cI ds cd_45_70 rfl rfl rfl (rc0 s1 rfl) rfl rfl rfl ?_
              refine r_if52 cd_45_73 rfl ⟨by omega, by omega⟩ (fun n66 => ?_) (fun n66 => ?_)
              · exact absurd n66 (by decide)
              · refine r_aldR cd_45_78 rfl rfl ?_
                refine r_get cd_45_79 rfl ss rfl ?_
                refine r_aldC cd_45_82 rfl rfl ?_
                refine r_aldR cd_45_83 rfl rfl ?_
                refine r_get cd_45_84 rfl ss rfl ?_
                refine r_con (v := 0) cd_45_87 rfl (by decide) ?_
                refine r_arr (i := 0) cd_45_88 rfl vs rfl (by omega) rfl ?_
                refine RU.cast (pc2 := 89) (S2 := [aI ((q1 : Nat) : Int), aC 18, aR 204]) rfl rfl rfl ?_
                refine r_aldR cd_45_89 rfl rfl ?_
                refine r_get cd_45_90 rfl ss rfl ?_
                refine r_con (v := 1) cd_45_93 rfl (by decide) ?_
                refine r_arr (i := 1) cd_45_94 rfl vs rfl (by omega) rfl ?_
                refine r_aldR cd_45_95 rfl rfl ?_
                refine r_get cd_45_96 rfl ss rfl ?_
                refine r_con (v := 3) cd_45_99 rfl (by decide) ?_
                refine r_arr (i := 3) cd_45_100 rfl vs rfl (by omega) rfl ?_
                refine r_cI (k_76_14 Rs hI.1 _ _ q1 (by omega)) cd_45_101 rfl rfl rfl (rc0 o204 rfl) rfl rfl rfl ?_
                refine r_if51b cd_45_104 rfl (fun n67 => ?_) (fun n67 => ?_)
                · refine r_aldR cd_45_113 rfl rfl ?_
                  refine r_get cd_45_114 rfl ss rfl ?_
                  refine r_aldC cd_45_117 rfl rfl ?_
                  refine r_aldR cd_45_118 rfl rfl ?_
                  refine r_get cd_45_119 rfl ss rfl ?_
                  refine r_con (v := 0) cd_45_122 rfl (by decide) ?_
                  refine r_arr (i := 0) cd_45_123 rfl vs rfl (by omega) rfl ?_
                  refine RU.cast (pc2 := 124) (S2 := [aI ((q1 : Nat) : Int), aC 18, aR 204]) rfl rfl rfl ?_
                  refine r_aldR cd_45_124 rfl rfl ?_
                  refine r_get cd_45_125 rfl ss rfl ?_
                  refine r_con (v := 1) cd_45_128 rfl (by decide) ?_
                  refine r_arr (i := 1) cd_45_129 rfl vs rfl (by omega) rfl ?_
                  refine r_aldR cd_45_130 rfl rfl ?_
                  refine r_get cd_45_131 rfl ss rfl ?_
                  refine r_con (v := 2) cd_45_134 rfl (by decide) ?_
                  refine r_arr (i := 2) cd_45_135 rfl vs rfl (by omega) rfl ?_
                  refine r_aldR cd_45_136 rfl rfl ?_
                  refine r_get cd_45_137 rfl ss rfl ?_
                  refine r_con (v := 3) cd_45_140 rfl (by decide) ?_
                  refine r_arr (i := 3) cd_45_141 rfl vs rfl (by omega) rfl ?_
                  refine r_cI dc cd_45_142 rfl rfl rfl (rc0 o204 rfl) rfl rfl rfl ?_
                  refine r_pop cd_45_145 rfl rfl ?_
                  refine r_aldR cd_45_146 rfl rfl ?_
                  refine r_dup cd_45_147 rfl rfl ?_
                  refine r_get cd_45_148 rfl sc rfl ?_
                  refine r_con (v := 1) cd_45_151 rfl (by decide) ?_
                  refine r_add (v := ex + 1) cd_45_152 rfl (by rfl) ?_
                  refine r_put (fs' := [aR 202, aR 204, aR 222, aR 223, aR 224, aI dp, aI (ex + 1), aI ek, aI eo]) cd_45_153 rfl sc rfl rfl ?_
                  refine r_con (v := 1) cd_45_156 rfl (by decide) ?_
                  exact r_ret cd_45_157 (Or.inr rfl) (rfl)
                · exact Bool.noConfusion (n67.symm.trans hr)
        · exact absurd n63 (by decide)
      · exact absurd n62 (by decide)
    · exact absurd n61 (by omega)

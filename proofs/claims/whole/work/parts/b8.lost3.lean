/-! LOST: the class's method, which returns or throws -/
theorem cw_RX10_294 : CwV RX10 294 RX6 yX6_lostAt cX6_lostAt 5 (some .int) 1 := ⟨⟨gt_4 (gt_of (List.mem_of_getElem? (i := 1222) (by decide +kernel)) rfl) (gt_of (List.mem_of_getElem? (i := 1223) (by decide +kernel)) rfl) (gt_of (List.mem_of_getElem? (i := 1224) (by decide +kernel)) rfl) (gt_of (List.mem_of_getElem? (i := 120) (by decide +kernel)) rfl), gt_of (List.mem_of_getElem? (i := 1225) (by decide +kernel)) rfl⟩, by decide +kernel, by decide⟩
theorem cw_RL_7 : CwV RL 7 RX10 yX10_lost cX10_lost 3 (some .int) 1 := ⟨⟨gt_4 (gt_of (List.mem_of_getElem? (i := 1218) (by decide +kernel)) rfl) (gt_of (List.mem_of_getElem? (i := 1219) (by decide +kernel)) rfl) (gt_of (List.mem_of_getElem? (i := 1220) (by decide +kernel)) rfl) (gt_of (List.mem_of_getElem? (i := 113) (by decide +kernel)) rfl), gt_of (List.mem_of_getElem? (i := 1221) (by decide +kernel)) rfl⟩, by decide +kernel, by decide⟩
def PcL (G : GG) (ρ : Nat → Nat) (rt : Rt) (args : List Value) (m : Mm) : Array Value → State → Prop := va_Pc (args.map (mv ρ)) (fun U => (Wp G ρ 126 rt m U.heap ∧ Wk G ρ U) ∧ ZZ G U)
theorem PcL_blind {G : GG} {ρ : Nat → Nat} {rt : Rt} {args : List Value} {m : Mm} : FrameBlind (PcL G ρ rt args m) := by
  intro a U g mk ⟨h1, ⟨h2, h3⟩, h4, h5, h6⟩
  exact ⟨h1, ⟨h2, va_K.moved (u := U) (U := U.calling g mk a) (Vm.Alike.refl U.vm) h3.1, Sk_moved (s := U) (U := U.calling g mk a) (Vm.Alike.refl U.vm) (fun _ _ _ _ q => q.same rfl) (fun _ _ _ _ q => va_Nw.same rfl rfl q) (fun _ _ _ => rfl) h3.2.1, h3.2.2⟩, vx_Zq.moved (u := U) (U := U.calling g mk a) (Vm.Alike.refl U.vm) h4, vx_Zq.moved (u := U) (U := U.calling g mk a) (Vm.Alike.refl U.vm) h5, fun w hw => va_tabs (u := U) (U := U.calling g mk a) (xT_on hw).1 rfl (h6 w hw)⟩
/-- the class's lost: none where it throws -/
def f_C_lost (p : Int32) (m : Mm) : Option (Option Int32 × Mm) := if p < 0 then some (none, m) else bd2 (f_X6_lostAt 54 p m) (fun r m1 => if r = -1 then some (none, m1) else some (some (r / 5 * 8 + (r - r / 5 * 5)), m1))
def QiL (G : GG) (ρ : Nat → Nat) (rt : Rt) (m1 : Mm) (P : Int32 → Prop) : Array Value → State → Outcome → State → Prop := va_Qi (fun r (_ : Unit) => P r) (fun _ t => Wp G ρ 126 rt m1 t.heap) (GA G)
def XcL (G : GG) (ρ : Nat → Nat) (rt : Rt) (m1 : Mm) (P : Prop) : String → State → State → Prop := vx_X (fun (_ : Unit) => P) (fun E _ t => E = nsE ∧ Wp G ρ 126 rt m1 t.heap) (GA G)
section LtC
variable {X : XX} {G : GG} {ρ : Nat → Nat} {d : Nat} {rt : Rt} {m m1 mE : Mm}
/-- a body that may throw: its return -/
theorem J_iretX {pc nL mc ms : Nat} {cc : ByteArray} {own : String} {lv : List (Nat × Value)} {v : Int32} {P : Int32 → Prop} {XC : String → State → State → Prop} (hX : Ok X G ρ cc nL own d) (hd : decode cc pc = .ok (.ireturn, 1)) (hQ : X.2.2.2.2 = vx_MQ X.2.1.2.2.1 (QiL G ρ rt mE P) XC X.2.1.2.1 X.1.2.2.2.2 mc ms (GA G)) (hc : X.2.2.1 ≤ mc) (hs : X.2.2.2.1 ≤ ms) (hr : X.2.1.2.2.2.1.sig.returnType = some .int) (hlk : X.2.1.2.2.2.1.locks = false) (hP : P v) (hm : m = mE) : J X G ρ 126 nL pc lv [.int v] rt m := by
  intro H locs ls hP0 hS hl
  subst hm
  rw [hQ]
  refine vx_ret (W.widen hc hs ?_)
  exact W.zret hX.1 hX.2.1 hr rfl (fun t ht hW => ⟨⟨v, (), rfl, hP, by show Wp G ρ 126 rt m t.heap; rw [ht]; exact hP0⟩, hS.F ht⟩) hS.2.2 hd hlk
theorem t_lost16 {o : Option Int32} {x p : Int32} {t u w v : Nat} {y : Option Nat} (hX : Ok X G ρ cX10_lost 3 RX10 d) (hd0 : 10 ≤ d) (hl : X.1.2.1.stackTraces = false) (hZ : ZZ G X.1.2.2.2.2) (hex : ∀ z ∈ X.2.1.2.2.2.2.exceptionTable.toList, False) (hc0 : X.2.2.1 = 0) (hs0 : X.2.2.2.1 = 0) (hrc : 1 ≤ X.1.2.2.2.1.cells) (hrs : 6 ≤ X.1.2.2.2.1.slots)
    (hQ : X.2.2.2.2 = vx_MQ X.2.1.2.2.1 (QiL G ρ (RT t u w v y) mE (fun r => o = some r)) (XcL G ρ (RT t u w v y) mE (o = none)) X.2.1.2.1 X.1.2.2.2.2 1 6 (GA G)) (hr : X.2.1.2.2.2.1.sig.returnType = some .int) (hlk : X.2.1.2.2.2.1.locks = false)
    (h : (if x = -1 then some (none, m1) else some (some (x / 5 * 8 + (x - x / 5 * 5)), m1)) = some (o, mE)) : J X G ρ 126 3 16 [(0, .ref 0), (1, .int p)] [.int x] (RT t u w v y) m1 := by
  refine J_istore_n hX [(2, .int x), (0, .ref 0), (1, .int p)] dX10_lost_16 rfl (by omega) rfl ?_
  refine J_iload_n hX dX10_lost_17 rfl 0 rfl ?_
  refine J_iconst hX (-1 : Int32) dX10_lost_18 ic_m1 ?_
  refine J_icmp_ne hX 33 dX10_lost_19 (by decide) h (fun c h => ?_) (fun c h => ?_)
  · have ho : o = none := by cases h; rfl
    have hm : m1 = mE := by cases h; rfl
    subst hm
    intro H locs ls hP hS hlv
    obtain ⟨hx, hbb, hml, hown, hts, hk, hc, hs2, hfr, hlo⟩ := hX
    rw [hQ]
    have hts2 : ∀ w ∈ allW.filter vx_no, w.before X.2.1.2.1 X.1.2.2.2.2 = true := fun w hw => va_tabs (xT_on hw).1 rfl (hZ.2.2 w hw)
    refine lt_throw (own := RX10) (cls := nsE) (Y := "java/lang/RuntimeException") (r := ["java/lang/Exception"]) (ik := 297) (is := 299) (ic := 301) (jx := 13) (bytes := thirteen) (text := "not so many UNITS are LOST") (sa := ρ 1022) (A := GA G) hx hbb hl hown (by decide +kernel) (by decide +kernel) (by decide +kernel) (by decide +kernel) (by decide +kernel) (by decide +kernel) (by decide +kernel) (hts _ (gt_of (List.mem_of_getElem? (i := 1226) (by decide +kernel)) rfl)) (hts _ (gt_of (List.mem_of_getElem? (i := 134) (by decide +kernel)) rfl)) (hk.2.1.2.2.2.1 22 (RX10, 299, "not so many UNITS are LOST") (by decide +kernel)) hts2 (by decide +kernel) hZ.1 hZ.2.1 hS (hlv.1.trans hml.symm) dX10_lost_22 dX10_lost_25 dX10_lost_26 dX10_lost_29 dX10_lost_32 (fun z hz => (hex z hz).elim) (by show 1 + 4 < _; omega) (by show 0 + (13 * (1 + 2) + 43) ≤ _; omega) (by rw [hc0]; exact hrc) (by rw [hs0]; exact hrs) hlk (fun T hA hz hq => ?_) hS.2.2 (by rw [hc0]; omega) (by rw [hs0]; omega)
    refine ⟨(), ho, ⟨rfl, ?_⟩, Nat.le_trans hS.1 hz, fun q h1 h2 => ?_⟩
    · exact ⟨va_P.kept hP.1 (fun k q hk => hq q.1 (vx_lt hP.1 hk)), hP.2⟩
    · rw [hq q (Nat.lt_of_lt_of_le h1 hS.1)]
      exact hS.2.1 q h1 h2
  · have ho : o = some (x / 5 * 8 + (x - x / 5 * 5)) := by cases h; rfl
    have hm : m1 = mE := by cases h; rfl
    refine J_iload_n hX dX10_lost_33 rfl 0 rfl ?_
    refine J_iconst hX (5 : Int32) dX10_lost_34 ic_5 ?_
    refine J_idiv0 hX dX10_lost_35 (by decide) ?_
    refine J_bipush hX (8 : Int32) dX10_lost_36 (by decide) ?_
    refine J_imul hX dX10_lost_38 ?_
    refine J_iload_n hX dX10_lost_39 rfl 0 rfl ?_
    refine J_iconst hX (5 : Int32) dX10_lost_40 ic_5 ?_
    refine J_irem0 hX dX10_lost_41 (by decide) ?_
    refine J_iadd hX dX10_lost_42 ?_
    exact J_iretX hX dX10_lost_43 hQ (by omega) (by omega) hr hlk ho hm
end LtC

/-! more checks, without the bytes: room for Math's longs; words of the JDK's methods -/
def xchk (j : Nat) : Bool := match ch j t_code with
  | some k => k.all (fun r => r.all (fun o => match o with
    | some (.invokestatic i) => match poolAt t_meth (ownN j) i with
      | some 1006 => decide (23 ≤ loN j)
      | some 1007 => decide (23 ≤ loN j)
      | _ => true
    | _ => true))
  | none => true
set_option maxRecDepth 100000 in
theorem xchk_all0 : ∀ j, j < 288 → xchk j = true := by decide +kernel
theorem xchk_ok {j pc i k : Nat} (h : insAt j pc = some (.invokestatic i)) (hp : poolAt t_meth (ownN j) i = some k) (hk : k = 1006 ∨ k = 1007) : 23 ≤ loN j := by
  have hj := (code_ok h).1
  have hx := xchk_all0 j (by omega)
  unfold xchk at hx
  unfold insAt at h
  split at h
  · rename_i kk hkk
    rw [hkk] at hx
    simp only at hx
    split at h
    · rename_i x hx2
      subst h
      unfold ch at hx2
      split at hx2
      · rename_i r hr
        have h1 := List.all_eq_true.mp hx _ (List.mem_of_getElem? hr)
        have h2 := List.all_eq_true.mp h1 _ (List.mem_of_getElem? hx2)
        simp only [hp] at h2
        rcases hk with rfl | rfl <;> exact of_decide_eq_true h2
      · cases hx2
    · cases h
  · cases h
theorem gw_objI : Cond.instanceMethod objectInit ∈ GWl := gwAt_mem (i := 142) (by decide +kernel)
theorem gw_objC : Cond.code objectInit ⟨#[0xb1]⟩ 1 none ∈ GWl := gwAt_mem (i := 143) (by decide +kernel)
theorem gw_sysI : Cond.initialized "java/lang/System" ∈ GWl := gwAt_mem (i := 128) (by decide +kernel)
theorem gw_cpS : Cond.static arraycopyName ∈ GWl := gwAt_mem (i := 780) (by decide +kernel)
theorem gw_cpN : Cond.native arraycopyName ∈ GWl := gwAt_mem (i := 781) (by decide +kernel)
theorem gw_mI : Cond.initialized "java/lang/Math" ∈ GWl := gwAt_mem (i := 134) (by decide +kernel)
theorem gw_absS : Cond.static Lib.Math.abs.name ∈ GWl := gwAt_mem (i := 854) (by decide +kernel)
theorem gw_absC : Cond.code Lib.Math.abs.name Lib.Math.abs.code 1 (some .int) ∈ GWl := gwAt_mem (i := 855) (by decide +kernel)
theorem gw_absLS : Cond.static Lib.MathLoose.abs_long.x ∈ GWl := gwAt_mem (i := 882) (by decide +kernel)
theorem gw_absLC : Cond.code Lib.MathLoose.abs_long.x Lib.MathLoose.abs_long.code 2 (some .long) ∈ GWl := gwAt_mem (i := 883) (by decide +kernel)
theorem gw_minLS : Cond.static Lib.MathLoose.min_long.x ∈ GWl := gwAt_mem (i := 973) (by decide +kernel)
theorem gw_minLC : Cond.code Lib.MathLoose.min_long.x Lib.MathLoose.min_long.code 4 (some .long) ∈ GWl := gwAt_mem (i := 974) (by decide +kernel)
theorem gw_maxLS : Cond.static Lib.MathLoose.max_long.x ∈ GWl := gwAt_mem (i := 976) (by decide +kernel)
theorem gw_maxLC : Cond.code Lib.MathLoose.max_long.x Lib.MathLoose.max_long.code 4 (some .long) ∈ GWl := gwAt_mem (i := 977) (by decide +kernel)
theorem gw_maxS : Cond.static Lib.Math.max.name ∈ GWl := gwAt_mem (i := 979) (by decide +kernel)
theorem gw_maxC : Cond.code Lib.Math.max.name Lib.Math.max.code 2 (some .int) ∈ GWl := gwAt_mem (i := 980) (by decide +kernel)
theorem gw_minS : Cond.static Lib.Math.min.name ∈ GWl := gwAt_mem (i := 1025) (by decide +kernel)
theorem gw_minC : Cond.code Lib.Math.min.name Lib.Math.min.code 2 (some .int) ∈ GWl := gwAt_mem (i := 1026) (by decide +kernel)
theorem gw_aI : Cond.arrayClass .int ∈ GWl := gwAt_mem (i := 178) (by decide +kernel)
theorem gw_aB : Cond.arrayClass .byte ∈ GWl := gwAt_mem (i := 177) (by decide +kernel)
theorem gw_aZ : Cond.arrayClass .boolean ∈ GWl := gwAt_mem (i := 553) (by decide +kernel)
theorem gw_aJ : Cond.arrayClass .long ∈ GWl := gwAt_mem (i := 467) (by decide +kernel)

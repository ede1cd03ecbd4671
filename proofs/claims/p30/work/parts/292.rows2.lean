/-! A STATIC ROW OF INTS COPIED WHOLE (by the library's arraycopy, as the kit's row for a literal's bytes) -/
theorem fit_z {z : Int} (h : z = 0 ∨ z = 1) : fits .boolean (.int (iI z)) = true := by rcases h with rfl | rfl <;> rfl
section QRA
variable {p : Program} {l : Launch} {e : Env} {R : Room} {s : State} {m : MethodId} {args : Array Value} {below : List Frame} {meth : Method} {c : Code} {H : Heap} {locs : List Loc} {cells slots : Nat} {Q : State → Prop}
variable {cc : ByteArray} {pc : Nat} {ls : Array Slot} {rest : List Value} {D : va_G} {ty : List (ClassId × FieldType)} {A : Nat → Prop} {ws : va_W}
set_option maxHeartbeats 4000000 in
theorem q_tcopy (hx : p.tables.exec = Jvm.exec) (hb : c.code = cc) {nL : Nat} (hml : c.maxLocals = nL) (hls : ls.size = nL) {own : String} {index : Nat} (hown : s.vm.findClass own = some m.cls) (hts : ∀ w ∈ gW, w.before args s = true) (hl : Cond.methodLink own index arraycopyName ∈ gW)
    (hK : va_K D vwCl ty s) (hw : qw D A s.heap ws H locs) {t0 : Nat} {f g : Int → Int} (hT : va_T .int t0 4 (fun j => .int (iI (f (j : Int)))) A s s.heap) (q1 : Nat) {a1 : Nat} {cA : ClassId} (ha1 : ws[q1]? = some (a1, .inl (cA, 4, .inl (ai g)))) (ht : ty[0]? = some (cA, .int)) {k : Int} (hk : k = 4)
    (hframes : 1 ≤ R.frames) (hlocals : (rest.map fun v => v.category).sum + (nativeFrameWords "java/lang/System" "arraycopy" 5 + 11) ≤ R.locals) (hdg : decode cc pc = .ok (.invokestatic index, 3))
    (kk : ∀ (H1 : Heap) (locs1 : List Loc), qw D A s.heap (ws.set q1 (a1, .inl (cA, 4, .inl (ai f)))) H1 locs1 → W p l e R s m args below meth c H1 locs1 cells slots Q (F0 m (pc + 3) ls rest)) : W p l e R s m args below meth c H locs cells slots Q (F0 m pc ls (.int (iI k) :: .int (iI 0) :: .ref a1 :: .int (iI 0) :: .ref t0 :: rest)) := by
  subst hk
  obtain ⟨hP, hD, hS⟩ := hw
  intro T hT0 X
  obtain ⟨scr, s1, s2, s3, s4, s5, s6, s7⟩ := hT
  have c0 : H[t0]? = some scr := by rw [hS.2.1 t0 (Array.getElem?_eq_some_iff.mp s1).1 s7]; exact s1
  have c1 : H[a1]? = some (vp_cell cA (4, .inl (ai g))) := hP q1 _ ha1
  obtain ⟨b1, k0, b2, b3, b4⟩ := s2
  obtain ⟨-, k1, d2, d3, d4⟩ := (hK.2 0 _ ht).1 4 (fun j => .int (ai g j))
  have sz : scr.slots.size = 4 ∨ 4 ≤ scr.slots.size := Or.inr s4
  obtain ⟨vm', X', step⟩ := X.arraycopy hx hown (hts _ hl) (hts _ na_arraycopy) (hts _ st_arraycopy) (hts _ ini_J10) (src := t0) (dst := a1) (cs := scr) (cd := vp_cell cA (4, .inl (ai g))) (srcPos := iI 0) (destPos := iI 0) (n := iI 4) (by rw [hT0]; exact c0) (by rw [hT0]; exact c1)
    b1 (fun _ h => by cases h) s3 (fun h => by cases h) b2 d2 b4 d4 (by simp [refKind]) (by decide) (by decide) (by decide)
    (by rw [show (iI 0).toInt = 0 by decide, show (iI 4).toInt = 4 by decide]; omega)
    (by rw [show (iI 0).toInt = 0 by decide, show (iI 4).toInt = 4 by decide]; show ¬ _ > ((arrV cA 4 (fun j => .int (ai g j))).slots.size : Int); rw [arrV_size]; omega)
    (fun vm₁ _ i hi => by
      have hi4 : i < 4 := hi
      have e0 : scr.slots.getD ((iI 0).toNatClampNeg + i) .null = .int (iI (f (i : Int))) := by
        rw [show (iI 0).toNatClampNeg = 0 by decide, Nat.zero_add, Array.getD_eq_getD_getElem?, s6 _ hi4]
        rfl
      rw [e0]
      exact ⟨rfl, trivial⟩)
    (g := F0 m pc ls (.int (iI 4) :: .int (iI 0) :: .ref a1 :: .int (iI 0) :: .ref t0 :: rest)) rfl (by rw [hml]; exact hls) (rest := rest) rfl (by rw [hb]; exact hdg) hframes (by show 2 * 0 + _ + _ ≤ _; omega)
  have e1 : copied scr (vp_cell cA (4, .inl (ai g))) (iI 0) (iI 0) (iI 4) = vp_cell cA (4, .inl (va_cpy (fun j => iI (f (j : Int))) (ai g) 0 0 4)) := va_copiedX (fun z => .int z) scr cA (fun j => iI (f (j : Int))) (ai g) s6 (by decide)
  rw [e1] at X' step
  have hl9 : a1 < H.size := (Array.getElem?_eq_some_iff.mp c1).1
  have hheap : ((T.setVm vm').setCell a1 (vp_cell cA (4, .inl (va_cpy (fun j => iI (f (j : Int))) (ai g) 0 0 4)))).heap = H.setIfInBounds a1 (vp_cell cA (4, .inl (va_cpy (fun j => iI (f (j : Int))) (ai g) 0 0 4))) := by rw [← hT0]; rfl
  have oq : ∀ q : Nat, q ≠ a1 → (H.setIfInBounds a1 (vp_cell cA (4, .inl (va_cpy (fun j => iI (f (j : Int))) (ai g) 0 0 4))))[q]? = H[q]? := fun q hq => by simp [Array.getElem?_setIfInBounds, Ne.symm hq]
  obtain ⟨t, a9, b9⟩ := kk _ _ ⟨vP_set (f := va_cpy (fun j => iI (f (j : Int))) (ai g) 0 0 4) (fun j hj => by unfold va_cpy; rw [if_pos ⟨Nat.zero_le _, by omega⟩, Nat.sub_zero, Nat.zero_add]; rfl) (hP.set hD ha1 (show (H.setIfInBounds a1 _)[a1]? = some _ by simp [Array.getElem?_setIfInBounds, hl9]) oq), vD_set (x := (a1, .inl (cA, 4, .inl (va_cpy (fun j => iI (f (j : Int))) (ai g) 0 0 4)))) rfl (hD.set ha1), ⟨by simp; exact hS.1, fun q g1 g2 => by
      rw [oq q (fun e => g2 (by rw [e]; exact hD.2 q1 _ ha1))]
      exact hS.2.1 q g1 g2, fun q hq => by
      rcases List.mem_append.mp hq with h | h
      · exact hS.2.2 q h
      · obtain ⟨z, -, hz⟩ := List.mem_map.mp h
        rw [← hz]
        exact hD.2 q1 _ ha1⟩⟩ _ hheap X'
  exact ⟨t, step t a9, b9⟩
theorem mx_max : Cond.code Lib.Math.max.name Lib.Math.max.code 2 (some .int) ∈ gW := gW_mem 466 (by decide +kernel) (by decide +kernel)
theorem q_max (hx : p.tables.exec = Jvm.exec) (hb : c.code = cc) {nL : Nat} (hml : c.maxLocals = nL) (hls : ls.size = nL) {own : String} {index : Nat} (hown : s.vm.findClass own = some m.cls) (hts : ∀ w ∈ gW, w.before args s = true) (hl : Cond.methodLink own index yJ9_max_7cf53 ∈ gW) (hR : 1 ≤ R.frames ∧ (rest.map fun v => v.category).sum + 13 ≤ R.locals) (hcs : cells ≤ R.cells ∧ slots ≤ R.slots) {a b : Int} (hab : rg a ∧ rg b) (hdg : decode cc pc = .ok (.invokestatic index, 3))
    (kk : W p l e R s m args below meth c H locs cells slots Q (F0 m (pc + 3) ls (.int (iI (maxZ a b)) :: rest))) : W p l e R s m args below meth c H locs cells slots Q (F0 m pc ls (.int (iI b) :: .int (iI a) :: rest)) := by
  refine va_mmax hx hb (by rw [hml, hls]) hown (hts _ hl) (hts _ st_J9_max_7cf53) (hts _ ini_J9) (hts _ mx_max) hR.1 hR.2 hcs.1 hcs.2 hdg ?_
  have e : (if iI a < iI b then iI b else iI a) = iI (maxZ a b) := by
    unfold maxZ
    by_cases q : a < b
    · rw [if_pos q, if_pos ((iI_lt hab.1 hab.2).mpr q)]
    · rw [if_neg q, if_neg (fun w => q ((iI_lt hab.1 hab.2).mp w))]
  rw [e]
  exact kk
theorem mx_min : Cond.code Lib.Math.min.name Lib.Math.min.code 2 (some .int) ∈ gW := gW_mem 384 (by decide +kernel) (by decide +kernel)
theorem q_min (hx : p.tables.exec = Jvm.exec) (hb : c.code = cc) {nL : Nat} (hml : c.maxLocals = nL) (hls : ls.size = nL) {own : String} {index : Nat} (hown : s.vm.findClass own = some m.cls) (hts : ∀ w ∈ gW, w.before args s = true) (hl : Cond.methodLink own index yJ9_min_7cf53 ∈ gW) (hR : 1 ≤ R.frames ∧ (rest.map fun v => v.category).sum + 13 ≤ R.locals) (hcs : cells ≤ R.cells ∧ slots ≤ R.slots) {a b : Int} (hab : rg a ∧ rg b) (hdg : decode cc pc = .ok (.invokestatic index, 3))
    (kk : W p l e R s m args below meth c H locs cells slots Q (F0 m (pc + 3) ls (.int (iI (minZ a b)) :: rest))) : W p l e R s m args below meth c H locs cells slots Q (F0 m pc ls (.int (iI b) :: .int (iI a) :: rest)) := by
  refine va_mmin hx hb (by rw [hml, hls]) hown (hts _ hl) (hts _ st_J9_min_7cf53) (hts _ ini_J9) (hts _ mx_min) hR.1 hR.2 hcs.1 hcs.2 hdg ?_
  have e : (if iI b < iI a then iI b else iI a) = iI (minZ a b) := by
    unfold minZ
    by_cases q : b < a
    · rw [if_pos q, if_pos ((iI_lt hab.2 hab.1).mpr q)]
    · rw [if_neg q, if_neg (fun w => q ((iI_lt hab.2 hab.1).mp w))]
  rw [e]
  exact kk
theorem mx_abs : Cond.code Lib.Math.abs.name Lib.Math.abs.code 1 (some .int) ∈ gW := gW_mem 473 (by decide +kernel) (by decide +kernel)
theorem q_abs (hx : p.tables.exec = Jvm.exec) (hb : c.code = cc) {nL : Nat} (hml : c.maxLocals = nL) (hls : ls.size = nL) {own : String} {index : Nat} (hown : s.vm.findClass own = some m.cls) (hts : ∀ w ∈ gW, w.before args s = true) (hl : Cond.methodLink own index yJ9_abs_0f7a4 ∈ gW) (hR : 1 ≤ R.frames ∧ (rest.map fun v => v.category).sum + 13 ≤ R.locals) (hcs : cells ≤ R.cells ∧ slots ≤ R.slots) {a : Int} (hab : rg a) (hdg : decode cc pc = .ok (.invokestatic index, 3))
    (kk : W p l e R s m args below meth c H locs cells slots Q (F0 m (pc + 3) ls (.int (iI (absZ a)) :: rest))) : W p l e R s m args below meth c H locs cells slots Q (F0 m pc ls (.int (iI a) :: rest)) := by
  refine va_mabs hx hb (by rw [hml, hls]) hown (hts _ hl) (hts _ st_J9_abs_0f7a4) (hts _ ini_J9) (hts _ mx_abs) hR.1 hR.2 hcs.1 hcs.2 hdg ?_
  have e : (if (0 : Int32) ≤ iI a then iI a else 0 - iI a) = iI (absZ a) := by
    have z := iI_le (a := 0) (b := a) ⟨by decide, by decide⟩ hab
    rw [show iI 0 = (0 : Int32) from rfl] at z
    unfold absZ
    by_cases q : 0 ≤ a
    · rw [if_pos q, if_pos (z.mpr q)]
    · rw [if_neg q, if_neg (fun w => q (z.mp w)), show (0 : Int32) = iI 0 from rfl, iI_sub]
  rw [e]
  exact kk
end QRA

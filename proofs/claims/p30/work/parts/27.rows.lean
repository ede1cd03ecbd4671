/-! FURTHER ROWS: calls under Z, static rows, whole copies of a row -/
section QR9
variable {p : Program} {l : Launch} {e : Env} {R : Room} {s : State} {m : MethodId} {args : Array Value} {below : List Frame} {meth : Method} {c : Code} {H : Heap} {locs : List Loc} {cells slots : Nat} {Q : State → Prop}
variable {cc : ByteArray} {pc : Nat} {ls : Array Slot} {rest : List Value} {D : va_G} {ty : List (ClassId × FieldType)} {A : Nat → Prop} {H0 : Heap} {ws : va_W} {Z : ZT}
theorem q_callMz {S : Type} {P : S → Prop} {rv : S → Option Value} {W1 : S → va_W} {wc wr : va_W} {own : String} {index k fr lo nL nY : Nat} {y : MethodName} {bytes : ByteArray} {ret : Option FieldType} {b0 : Nat} {As : List Value} {st : List Value} (hz : zOk Z) (hx : p.tables.exec = Jvm.exec) (hb : c.code = cc) (hml : c.maxLocals = nL) (hown : s.vm.findClass own = some m.cls) (hts : ∀ w ∈ gW, w.before args s = true) (hK : va_K D vwCl ty s)
    (hM : qMz l Z D ty y bytes nY ret fr lo (.ref b0 :: As) wc P rv W1) (hy : qYi y bytes nY ret k) (hl : Cond.methodLink own index y ∈ gW) (hR : fr + 1 ≤ R.frames ∧ 8 + (nY + 11) + lo ≤ R.locals) (hw : qw D A H0 ws H locs) (hA : ∀ q : Nat, H0.size ≤ q → A q) (hZ : Z (va_A wc H.size) s H) (isC isR : List Nat) (hC : isC.map (fun i => ws[i]?) = wc.map some) (hRr : isR.map (fun i => ws[i]?) = wr.map some) (hnC : va_nd isC = true) (hnR : va_nd isR = true) (hdis : ∀ i ∈ isR, i ∉ isC) (q0 : Nat) {ci : Nat} {fs : List Value} {T : u_T} {N : Nat} (hq : wc[q0]? = some (b0, .inr (ci, fs))) (hc : vwCl[ci]? = some (y.cls, T, N)) (hn : As.length = k) (hst : st = As.reverse ++ .ref b0 :: rest) (hls : ls.size = nL) (hW : 2 * (F0 m pc ls st).monitorRoom + (rest.map fun v => v.category).sum ≤ 8) (hdg : decode cc pc = .ok (.invokevirtual index, 3)) (hcs : cells ≤ R.cells ∧ slots ≤ R.slots)
    (kk : ∀ (u : S) (H1 : Heap) (locs1 : List Loc), P u → qw D A H0 (wr ++ W1 u) H1 locs1 → W p l e R s m args below meth c H1 locs1 cells slots Q (F0 m (pc + 3) ls ((rv u).toList ++ rest))) : W p l e R s m args below meth c H locs cells slots Q (F0 m pc ls st) := by
  have hPc := hw.1.sub isC (pk_fm hC)
  have hDc := hw.2.1.sub isC hnC hC
  exact q_goM (va_runV (C := y.cls) (b := b0) (As := As) (n := k) ⟨hx, hb, hml, hown, hts⟩ (hM H.size) ⟨q_cb hts hy.1 hl hR rfl, hts _ hy.2.1, hts _ hy.2.2⟩ ⟨q_blindMz hz, va_recv hK hPc hc hq, fun U hU hW => ⟨rfl, by rw [hU], by rw [hU]; exact hPc, va_K.moved hW.alike hK, hDc.weaken (fun _ _ _ _ => trivial), by rw [hU]; exact hz.1 _ _ _ _ hW hZ⟩⟩ rfl hn hls hst hW hdg hcs) hw hA isC isR hC hRr hnR hdis kk
theorem q_ldc (hx : p.tables.exec = Jvm.exec) (hb : c.code = cc) {own : String} {index : Nat} {v : Int32} {z : Int} (hown : s.vm.findClass own = some m.cls) (hts : ∀ w ∈ gW, w.before args s = true) (hk : Cond.constant own index v ∈ gW) (hz : v = iI z) (hdg : decode cc pc = .ok (.ldc index, 2)) (k : W p l e R s m args below meth c H locs cells slots Q (F0 m (pc + 2) ls (.int (iI z) :: rest))) : W p l e R s m args below meth c H locs cells slots Q (F0 m pc ls rest) := lv_ldc hx hb hown (hts _ hk) hdg (by rw [hz]; exact k)
theorem q_tald (hx : p.tables.exec = Jvm.exec) (hb : c.code = cc) {t : Nat} {f : Int → Int} (hT : va_T .int t 4 (fun j => .int (iI (f (j : Int)))) A s s.heap) (hS : va_S A s.heap H locs) {i z : Int} (hi : 0 ≤ i ∧ i < 4) (hv : f i = z) (hdg : decode cc pc = .ok (.iaload, 1))
    (kk : W p l e R s m args below meth c H locs cells slots Q (F0 m (pc + 1) ls (.int (iI z) :: rest))) : W p l e R s m args below meth c H locs cells slots Q (F0 m pc ls (.int (iI i) :: .ref t :: rest)) :=
  va_ti hx hb hT hS (iI_in hi.1 (by exact_mod_cast hi.2) (by omega)) (by rw [iI_cl hi.1 (by omega), Int.toNat_of_nonneg hi.1, hv]) hdg kk
theorem vP_set {cl : List vw_C} {q1 a n : Nat} {cA : ClassId} {f g : Nat → Int32} (h : ∀ j, j < n → f j = g j) (hP : va_P D cl (ws.set q1 (a, .inl (cA, n, .inl f))) H) : va_P D cl (ws.set q1 (a, .inl (cA, n, .inl g))) H := by
  intro k q hk
  by_cases e : q1 = k
  · subst e
    rw [List.getElem?_set_self' ] at hk
    cases hq : ws[q1]? with
    | none => rw [hq] at hk; cases hk
    | some x =>
      rw [hq] at hk
      have e2 : q = (a, .inl (cA, n, .inl g)) := (Option.some.inj hk).symm
      subst e2
      have z := hP q1 (a, .inl (cA, n, .inl f)) (by rw [List.getElem?_set_self', hq]; rfl)
      show H[a]? = some (vp_cell cA (n, .inl g))
      rw [← cell_ext h]
      exact z
  · rw [List.getElem?_set_ne e] at hk
    exact hP k q (by rw [List.getElem?_set_ne e]; exact hk)
theorem vD_set {q1 : Nat} {x y : Nat × va_E} (h : x.1 = y.1) (hD : va_D A (ws.set q1 x)) : va_D A (ws.set q1 y) := by
  have e : ∀ (k : Nat) (q : Nat × va_E), (ws.set q1 y)[k]? = some q → ∃ q', (ws.set q1 x)[k]? = some q' ∧ q'.1 = q.1 := by
    intro k q hk
    by_cases e : q1 = k
    · subst e
      rw [List.getElem?_set_self'] at hk
      cases hq : ws[q1]? with
      | none => rw [hq] at hk; cases hk
      | some w =>
        rw [hq] at hk
        refine ⟨x, by rw [List.getElem?_set_self', hq]; rfl, ?_⟩
        exact h.trans (congrArg Prod.fst (Option.some.inj hk))
    · rw [List.getElem?_set_ne e] at hk
      exact ⟨q, by rw [List.getElem?_set_ne e]; exact hk, rfl⟩
  refine ⟨fun i j p q hi hj hpq => ?_, fun k q hk => ?_⟩
  · obtain ⟨p', h1, h2⟩ := e i p hi
    obtain ⟨q', h3, h4⟩ := e j q hj
    exact hD.1 i j p' q' h1 h3 (by rw [h2, h4, hpq])
  · obtain ⟨q', h1, h2⟩ := e k q hk
    rw [← h2]
    exact hD.2 k q' h1
/-- a whole row of ints copied -/
theorem q_acopy (hx : p.tables.exec = Jvm.exec) (hb : c.code = cc) {nL : Nat} (hml : c.maxLocals = nL) (hls : ls.size = nL) {own : String} {index : Nat} (hown : s.vm.findClass own = some m.cls) (hts : ∀ w ∈ gW, w.before args s = true) (hl : Cond.methodLink own index arraycopyName ∈ gW)
    (hK : va_K D vwCl ty s) (hw : qw D A H0 ws H locs) (q0 q1 : Nat) {a0 a1 n : Nat} {cA : ClassId} {f g : Int → Int} (ha0 : ws[q0]? = some (a0, .inl (cA, n, .inl (ai f)))) (ha1 : ws[q1]? = some (a1, .inl (cA, n, .inl (ai g)))) (ht : ty[0]? = some (cA, .int)) (hn : n < 1000) {k : Int} (hk : k = (n : Int))
    (hframes : 1 ≤ R.frames) (hlocals : (rest.map fun v => v.category).sum + (nativeFrameWords "java/lang/System" "arraycopy" 5 + 11) ≤ R.locals) (hdg : decode cc pc = .ok (.invokestatic index, 3))
    (kk : ∀ (H1 : Heap) (locs1 : List Loc), qw D A H0 (ws.set q1 (a1, .inl (cA, n, .inl (ai f)))) H1 locs1 → W p l e R s m args below meth c H1 locs1 cells slots Q (F0 m (pc + 3) ls rest)) : W p l e R s m args below meth c H locs cells slots Q (F0 m pc ls (.int (iI k) :: .int (iI 0) :: .ref a1 :: .int (iI 0) :: .ref a0 :: rest)) := by
  have e0 : (iI 0).toNatClampNeg = 0 := by decide
  have ek : (iI k).toNatClampNeg = n := by rw [iI_cl (by omega) (by omega)]; omega
  refine va_copyi hx hb (by rw [hml, hls]) hown (hts _ hl) (hts _ na_arraycopy) (hts _ st_arraycopy) (hts _ ini_J10) hK hw.1 hw.2.1 hw.2.2 q0 q1 0 0 ha0 ha1 ht ht rfl (by decide) (by decide) (by rw [show (0 : Int32) = iI 0 from rfl, iI_lt ⟨by omega, by omega⟩ ⟨by decide, by decide⟩]; omega) (by rw [e0, ek]; omega) (by rw [e0, ek]; omega) (fun _ _ => rfl) hframes hlocals hdg (fun H1 locs1 h1 h2 h3 => ?_)
  rw [e0, ek] at h1 h2
  refine kk H1 locs1 ⟨vP_set (f := va_cpy (ai f) (ai g) 0 0 n) (fun j hj => ?_) h1, vD_set (x := (a1, .inl (cA, n, .inl (va_cpy (ai f) (ai g) 0 0 n)))) rfl h2, h3⟩
  unfold va_cpy
  rw [if_pos ⟨Nat.zero_le _, by omega⟩]
  congr 1
  omega
end QR9

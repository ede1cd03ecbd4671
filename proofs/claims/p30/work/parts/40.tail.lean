/-! CALLS IN A WORLD WITH A TAIL; the rows of States behind the class -/
theorem sub_perm {is : List Nat} {ws ws' : va_W} (hs : is.map (fun i => ws[i]?) = ws'.map some) (hq : is.isPerm (List.range ws.length) = true) : ws.Perm ws' := by
  have hp : is.Perm (List.range ws.length) := List.isPerm_iff.mp hq
  have h2 : (is.map (fun i => ws[i]?)).Perm ((List.range ws.length).map (fun i => ws[i]?)) := hp.map _
  have h3 := rng_map ws []
  rw [List.append_nil] at h3
  rw [hs, h3] at h2
  have h4 : (List.filterMap id (ws'.map some)).Perm (List.filterMap id (ws.map some)) := h2.filterMap id
  rw [List.filterMap_map, List.filterMap_map] at h4
  have e : ∀ w : va_W, List.filterMap (id ∘ some) w = w := fun w => List.filterMap_some
  rw [e, e] at h4
  exact h4.symm
section QTL
variable {p : Program} {l : Launch} {e : Env} {R : Room} {s : State} {m : MethodId} {args : Array Value} {below : List Frame} {meth : Method} {c : Code} {H : Heap} {locs : List Loc} {cells slots : Nat} {Q : State → Prop}
variable {cc : ByteArray} {pc : Nat} {ls : Array Slot} {rest : List Value} {D : va_G} {ty : List (ClassId × FieldType)} {A : Nat → Prop} {H0 : Heap} {ws : va_W}
theorem q_callMR {S : Type} {P : S → Prop} {rv : S → Option Value} {W1 : S → va_W} {wc wr Rt : va_W} {own : String} {index k fr lo nL nY : Nat} {y : MethodName} {bytes : ByteArray} {ret : Option FieldType} {b0 : Nat} {As : List Value} {st : List Value} (hx : p.tables.exec = Jvm.exec) (hb : c.code = cc) (hml : c.maxLocals = nL) (hown : s.vm.findClass own = some m.cls) (hts : ∀ w ∈ gW, w.before args s = true) (hK : va_K D vwCl ty s)
    (hM : qM l D ty y bytes nY ret fr lo (.ref b0 :: As) wc P rv W1) (hy : qYi y bytes nY ret k) (hl : Cond.methodLink own index y ∈ gW) (hR : fr + 1 ≤ R.frames ∧ 8 + (nY + 11) + lo ≤ R.locals) (hw : qw D A H0 (ws ++ Rt) H locs) (hA : ∀ q : Nat, H0.size ≤ q → A q) (isC isR : List Nat) (hC : (isC ++ isR).map (fun i => ws[i]?) = (wc ++ wr).map some) (hn : va_nd (isC ++ isR) = true) (q0 : Nat) {ci : Nat} {fs : List Value} {T : u_T} {N : Nat} (hq : wc[q0]? = some (b0, .inr (ci, fs))) (hc : vwCl[ci]? = some (y.cls, T, N)) (hn2 : As.length = k) (hst : st = As.reverse ++ .ref b0 :: rest) (hls : ls.size = nL) (hW : 2 * (F0 m pc ls st).monitorRoom + (rest.map fun v => v.category).sum ≤ 8) (hdg : decode cc pc = .ok (.invokevirtual index, 3)) (hcs : cells ≤ R.cells ∧ slots ≤ R.slots)
    (kk : ∀ (u : S) (H1 : Heap) (locs1 : List Loc), P u → qw D A H0 ((wr ++ W1 u) ++ Rt) H1 locs1 → W p l e R s m args below meth c H1 locs1 cells slots Q (F0 m (pc + 3) ls ((rv u).toList ++ rest))) : W p l e R s m args below meth c H locs cells slots Q (F0 m pc ls st) := by
  have h1 : qw D A H0 (wc ++ (wr ++ Rt)) H locs := by
    have h := hw.subR (isC ++ isR) hn hC
    rw [List.append_assoc] at h
    exact h
  refine q_callMB hx hb hml hown hts hK hM hy hl hR h1 hA q0 hq hc hn2 hst hls hW hdg hcs (fun u H1 locs1 hP h => kk u H1 locs1 hP ?_)
  refine h.perm ?_
  rw [← List.append_assoc]
  exact List.Perm.append_right Rt List.perm_append_comm
theorem q_callMT {S : Type} {P : S → Prop} {rv : S → Option Value} {W1 W2 : S → va_W} {R2 : S → va_W} {wc wr Rt : va_W} {own : String} {index k fr lo nL nY : Nat} {y : MethodName} {bytes : ByteArray} {ret : Option FieldType} {b0 : Nat} {As : List Value} {st : List Value} (hx : p.tables.exec = Jvm.exec) (hb : c.code = cc) (hml : c.maxLocals = nL) (hown : s.vm.findClass own = some m.cls) (hts : ∀ w ∈ gW, w.before args s = true) (hK : va_K D vwCl ty s)
    (hM : qM l D ty y bytes nY ret fr lo (.ref b0 :: As) (wc ++ Rt) P rv W1) (hW1 : ∀ u, W1 u = W2 u ++ R2 u) (hy : qYi y bytes nY ret k) (hl : Cond.methodLink own index y ∈ gW) (hR : fr + 1 ≤ R.frames ∧ 8 + (nY + 11) + lo ≤ R.locals) (hw : qw D A H0 (ws ++ Rt) H locs) (hA : ∀ q : Nat, H0.size ≤ q → A q) (isC isR : List Nat) (hC : (isC ++ isR).map (fun i => ws[i]?) = (wc ++ wr).map some) (hn : va_nd (isC ++ isR) = true) (q0 : Nat) {ci : Nat} {fs : List Value} {T : u_T} {N : Nat} (hq : (wc ++ Rt)[q0]? = some (b0, .inr (ci, fs))) (hc : vwCl[ci]? = some (y.cls, T, N)) (hn2 : As.length = k) (hst : st = As.reverse ++ .ref b0 :: rest) (hls : ls.size = nL) (hW : 2 * (F0 m pc ls st).monitorRoom + (rest.map fun v => v.category).sum ≤ 8) (hdg : decode cc pc = .ok (.invokevirtual index, 3)) (hcs : cells ≤ R.cells ∧ slots ≤ R.slots)
    (kk : ∀ (u : S) (H1 : Heap) (locs1 : List Loc), P u → qw D A H0 ((wr ++ W2 u) ++ R2 u) H1 locs1 → W p l e R s m args below meth c H1 locs1 cells slots Q (F0 m (pc + 3) ls ((rv u).toList ++ rest))) : W p l e R s m args below meth c H locs cells slots Q (F0 m pc ls st) := by
  have h1 : qw D A H0 ((wc ++ Rt) ++ wr) H locs := by
    have h := hw.subR (isC ++ isR) hn hC
    refine h.perm ?_
    rw [List.append_assoc, List.append_assoc]
    exact List.Perm.append_left wc List.perm_append_comm
  refine q_callMB hx hb hml hown hts hK hM hy hl hR h1 hA q0 hq hc hn2 hst hls hW hdg hcs (fun u H1 locs1 hP h => kk u H1 locs1 hP ?_)
  rw [hW1 u] at h
  refine h.perm ?_
  rw [List.append_assoc (as := wr)]
  exact List.perm_append_comm
end QTL
/-- n States in a row, by their addresses and contents -/
abbrev HP (n : Nat) (aH : Nat → Nat → Nat) (cI : ClassId) (cH : Nat → Nat → Int → Int) : va_W := (List.range n).flatMap (fun i => stW (aH i) cI (cH i))
/-- .. without the k-th -/
abbrev HPx (n : Nat) (aH : Nat → Nat → Nat) (cI : ClassId) (cH : Nat → Nat → Int → Int) (k : Nat) : va_W := ((List.range n).erase k).flatMap (fun i => stW (aH i) cI (cH i))
def updH (hC : Nat → Nat → Int → Int) (k : Nat) (C : Nat → Int → Int) : Nat → Nat → Int → Int := fun i => if i = k then C else hC i
def nxU (und : Int) : Int := if und < 10 then und + 1 else und
theorem hp_1 {n k : Nat} {aH : Nat → Nat → Nat} {cI : ClassId} {cH : Nat → Nat → Int → Int} (h : k < n) : (HP n aH cI cH).Perm (stW (aH k) cI (cH k) ++ HPx n aH cI cH k) := by
  have h1 : (List.range n).Perm (k :: (List.range n).erase k) := List.perm_cons_erase (List.mem_range.mpr h)
  have h2 := h1.flatMap_right (fun i => stW (aH i) cI (cH i))
  rw [List.flatMap_cons] at h2
  exact h2
theorem hp_o {W : va_W} {n k : Nat} {aH : Nat → Nat → Nat} {cI : ClassId} {cH : Nat → Nat → Int → Int} (h : k < n) : (W ++ HP n aH cI cH).Perm ((W ++ stW (aH k) cI (cH k)) ++ HPx n aH cI cH k) := by
  rw [List.append_assoc]
  exact List.Perm.append_left W (hp_1 h)
theorem fm_cg {α : Type} {l : List Nat} {f g : Nat → List α} (h : ∀ i ∈ l, f i = g i) : l.flatMap f = l.flatMap g := by
  induction l with
  | nil => rfl
  | cons a l ih => rw [List.flatMap_cons, List.flatMap_cons, h a List.mem_cons_self, ih (fun i hi => h i (List.mem_cons_of_mem _ hi))]
theorem hpx_u {n k : Nat} {aH : Nat → Nat → Nat} {cI : ClassId} {cH : Nat → Nat → Int → Int} {C : Nat → Int → Int} : HPx n aH cI (updH cH k C) k = HPx n aH cI cH k := by
  show ((List.range n).erase k).flatMap _ = ((List.range n).erase k).flatMap _
  refine fm_cg (fun i hi => ?_)
  have h1 : i ≠ k := (List.nodup_range.mem_erase_iff.mp hi).1
  show stW (aH i) cI (updH cH k C i) = stW (aH i) cI (cH i)
  rw [show updH cH k C i = cH i from if_neg h1]
theorem hp_i {W : va_W} {n k : Nat} {aH : Nat → Nat → Nat} {cI : ClassId} {cH : Nat → Nat → Int → Int} {C : Nat → Int → Int} (h : k < n) : ((W ++ stW (aH k) cI C) ++ HPx n aH cI cH k).Perm (W ++ HP n aH cI (updH cH k C)) := by
  have h1 := hp_o (W := W) (cH := updH cH k C) (aH := aH) (cI := cI) h
  rw [hpx_u, show updH cH k C k = C from if_pos rfl] at h1
  exact h1.symm
/-- .. the k-th as it was -/
theorem hp_b {W : va_W} {n k : Nat} {aH : Nat → Nat → Nat} {cI : ClassId} {cH : Nat → Nat → Int → Int} (h : k < n) : ((W ++ stW (aH k) cI (cH k)) ++ HPx n aH cI cH k).Perm (W ++ HP n aH cI cH) := (hp_o h).symm

/-! THE BUILDER: what its methods read, the rows of its calls -/
def ZB (z : Nat → Nat) : ZT := fun A U H => ZW z A U H ∧ va_Z RJ6 "DigitOnes" "[B" (.ref (z 3)) A U H ∧ va_Z RJ6 "DigitTens" "[B" (.ref (z 4)) A U H ∧ va_T .byte (z 3) 100 (fun j => .int (iI (48 + (j : Int) % 10))) A U H ∧ va_T .byte (z 4) 100 (fun j => .int (iI (48 + (j : Int) / 10))) A U H
theorem zb_ok (z : Nat → Nat) : zOk (ZB z) := by
  obtain ⟨o1, o2, o3, o4⟩ := zw_ok z
  exact ⟨fun A s U H hW h => ⟨o1 A s U H hW h.1, va_Z.moved hW.alike h.2.1, va_Z.moved hW.alike h.2.2.1, va_T.moved hW.alike h.2.2.2.1, va_T.moved hW.alike h.2.2.2.2⟩, fun A u U H hv h => ⟨o2 A u U H hv h.1, va_Z.moved (by rw [hv]; exact Vm.Alike.refl _) h.2.1, va_Z.moved (by rw [hv]; exact Vm.Alike.refl _) h.2.2.1, va_T.moved (by rw [hv]; exact Vm.Alike.refl _) h.2.2.2.1, va_T.moved (by rw [hv]; exact Vm.Alike.refl _) h.2.2.2.2⟩, fun A U H H1 h hq => ⟨o3 A U H H1 h.1 hq, h.2.1.kept hq, h.2.2.1.kept hq, h.2.2.2.1.kept hq, h.2.2.2.2.kept hq⟩, fun A B U H h hq => ⟨o4 A B U H h.1 hq, h.2.1.narrow hq, h.2.2.1.narrow hq, h.2.2.2.1.narrow hq, h.2.2.2.2.narrow hq⟩⟩
theorem zb_w (z : Nat → Nat) : ∀ (A : Nat → Prop) (U : State) (H : Heap), ZB z A U H → ZW z A U H := fun _ _ _ h => h.1
theorem zb_z (z : Nat → Nat) : ∀ (A : Nat → Prop) (U : State) (H : Heap), ZB z A U H → ZZ z A U H := fun _ _ _ h => h.1.1.1
theorem zb_S (z : Nat → Nat) (i : Nat) (hi : i < 16) : zS (ZB z) (z (10 + i)) (z (30 + i)) (txL i) := ⟨zb_ok z, fun A U H h => (zb_z z A U H h).2.2.1 i hi, fun A U H h => (zb_z z A U H h).2.1.1, fun A U H h => (zb_z z A U H h).2.1.2, (zz_tx i hi).1, (zz_tx i hi).2⟩
theorem ml_J5_3 : (Cond.methodLink RJ5 3 Lib.objectInit) ∈ gW := gW_mem 535 (by decide +kernel) (by decide +kernel)
theorem ml_J7_150 : (Cond.methodLink RJ7 150 arraycopyName) ∈ gW := gW_mem 600 (by decide +kernel) (by decide +kernel)
theorem ml_J0_212 : (Cond.methodLink RJ0 212 arraycopyName) ∈ gW := gW_mem 664 (by decide +kernel) (by decide +kernel)
/-- the bytes of a text stand at the start of a row -/
def tx (f : Int → Int) (t : List Int) : Prop := ∀ k : Nat, k < t.length → f (k : Int) = t.getD k 0
theorem tx_i {f : Int → Int} {t : List Int} (h : tx f t) {k : Int} (h0 : 0 ≤ k) (h1 : k < (t.length : Int)) : f k = t.getD k.toNat 0 := by
  have z := h k.toNat (by omega)
  rw [show ((k.toNat : Nat) : Int) = k by omega] at z
  exact z
theorem tx_app {f g : Int → Int} {t s : List Int} (h : tx f t) (hg : ∀ j : Int, 0 ≤ j → j < (t.length : Int) → g j = f j) (hs : ∀ k : Nat, k < s.length → g ((t.length : Int) + (k : Int)) = s.getD k 0) : tx g (t ++ s) := by
  intro k hk
  rw [List.length_append] at hk
  rw [List.getD_eq_getElem?_getD]
  by_cases c : k < t.length
  · rw [List.getElem?_append_left c, hg _ (by omega) (by omega), h k c, List.getD_eq_getElem?_getD]
  · rw [List.getElem?_append_right (by omega)]
    have z := hs (k - t.length) (by omega)
    rw [show (t.length : Int) + ((k - t.length : Nat) : Int) = (k : Int) by omega, List.getD_eq_getElem?_getD] at z
    exact z
/-- a literal's bytes laid into a row -/
def lay (L : List Int) (f : Int → Int) (n : Int) : Int → Int := fun j => if n ≤ j ∧ j < n + (L.length : Int) then L.getD (j - n).toNat 0 else f j
theorem lay_b {L : List Int} {f : Int → Int} {n j : Int} (h : j < n) : lay L f n j = f j := by
  unfold lay
  rw [if_neg (by omega)]
theorem lay_i {L : List Int} {f : Int → Int} {n : Int} {k : Nat} (h : k < L.length) : lay L f n (n + (k : Int)) = L.getD k 0 := by
  unfold lay
  rw [if_pos (by omega), show (n + (k : Int) - n).toNat = k by omega]
/-- a row's first entries laid into another -/
def cpF (f g : Int → Int) (n : Int) : Int → Int := fun j => if j < n then f j else g j
theorem cpF_b {f g : Int → Int} {n j : Int} (h : j < n) : cpF f g n j = f j := by
  unfold cpF
  rw [if_pos h]
theorem fit_by {v : Int} (h : -128 ≤ v ∧ v < 128) : fits .byte (.int (iI v)) = true := by
  have a : (-128 : Int32) ≤ iI v := by
    rw [show (-128 : Int32) = iI (-128) by decide]
    exact (iI_le (a := -128) (b := v) ⟨by decide, by decide⟩ ⟨by omega, by omega⟩).mpr h.1
  have b : iI v ≤ (127 : Int32) := by
    rw [show (127 : Int32) = iI 127 by decide]
    exact (iI_le (a := v) (b := 127) ⟨by omega, by omega⟩ ⟨by decide, by decide⟩).mpr (by omega)
  show (decide _ && decide _) = true
  rw [decide_eq_true a, decide_eq_true b]
  rfl
section HEN
variable {l : Launch} {Z : ZT} {D : va_G} {ty : List (ClassId × FieldType)} {y : MethodName} {b : ByteArray} {n fr lo mc ms : Nat} {av : List Value} {W0 : va_W}
theorem qH_enterI {S : Type} {P : S → Prop} {rv : S → Option Value} {W1 : S → va_W} {rt : FieldType} {val : S → Int32} (hy : plainName y.cls = true) (hn : (lg_sl av).length ≤ n) (hv : ∀ u, P u → rv u = some (.int (val u)) ∧ narrow rt (.int (val u)) = .int (val u))
    (body : ∀ (p : Program) (e : Env) (R : Room) (s : State) (m : MethodId) (args : Array Value) (below : List Frame) (meth : Method) (c : Code) (Q : State → Prop) (ls : Array Slot) (A : Nat → Prop), qX p s m args c b n y.cls D ty → R = ({ frames := fr, cells := mc, slots := ms, locals := lo } : Room) → (∀ q : Nat, s.heap.size ≤ q → A q) → qw D A s.heap W0 s.heap [] → Z A s s.heap → lv_has ls n (lv_args 0 av) →
      (∀ (u : S) (H : Heap) (locs : List Loc) (pc : Nat) (ls : Array Slot), P u → qw D A s.heap (W1 u) H locs → decode b pc = .ok (.ireturn, 1) → W p l e R s m args below meth c H locs mc ms Q (F0 m pc ls [.int (val u)])) → W p l e R s m args below meth c s.heap [] 0 0 Q (F0 m 0 ls [])) :
    qH l Z D ty y (.code y b n (some rt) :: gW) fr lo mc ms av W0 P rv W1 := by
  intro sz
  refine Met.ofW (cc := b) (maxL := n) (ret := some rt) hy rfl ?_
  intro p e s m args below meth c s₁ B hml hv0
  obtain ⟨rfl, hsz, hP, hK, hD0, hZ⟩ := hv0
  subst hsz
  have hts := atoms_spec (ws := (.code y b n (some rt) :: gW)) B.pre
  rw [lg_entry_eq]
  have hlocks := B.notSynchronized
  have hr := B.returns
  refine body p e _ s m _ below meth c _ _ (va_A W0 s.heap.size) ⟨B.exec, B.bytes, hml, findClass_of_methodNamed B.named, fun w h => hts w (List.mem_cons_of_mem _ h), hK⟩ rfl (fun q h => Or.inr h) ⟨hP, hD0.self, va_S.rf⟩ hZ (lv_entry av hn) (fun u H locs pc ls hPu hw hdg => ?_)
  obtain ⟨h1, h2⟩ := hv u hPu
  exact W.zret (v := val u) B.exec B.bytes hr h2 (fun t ht hW => ⟨⟨u, by rw [h1], hPu, by rw [ht]; exact hw.1, hw.2.1⟩, hw.2.2.F ht⟩) hw.2.2.2.2 hdg
theorem qH_enterR {S : Type} {P : S → Prop} {rv : S → Option Value} {W1 : S → va_W} {rt : FieldType} {ad : S → Nat} (hy : plainName y.cls = true) (hn : (lg_sl av).length ≤ n) (hrt : (∃ nm, rt = .object nm) ∨ ∃ q, rt = .array q) (hv : ∀ u, P u → rv u = some (.ref (ad u)))
    (body : ∀ (p : Program) (e : Env) (R : Room) (s : State) (m : MethodId) (args : Array Value) (below : List Frame) (meth : Method) (c : Code) (Q : State → Prop) (ls : Array Slot) (A : Nat → Prop), qX p s m args c b n y.cls D ty → R = ({ frames := fr, cells := mc, slots := ms, locals := lo } : Room) → (∀ q : Nat, s.heap.size ≤ q → A q) → qw D A s.heap W0 s.heap [] → Z A s s.heap → lv_has ls n (lv_args 0 av) →
      (∀ (u : S) (H : Heap) (locs : List Loc) (pc : Nat) (ls : Array Slot), P u → qw D A s.heap (W1 u) H locs → decode b pc = .ok (.areturn, 1) → W p l e R s m args below meth c H locs mc ms Q (F0 m pc ls [.ref (ad u)])) → W p l e R s m args below meth c s.heap [] 0 0 Q (F0 m 0 ls [])) :
    qH l Z D ty y (.code y b n (some rt) :: gW) fr lo mc ms av W0 P rv W1 := by
  intro sz
  refine Met.ofW (cc := b) (maxL := n) (ret := some rt) hy rfl ?_
  intro p e s m args below meth c s₁ B hml hv0
  obtain ⟨rfl, hsz, hP, hK, hD0, hZ⟩ := hv0
  subst hsz
  have hts := atoms_spec (ws := (.code y b n (some rt) :: gW)) B.pre
  rw [lg_entry_eq]
  have hlocks := B.notSynchronized
  have hr := B.returns
  refine body p e _ s m _ below meth c _ _ (va_A W0 s.heap.size) ⟨B.exec, B.bytes, hml, findClass_of_methodNamed B.named, fun w h => hts w (List.mem_cons_of_mem _ h), hK⟩ rfl (fun q h => Or.inr h) ⟨hP, hD0.self, va_S.rf⟩ hZ (lv_entry av hn) (fun u H locs pc ls hPu hw hdg => ?_)
  have h1 := hv u hPu
  exact W.aret (v := .ref (ad u)) B.exec B.bytes hr (by rcases hrt with ⟨nm, rfl⟩ | ⟨q, rfl⟩; exact Or.inl ⟨nm, rfl⟩; exact Or.inr ⟨q, rfl⟩) (Or.inr ⟨_, rfl⟩) (fun t ht hW => ⟨⟨u, by rw [h1], hPu, by rw [ht]; exact hw.1, hw.2.1⟩, hw.2.2.F ht⟩) hw.2.2.2.2 hdg
end HEN
section RBC
variable {p : Program} {l : Launch} {e : Env} {R : Room} {s : State} {m : MethodId} {args : Array Value} {below : List Frame} {meth : Method} {c : Code} {H : Heap} {locs : List Loc} {cells slots : Nat} {Q : State → Prop}
variable {cc : ByteArray} {pc : Nat} {ls : Array Slot} {rest : List Value} {D : va_G} {ty : List (ClassId × FieldType)} {A : Nat → Prop} {H0 : Heap} {ws : va_W} {Z : ZT}
/-- a method of the builder's, named through a class above its own -/
theorem q_callU {S : Type} {P : S → Prop} {rv : S → Option Value} {W1 : S → va_W} {wc wr : va_W} {own : String} {index k fr lo mc ms nL nY : Nat} {x y : MethodName} {bytes bx : ByteArray} {nx : Nat} {ret rx : Option FieldType} {b0 : Nat} {As : List Value} {st : List Value} (hz : zOk Z) (hx : p.tables.exec = Jvm.exec) (hb : c.code = cc) (hml : c.maxLocals = nL) (hown : s.vm.findClass own = some m.cls) (hts : ∀ w ∈ gW, w.before args s = true) (hK : va_K D vwCl ty s)
    (hM : qH l Z D ty y (.code y bytes nY ret :: gW) fr lo mc ms (.ref b0 :: As) wc P rv W1) (hy : qY y bytes nY ret k) (hcx : Cond.code x bx nx rx ∈ gW) (hix : Cond.instanceMethod x ∈ gW) (hdx : (x.cls ≠ "java/lang/invoke/MethodHandle" ∧ x.cls ≠ "java/lang/invoke/VarHandle") ∧ (parseMethodDescriptor x.desc).map (fun d => d.parameters.length) = some k) (hsm : Cond.sameMethod x.cls x.cls x.name x.desc ∈ gW) (hse : Cond.selects RJ4 x y ∈ gW) (hiy : Cond.instanceMethod y ∈ gW) (hl : Cond.methodLink own index x ∈ gW) (hR : fr + 1 ≤ R.frames ∧ 8 + (nY + 11) + lo ≤ R.locals) (hw : qw D A s.heap (wc ++ wr) H locs) (hA : ∀ q : Nat, s.heap.size ≤ q → A q) (hZ : Z A s s.heap) (q0 : Nat) {fs : List Value} (hq : wc[q0]? = some (b0, .inr (7, fs))) (hn : As.length = k) (hst : st = As.reverse ++ .ref b0 :: rest) (hls : ls.size = nL) (hW : 2 * (F0 m pc ls st).monitorRoom + (rest.map fun v => v.category).sum ≤ 8) (hdg : decode cc pc = .ok (.invokevirtual index, 3)) (hcs : cells + mc ≤ R.cells ∧ slots + ms ≤ R.slots)
    (kk : ∀ (u : S) (H1 : Heap) (locs1 : List Loc), P u → qw D A s.heap (W1 u ++ wr) H1 locs1 → W p l e R s m args below meth c H1 locs1 (cells + mc) (slots + ms) Q (F0 m (pc + 3) ls ((rv u).toList ++ rest))) : W p l e R s m args below meth c H locs cells slots Q (F0 m pc ls st) := by
  have hC := rng_map wc wr
  have hPc := hw.1.sub _ (pk_fm hC)
  have hDc := hw.2.1.sub _ (nd_of List.nodup_range) hC
  have hZc := z_W hz hZ hw hA
  obtain ⟨h1, h2, h3, h4⟩ := hy
  have hcu : va_CU R s args own RJ4 x.cls index x y bytes nY ret (.code y bytes nY ret :: gW) ({ frames := fr, cells := mc, slots := ms, locals := lo }) mc ms k := ⟨⟨rfl, rfl, hR.1, hR.2, fun w hw a' U hW => by
    rcases List.mem_cons.mp hw with rfl | hw
    · exact word_at hW (gW_good _ h1) (hts _ h1)
    · exact word_at hW (gW_good _ hw) (hts _ hw), List.mem_cons_self⟩, hts _ h1, hts _ h2, hdx.1, fun sig h => by
    have z := hdx.2
    rw [h] at z
    exact (Option.some.inj z).symm, hts _ hl, hts _ hsm, va_Decl.of (hts _ hix) (hts _ hcx), hts _ hse, hts _ hiy⟩
  exact q_goC (va_runU (C := RJ4) (b := b0) (As := As) (n := k) ⟨hx, hb, hml, hown, hts⟩ (hM H.size) hcu ⟨q_blindMz hz, va_recv hK hPc (ci := 7) (q := (RJ4, TJ4, 4)) rfl hq, fun U hU hW => ⟨rfl, by rw [hU], by rw [hU]; exact hPc, va_K.moved hW.alike hK, hDc.weaken (fun _ _ _ _ => trivial), by rw [hU]; exact hz.1 _ _ _ _ hW hZc⟩⟩ rfl hn hls hst hW hdg hcs) hw hA kk
/-- .. by super -/
theorem q_callX {S : Type} {P : S → Prop} {rv : S → Option Value} {W1 : S → va_W} {wc wr : va_W} {index k fr lo mc ms nL nY : Nat} {y : MethodName} {bytes : ByteArray} {ret : Option FieldType} {b0 : Nat} {As : List Value} {st : List Value} (hz : zOk Z) (hx : p.tables.exec = Jvm.exec) (hb : c.code = cc) (hml : c.maxLocals = nL) (hown : s.vm.findClass RJ4 = some m.cls) (hts : ∀ w ∈ gW, w.before args s = true) (hK : va_K D vwCl ty s)
    (hM : qH l Z D ty y (.code y bytes nY ret :: gW) fr lo mc ms (.ref b0 :: As) wc P rv W1) (hy : qY y bytes nY ret k) (hsm : Cond.sameMethod y.cls y.cls y.name y.desc ∈ gW) (hsu : Cond.superclass RJ4 y.cls ∈ gW) (hiy : Cond.instanceMethod y ∈ gW) (hno : y.name ≠ "<init>") (hl : Cond.methodLink RJ4 index y ∈ gW) (hR : fr + 1 ≤ R.frames ∧ 8 + (nY + 11) + lo ≤ R.locals) (hw : qw D A s.heap (wc ++ wr) H locs) (hA : ∀ q : Nat, s.heap.size ≤ q → A q) (hZ : Z A s s.heap) (q0 : Nat) {fs : List Value} (hq : wc[q0]? = some (b0, .inr (7, fs))) (hn : As.length = k) (hst : st = As.reverse ++ .ref b0 :: rest) (hls : ls.size = nL) (hW : 2 * (F0 m pc ls st).monitorRoom + (rest.map fun v => v.category).sum ≤ 8) (hdg : decode cc pc = .ok (.invokespecial index, 3)) (hcs : cells + mc ≤ R.cells ∧ slots + ms ≤ R.slots)
    (kk : ∀ (u : S) (H1 : Heap) (locs1 : List Loc), P u → qw D A s.heap (W1 u ++ wr) H1 locs1 → W p l e R s m args below meth c H1 locs1 (cells + mc) (slots + ms) Q (F0 m (pc + 3) ls ((rv u).toList ++ rest))) : W p l e R s m args below meth c H locs cells slots Q (F0 m pc ls st) := by
  have hC := rng_map wc wr
  have hPc := hw.1.sub _ (pk_fm hC)
  have hDc := hw.2.1.sub _ (nd_of List.nodup_range) hC
  have hZc := z_W hz hZ hw hA
  obtain ⟨h1, h2, h3, h4⟩ := hy
  have hcs2 : va_CS R s args RJ4 index y bytes nY ret (.code y bytes nY ret :: gW) ({ frames := fr, cells := mc, slots := ms, locals := lo }) mc ms k := ⟨⟨rfl, rfl, hR.1, hR.2, fun w hw a' U hW => by
    rcases List.mem_cons.mp hw with rfl | hw
    · exact word_at hW (gW_good _ h1) (hts _ h1)
    · exact word_at hW (gW_good _ hw) (hts _ hw), List.mem_cons_self⟩, hts _ hl, hts _ hsm, hts _ hsu, hts _ hiy, hts _ h2, hts _ h1, hno, fun sig h => by
    rw [h] at h4
    exact (Option.some.inj h4).symm⟩
  exact q_goC (va_runSU (C := RJ4) (b := b0) (As := As) (n := k) (hK.1 7 (RJ4, TJ4, 4) rfl).2 ⟨hx, hb, hml, hown, hts⟩ (hM H.size) hcs2 ⟨q_blindMz hz, va_recv hK hPc (ci := 7) (q := (RJ4, TJ4, 4)) rfl hq, fun U hU hW => ⟨rfl, by rw [hU], by rw [hU]; exact hPc, va_K.moved hW.alike hK, hDc.weaken (fun _ _ _ _ => trivial), by rw [hU]; exact hz.1 _ _ _ _ hW hZc⟩⟩ rfl hn hls hst hW hdg hcs) hw hA kk
/-- a constructor of the class above -/
theorem q_callSN {S : Type} {P : S → Prop} {W1 : S → va_W} {wc wr : va_W} {own : String} {index k fr lo mc ms nL nY : Nat} {y : MethodName} {bytes : ByteArray} {b0 : Nat} {As : List Value} {st : List Value} (hz : zOk Z) (hx : p.tables.exec = Jvm.exec) (hb : c.code = cc) (hml : c.maxLocals = nL) (hown : s.vm.findClass own = some m.cls) (hts : ∀ w ∈ gW, w.before args s = true) (hK : va_K D vwCl ty s)
    (hM : qH l Z D ty y (.code y bytes nY none :: gW) fr lo mc ms (.ref b0 :: As) wc P (fun _ => none) W1) (hy : qYn y bytes nY none k) (hl : Cond.methodLink own index y ∈ gW) (hR : fr + 1 ≤ R.frames ∧ 8 + (nY + 11) + lo ≤ R.locals) (hw : qw D A s.heap (wc ++ wr) H locs) (hA : ∀ q : Nat, s.heap.size ≤ q → A q) (hZ : Z A s s.heap) (hn : As.length = k) (hst : st = As.reverse ++ .ref b0 :: rest) (hls : ls.size = nL) (hW : 2 * (F0 m pc ls st).monitorRoom + (rest.map fun v => v.category).sum ≤ 8) (hdg : decode cc pc = .ok (.invokespecial index, 3)) (hcs : cells + mc ≤ R.cells ∧ slots + ms ≤ R.slots)
    (kk : ∀ (u : S) (H1 : Heap) (locs1 : List Loc), P u → qw D A s.heap (W1 u ++ wr) H1 locs1 → W p l e R s m args below meth c H1 locs1 (cells + mc) (slots + ms) Q (F0 m (pc + 3) ls rest)) : W p l e R s m args below meth c H locs cells slots Q (F0 m pc ls st) := by
  have hC := rng_map wc wr
  have hPc := hw.1.sub _ (pk_fm hC)
  have hDc := hw.2.1.sub _ (nd_of List.nodup_range) hC
  have hZc := z_W hz hZ hw hA
  obtain ⟨hy0, hy1, hy2⟩ := hy
  exact q_goC (rv := fun _ => none) (va_runI (b := b0) (As := As) (n := k) ⟨hx, hb, hml, hown, hts⟩ (hM H.size) ⟨q_cbN hts hy0 hl hR rfl, hy1, hts _ hy2⟩ ⟨q_blindMz hz, fun U hU hW => ⟨rfl, by rw [hU], by rw [hU]; exact hPc, va_K.moved hW.alike hK, hDc.weaken (fun _ _ _ _ => trivial), by rw [hU]; exact hz.1 _ _ _ _ hW hZc⟩⟩ rfl hn hls hst hW hdg hcs) hw hA kk
/-- a static method -/
theorem q_callHS {S : Type} {P : S → Prop} {rv : S → Option Value} {W1 : S → va_W} {wc wr : va_W} {own : String} {index k fr lo mc ms nL nY : Nat} {y : MethodName} {bytes : ByteArray} {ret : Option FieldType} {As : List Value} {st : List Value} (hz : zOk Z) (hx : p.tables.exec = Jvm.exec) (hb : c.code = cc) (hml : c.maxLocals = nL) (hown : s.vm.findClass own = some m.cls) (hts : ∀ w ∈ gW, w.before args s = true) (hK : va_K D vwCl ty s)
    (hM : qH l Z D ty y (.code y bytes nY ret :: gW) fr lo mc ms As wc P rv W1) (hy : qYt y bytes nY ret k) (hl : Cond.methodLink own index y ∈ gW) (hR : fr + 1 ≤ R.frames ∧ 8 + (nY + 11) + lo ≤ R.locals) (hw : qw D A s.heap (wc ++ wr) H locs) (hA : ∀ q : Nat, s.heap.size ≤ q → A q) (hZ : Z A s s.heap) (hn : As.length = k) (hst : st = As.reverse ++ rest) (hls : ls.size = nL) (hW : 2 * (F0 m pc ls st).monitorRoom + (rest.map fun v => v.category).sum ≤ 8) (hdg : decode cc pc = .ok (.invokestatic index, 3)) (hcs : cells + mc ≤ R.cells ∧ slots + ms ≤ R.slots)
    (kk : ∀ (u : S) (H1 : Heap) (locs1 : List Loc), P u → qw D A s.heap (W1 u ++ wr) H1 locs1 → W p l e R s m args below meth c H1 locs1 (cells + mc) (slots + ms) Q (F0 m (pc + 3) ls ((rv u).toList ++ rest))) : W p l e R s m args below meth c H locs cells slots Q (F0 m pc ls st) := by
  have hC := rng_map wc wr
  have hPc := hw.1.sub _ (pk_fm hC)
  have hDc := hw.2.1.sub _ (nd_of List.nodup_range) hC
  have hZc := z_W hz hZ hw hA
  exact q_goC (va_runS (As := As) (n := k) ⟨hx, hb, hml, hown, hts⟩ (hM H.size) ⟨q_cbN hts hy.1 hl hR rfl, hts _ hy.2⟩ ⟨q_blindMz hz, fun U hU hW => ⟨rfl, by rw [hU], by rw [hU]; exact hPc, va_K.moved hW.alike hK, hDc.weaken (fun _ _ _ _ => trivial), by rw [hU]; exact hz.1 _ _ _ _ hW hZc⟩⟩ rfl hn hls hst hW hdg hcs) hw hA kk
/-- a literal's method that writes its argument -/
theorem q_callHX {S : Type} {P : S → Prop} {rv : S → Option Value} {W1 : S → va_W} {wc wr : va_W} {own : String} {index k fr lo mc ms nL nY : Nat} {y : MethodName} {bytes : ByteArray} {ret : Option FieldType} {b0 : Nat} {As : List Value} {st : List Value} (hz : zOk Z) (hx : p.tables.exec = Jvm.exec) (hb : c.code = cc) (hml : c.maxLocals = nL) (hown : s.vm.findClass own = some m.cls) (hts : ∀ w ∈ gW, w.before args s = true) (hK : va_K D vwCl ty s)
    (hM : qH l Z D ty y (.code y bytes nY ret :: gW) fr lo mc ms (.ref b0 :: As) wc P rv W1) (hy : qYi y bytes nY ret k) (hl : Cond.methodLink own index y ∈ gW) (hR : fr + 1 ≤ R.frames ∧ 8 + (nY + 11) + lo ≤ R.locals) (hw : qw D A s.heap (wc ++ wr) H locs) (hA : ∀ q : Nat, s.heap.size ≤ q → A q) (hZ : Z A s s.heap) (hrec : ∃ cell : Cell, H[b0]? = some cell ∧ cell.vm.isStatics = false ∧ s.vm.findClass y.cls = some cell.cls) (hn : As.length = k) (hst : st = As.reverse ++ .ref b0 :: rest) (hls : ls.size = nL) (hW : 2 * (F0 m pc ls st).monitorRoom + (rest.map fun v => v.category).sum ≤ 8) (hdg : decode cc pc = .ok (.invokevirtual index, 3)) (hcs : cells + mc ≤ R.cells ∧ slots + ms ≤ R.slots)
    (kk : ∀ (u : S) (H1 : Heap) (locs1 : List Loc), P u → qw D A s.heap (W1 u ++ wr) H1 locs1 → W p l e R s m args below meth c H1 locs1 (cells + mc) (slots + ms) Q (F0 m (pc + 3) ls ((rv u).toList ++ rest))) : W p l e R s m args below meth c H locs cells slots Q (F0 m pc ls st) := by
  have hC := rng_map wc wr
  have hPc := hw.1.sub _ (pk_fm hC)
  have hDc := hw.2.1.sub _ (nd_of List.nodup_range) hC
  have hZc := z_W hz hZ hw hA
  exact q_goC (va_runV (C := y.cls) (b := b0) (As := As) (n := k) ⟨hx, hb, hml, hown, hts⟩ (hM H.size) ⟨q_cbN hts hy.1 hl hR rfl, hts _ hy.2.1, hts _ hy.2.2⟩ ⟨q_blindMz hz, hrec, fun U hU hW => ⟨rfl, by rw [hU], by rw [hU]; exact hPc, va_K.moved hW.alike hK, hDc.weaken (fun _ _ _ _ => trivial), by rw [hU]; exact hz.1 _ _ _ _ hW hZc⟩⟩ rfl hn hls hst hW hdg hcs) hw hA kk
theorem q_ishl0 (hx : p.tables.exec = Jvm.exec) (hb : c.code = cc) {a : Int} (hdg : decode cc pc = .ok (.ishl, 1)) (k : W p l e R s m args below meth c H locs cells slots Q (F0 m (pc + 1) ls (.int (iI a) :: rest))) : W p l e R s m args below meth c H locs cells slots Q (F0 m pc ls (.int (iI 0) :: .int (iI a) :: rest)) := by
  have e : ∀ v : Int32, v <<< ((iI 0) &&& 31) = v := fun v => by
    rw [show (iI 0 &&& 31 : Int32) = 0 by decide]
    apply Int32.toBitVec_inj.mp
    rw [Int32.toBitVec_shiftLeft]
    show v.toBitVec <<< (0 : Nat) = _
    exact BitVec.shiftLeft_zero _
  exact lv_ishl hx hb hdg (by rw [e]; exact k)
theorem q_ishr0 (hx : p.tables.exec = Jvm.exec) (hb : c.code = cc) {a : Int} (hdg : decode cc pc = .ok (.ishr, 1)) (k : W p l e R s m args below meth c H locs cells slots Q (F0 m (pc + 1) ls (.int (iI a) :: rest))) : W p l e R s m args below meth c H locs cells slots Q (F0 m pc ls (.int (iI 0) :: .int (iI a) :: rest)) := by
  have e : ∀ v : Int32, v >>> ((iI 0) &&& 31) = v := fun v => by
    rw [show (iI 0 &&& 31 : Int32) = 0 by decide]
    apply Int32.toBitVec_inj.mp
    rw [Int32.toBitVec_shiftRight]
    show v.toBitVec.sshiftRight (0 : Nat) = _
    exact BitVec.sshiftRight_zero
  exact lv_ishr hx hb hdg (by rw [e]; exact k)
/-- the first entries of one row into a longer one -/
theorem q_bcopy (hx : p.tables.exec = Jvm.exec) (hb : c.code = cc) {nL : Nat} (hml : c.maxLocals = nL) (hls : ls.size = nL) {own : String} {index : Nat} (hown : s.vm.findClass own = some m.cls) (hts : ∀ w ∈ gW, w.before args s = true) (hl : Cond.methodLink own index arraycopyName ∈ gW)
    (hK : va_K D vwCl ty s) (hw : qw D A H0 ws H locs) (q0 q1 : Nat) {a0 a1 n0 n1 : Nat} {cA : ClassId} {f g : Int → Int} (ha0 : ws[q0]? = some (a0, .inl (cA, n0, .inl (ai f)))) (ha1 : ws[q1]? = some (a1, .inl (cA, n1, .inl (ai g)))) (ht : ty[1]? = some (cA, .byte)) (hn : n0 ≤ n1 ∧ n1 < 100000) (hf : ∀ j : Int, 0 ≤ j → j < (n0 : Int) → -128 ≤ f j ∧ f j < 128) {k : Int} (hk : k = (n0 : Int))
    (hframes : 1 ≤ R.frames) (hlocals : (rest.map fun v => v.category).sum + (nativeFrameWords "java/lang/System" "arraycopy" 5 + 11) ≤ R.locals) (hdg : decode cc pc = .ok (.invokestatic index, 3))
    (kk : ∀ (H1 : Heap) (locs1 : List Loc), qw D A H0 (ws.set q1 (a1, .inl (cA, n1, .inl (ai (cpF f g (n0 : Int)))))) H1 locs1 → W p l e R s m args below meth c H1 locs1 cells slots Q (F0 m (pc + 3) ls rest)) : W p l e R s m args below meth c H locs cells slots Q (F0 m pc ls (.int (iI k) :: .int (iI 0) :: .ref a1 :: .int (iI 0) :: .ref a0 :: rest)) := by
  have e0 : (iI 0).toNatClampNeg = 0 := by decide
  have ek : (iI k).toNatClampNeg = n0 := by rw [iI_cl (by omega) (by omega)]; omega
  refine va_copyi hx hb (by rw [hml, hls]) hown (hts _ hl) (hts _ na_arraycopy) (hts _ st_arraycopy) (hts _ ini_J10) hK hw.1 hw.2.1 hw.2.2 q0 q1 1 1 ha0 ha1 ht ht rfl (by decide) (by decide) (by rw [show (0 : Int32) = iI 0 from rfl, iI_lt ⟨by omega, by omega⟩ ⟨by decide, by decide⟩]; omega) (by rw [e0, ek]; omega) (by rw [e0, ek]; omega) (fun i hi => ?_) hframes hlocals hdg (fun H1 locs1 h1 h2 h3 => ?_)
  · rw [ek] at hi
    rw [e0, Nat.zero_add]
    exact fit_by (hf (i : Int) (by omega) (by omega))
  · rw [e0, ek] at h1 h2
    refine kk H1 locs1 ⟨vP_set (f := va_cpy (ai f) (ai g) 0 0 n0) (fun j hj => ?_) h1, vD_set (x := (a1, .inl (cA, n1, .inl (va_cpy (ai f) (ai g) 0 0 n0)))) rfl h2, h3⟩
    unfold va_cpy ai cpF
    by_cases q : j < n0
    · rw [if_pos ⟨Nat.zero_le _, by omega⟩, if_pos (by omega)]
      congr 2
      omega
    · rw [if_neg (by omega), if_neg (by omega)]
set_option maxHeartbeats 4000000 in
/-- a literal's bytes into a row -/
theorem q_lcopy (hx : p.tables.exec = Jvm.exec) (hb : c.code = cc) {nL : Nat} (hml : c.maxLocals = nL) (hls : ls.size = nL) {own : String} {index : Nat} (hown : s.vm.findClass own = some m.cls) (hts : ∀ w ∈ gW, w.before args s = true) (hl : Cond.methodLink own index arraycopyName ∈ gW)
    (hK : va_K D vwCl ty s) (hw : qw D A s.heap ws H locs) {t0 : Nat} {L : List Int} {g : Int → Int} (hT : va_T .byte t0 L.length (fun j => .int ((L.map iI).getD j 0)) A s s.heap) (hL : ∀ k : Nat, k < L.length → 0 ≤ L.getD k 0 ∧ L.getD k 0 < 128) (q1 : Nat) {a1 n1 : Nat} {cA : ClassId} (ha1 : ws[q1]? = some (a1, .inl (cA, n1, .inl (ai g)))) (ht : ty[1]? = some (cA, .byte)) {n k : Int} (hk : k = (L.length : Int)) (hn : 0 ≤ n ∧ n + k ≤ (n1 : Int) ∧ n1 < 100000)
    (hframes : 1 ≤ R.frames) (hlocals : (rest.map fun v => v.category).sum + (nativeFrameWords "java/lang/System" "arraycopy" 5 + 11) ≤ R.locals) (hdg : decode cc pc = .ok (.invokestatic index, 3))
    (kk : ∀ (H1 : Heap) (locs1 : List Loc), qw D A s.heap (ws.set q1 (a1, .inl (cA, n1, .inl (ai (lay L g n))))) H1 locs1 → W p l e R s m args below meth c H1 locs1 cells slots Q (F0 m (pc + 3) ls rest)) : W p l e R s m args below meth c H locs cells slots Q (F0 m pc ls (.int (iI k) :: .int (iI n) :: .ref a1 :: .int (iI 0) :: .ref t0 :: rest)) := by
  subst hk
  obtain ⟨hP, hD, hS⟩ := hw
  intro T hT0 X
  obtain ⟨scr, s1, s2, s3, s4, s5, s6, s7⟩ := hT
  have c0 : H[t0]? = some scr := by rw [hS.2.1 t0 (Array.getElem?_eq_some_iff.mp s1).1 s7]; exact s1
  have c1 : H[a1]? = some (vp_cell cA (n1, .inl (ai g))) := hP q1 _ ha1
  obtain ⟨b1, k0, b2, b3, b4⟩ := s2
  obtain ⟨-, k1, d2, d3, d4⟩ := (hK.2 1 _ ht).1 n1 (fun j => .int (ai g j))
  have i0 : (iI 0).toInt = 0 := by decide
  have in0 : (iI n).toInt = n := iI_t ⟨by omega, by omega⟩
  have il : (iI (L.length : Int)).toInt = (L.length : Int) := iI_t ⟨by omega, by omega⟩
  have cn : (iI n).toNatClampNeg = n.toNat := iI_cl (by omega) (by omega)
  have cl9 : (iI (L.length : Int)).toNatClampNeg = L.length := by rw [iI_cl (by omega) (by omega)]; omega
  obtain ⟨vm', X', step⟩ := X.arraycopy hx hown (hts _ hl) (hts _ na_arraycopy) (hts _ st_arraycopy) (hts _ ini_J10) (src := t0) (dst := a1) (cs := scr) (cd := vp_cell cA (n1, .inl (ai g))) (srcPos := iI 0) (destPos := iI n) (n := iI (L.length : Int)) (by rw [hT0]; exact c0) (by rw [hT0]; exact c1)
    b1 (fun _ h => by cases h) s3 (fun h => by cases h) b2 d2 b4 d4 (by simp [refKind]) (by decide) (by rw [show (0 : Int32) = iI 0 from rfl, iI_lt ⟨by omega, by omega⟩ ⟨by decide, by decide⟩]; omega) (by rw [show (0 : Int32) = iI 0 from rfl, iI_lt ⟨by omega, by omega⟩ ⟨by decide, by decide⟩]; omega)
    (by rw [i0, il]; omega)
    (by rw [in0, il]; show ¬ _ > ((arrV cA n1 (fun j => .int (ai g j))).slots.size : Int); rw [arrV_size]; omega)
    (fun vm₁ _ i hi => by
      rw [cl9] at hi
      have e0 : scr.slots.getD ((iI 0).toNatClampNeg + i) .null = .int (iI (L.getD i 0)) := by
        rw [show (iI 0).toNatClampNeg = 0 by decide, Nat.zero_add, Array.getD_eq_getD_getElem?, s6 _ hi, Option.getD_some]
        show Value.int ((L.map iI).getD i 0) = _
        rw [getD_iI hi]
      rw [e0]
      exact ⟨fit_by ⟨by have := (hL i hi).1; omega, (hL i hi).2⟩, trivial⟩)
    (g := F0 m pc ls (.int (iI (L.length : Int)) :: .int (iI n) :: .ref a1 :: .int (iI 0) :: .ref t0 :: rest)) rfl (by rw [hml]; exact hls) (rest := rest) rfl (by rw [hb]; exact hdg) hframes (by show 2 * 0 + _ + _ ≤ _; omega)
  have e1 : copied scr (vp_cell cA (n1, .inl (ai g))) (iI 0) (iI n) (iI (L.length : Int)) = vp_cell cA (n1, .inl (va_cpy (fun j => (L.map iI).getD j 0) (ai g) 0 n.toNat L.length)) := by
    have z := va_copiedX (fun z => .int z) scr cA (n1 := n1) (dp := n.toNat) (sp := 0) (n := L.length) (fun j => (L.map iI).getD j 0) (ai g) s6 (by omega)
    unfold copied
    rw [cn, cl9]
    exact z
  rw [e1] at X' step
  have hl9 : a1 < H.size := (Array.getElem?_eq_some_iff.mp c1).1
  have hheap : ((T.setVm vm').setCell a1 (vp_cell cA (n1, .inl (va_cpy (fun j => (L.map iI).getD j 0) (ai g) 0 n.toNat L.length)))).heap = H.setIfInBounds a1 (vp_cell cA (n1, .inl (va_cpy (fun j => (L.map iI).getD j 0) (ai g) 0 n.toNat L.length))) := by rw [← hT0]; rfl
  have oq : ∀ q : Nat, q ≠ a1 → (H.setIfInBounds a1 (vp_cell cA (n1, .inl (va_cpy (fun j => (L.map iI).getD j 0) (ai g) 0 n.toNat L.length))))[q]? = H[q]? := fun q hq => by simp [Array.getElem?_setIfInBounds, Ne.symm hq]
  obtain ⟨t, a9, b9⟩ := kk _ _ ⟨vP_set (f := va_cpy (fun j => (L.map iI).getD j 0) (ai g) 0 n.toNat L.length) (fun j hj => by
      unfold va_cpy ai lay
      by_cases q : n.toNat ≤ j ∧ j < n.toNat + L.length
      · rw [if_pos q, if_pos (by omega)]
        show (L.map iI).getD (0 + (j - n.toNat)) 0 = _
        rw [getD_iI (by omega), show ((j : Int) - n).toNat = 0 + (j - n.toNat) by omega]
      · rw [if_neg q, if_neg (by omega)]) (hP.set hD ha1 (show (H.setIfInBounds a1 _)[a1]? = some _ by simp [Array.getElem?_setIfInBounds, hl9]) oq), vD_set (x := (a1, .inl (cA, n1, .inl (va_cpy (fun j => (L.map iI).getD j 0) (ai g) 0 n.toNat L.length)))) rfl (hD.set ha1), ⟨by simp; exact hS.1, fun q g1 g2 => by
      rw [oq q (fun e => g2 (by rw [e]; exact hD.2 q1 _ ha1))]
      exact hS.2.1 q g1 g2, fun q hq => by
      rcases List.mem_append.mp hq with h | h
      · exact hS.2.2 q h
      · obtain ⟨z, -, hz⟩ := List.mem_map.mp h
        rw [← hz]
        exact hD.2 q1 _ ha1⟩⟩ _ hheap X'
  exact ⟨t, step t a9, b9⟩
end RBC

/-! METHODS THAT THROW -/
abbrev exN : List String := ["java/lang/RuntimeException", "java/lang/Exception"]
abbrev EIA : String := "java/lang/IllegalArgumentException"
abbrev EIS : String := "java/lang/IllegalStateException"
abbrev EIO : String := "java/lang/IndexOutOfBoundsException"
/-- words that the tables alone decide -/
def xW : List Cond := [.declares ⟨"java/lang/RuntimeException", "<init>", "(Ljava/lang/String;)V"⟩, .declares ⟨"java/lang/Exception", "<init>", "(Ljava/lang/String;)V"⟩, .declares ⟨"java/lang/Throwable", "<init>", "(Ljava/lang/String;)V"⟩, .castable EIA EIA, .castable EIS EIS, .castable EIO EIO]
theorem xW_ot : ∀ w ∈ xW, w.onTables = true := by decide
/-- what nobody writes, and these words -/
def ZY (z : Nat → Nat) : ZT := fun A U H => ZZ z A U H ∧ (∀ w ∈ xW, va_Nw w U) ∧ va_Nc EIS EIA U ∧ va_Nc EIS EIA U
theorem xW_warm : ∀ w ∈ xW, ∀ (s U : State), s.WarmedH U.vm → va_Nw w s → va_Nw w U := List.forall_mem_cons.mpr ⟨fun _ _ hW h => va_Nw.warmD hW h, List.forall_mem_cons.mpr ⟨fun _ _ hW h => va_Nw.warmD hW h, List.forall_mem_cons.mpr ⟨fun _ _ hW h => va_Nw.warmD hW h, List.forall_mem_cons.mpr ⟨fun _ _ hW h => va_Nw.warmC hW h, List.forall_mem_cons.mpr ⟨fun _ _ hW h => va_Nw.warmC hW h, List.forall_mem_cons.mpr ⟨fun _ _ hW h => va_Nw.warmC hW h, fun _ h => absurd h List.not_mem_nil⟩⟩⟩⟩⟩⟩
theorem zy_ok (z : Nat → Nat) : zOk (ZY z) := by
  obtain ⟨o1, o2, o3, o4⟩ := zz_ok z
  refine ⟨fun A s U H hW h => ⟨o1 A s U H hW h.1, fun w hw => xW_warm w hw s U hW (h.2.1 w hw), h.2.2.1.moved hW.alike, h.2.2.2.moved hW.alike⟩, fun A u U H hv h => ⟨o2 A u U H hv h.1, fun w hw => va_tabs (xW_ot w hw) hv.symm (h.2.1 w hw), h.2.2.1.moved (by rw [hv]; exact Vm.Alike.refl _), h.2.2.2.moved (by rw [hv]; exact Vm.Alike.refl _)⟩, fun A U H H1 h hq => ⟨o3 A U H H1 h.1 hq, h.2⟩, fun A B U H h hq => ⟨o4 A B U H h.1 hq, h.2⟩⟩
theorem xat_all {ws : List Cond} (h : ws.all (fun w => decide (w ∈ xW) || (decide (w ∈ lw_tbl) && goodWord w)) = true) : ∀ w ∈ ws, w ∈ gW ∨ w ∈ xW := fun w hw => by
  have h1 := List.all_eq_true.mp h w hw
  simp only [Bool.or_eq_true, Bool.and_eq_true, decide_eq_true_eq] at h1
  rcases h1 with h1 | h1
  · exact Or.inr h1
  · exact Or.inl (List.mem_filter.mpr ⟨List.mem_append_right _ h1.1, h1.2⟩)
theorem at_X6_79 : ∀ w ∈ vx_atS RX6 79 EIA exN, w ∈ gW ∨ w ∈ xW := xat_all (by decide +kernel)
theorem at_X6_142 : ∀ w ∈ vx_atS RX6 142 EIO exN, w ∈ gW ∨ w ∈ xW := xat_all (by decide +kernel)
theorem at_X6_272 : ∀ w ∈ vx_atS RX6 272 EIS exN, w ∈ gW ∨ w ∈ xW := xat_all (by decide +kernel)
theorem ini_EIA : Cond.initialized EIA ∈ gW := gW_all (ws := [Cond.initialized EIA]) (by decide +kernel) _ List.mem_cons_self
theorem ini_EIS : Cond.initialized EIS ∈ gW := gW_all (ws := [Cond.initialized EIS]) (by decide +kernel) _ List.mem_cons_self
theorem ini_EIO : Cond.initialized EIO ∈ gW := gW_all (ws := [Cond.initialized EIO]) (by decide +kernel) _ List.mem_cons_self
theorem gW_ot {w : Cond} (h : w ∈ gW) : vx_ot w = true := by
  have z := (List.mem_filter.mp h).2
  unfold vx_ot
  rw [z, Bool.or_true]
/-- a method that throws E, and writes nothing -/
def qT (l : Launch) (Z : ZT) (D : va_G) (ty : List (ClassId × FieldType)) (y : MethodName) (b : ByteArray) (n : Nat) (ret : Option FieldType) (fr lo : Nat) (av : List Value) (W0 : va_W) (E : String) : Prop :=
  ∀ sz : Nat, vx_Met l y (.code y b n ret :: gW) ({ frames := fr, cells := 1, slots := 6, locals := lo }) (va_Pc av (fun U => U.heap.size = sz ∧ va_P D vwCl W0 U.heap ∧ va_K D vwCl ty U ∧ va_D (fun _ => True) W0 ∧ Z (va_A W0 sz) U U.heap)) (va_Qi (S := Unit) (fun _ _ => False) (fun _ _ => True) (fun q => sz ≤ q)) (vx_X (S := Unit) (fun _ => True) (fun E' _ _ => E' = E) (fun q => sz ≤ q)) 1 6 (fun q => sz ≤ q)
theorem qT_enter {l : Launch} {Z : ZT} {D : va_G} {ty : List (ClassId × FieldType)} {y : MethodName} {b : ByteArray} {n fr lo : Nat} {ret : Option FieldType} {av : List Value} {W0 : va_W} {E : String} (hst : l.stackTraces = false) (hzX : ∀ (A : Nat → Prop) (U : State) (H : Heap), Z A U H → ∀ w ∈ xW, va_Nw w U) (hzU : ∀ (A : Nat → Prop) (U : State) (H : Heap), Z A U H → vx_Zq Bundle.tN "UNASSIGNED_STACK" Bundle.steD A U H ∧ vx_Zq Bundle.tN "SUPPRESSED_SENTINEL" Bundle.listD A U H) (hE : Bundle.fit E = true) (hini : Cond.initialized E ∈ gW) (hy : plainName y.cls = true) (hn : (lg_sl av).length ≤ n) (hfr : 6 ≤ fr ∧ 82 ≤ lo)
    (body : ∀ (p : Program) (e : Env) (R : Room) (s : State) (m : MethodId) (args : Array Value) (below : List Frame) (meth : Method) (c : Code) (Q : State → Prop) (ls : Array Slot), qX p s m args c b n y.cls D ty → R = ({ frames := fr, cells := 1, slots := 6, locals := lo } : Room) → va_P D vwCl W0 s.heap → Z (va_A W0 s.heap.size) s s.heap → lv_has ls n (lv_args 0 av) →
      (∀ (pc : Nat) (ls : Array Slot) (text : String) (ik is ic sa : Nat), ls.size = n → Cond.classLink y.cls ik E ∈ gW → vk_R y.cls is text sa s → (∀ w ∈ vx_atS y.cls ic E exN, w ∈ gW ∨ w ∈ xW) → decode b pc = .ok (.new ik, 3) → decode b (pc + 3) = .ok (.dup, 1) → (decode b (pc + 4) = .ok (.ldc is, 2) ∧ decode b (pc + 6) = .ok (.invokespecial ic, 3) ∧ decode b (pc + 9) = .ok (.athrow, 1)) ∨ (decode b (pc + 4) = .ok (.ldc_w is, 3) ∧ decode b (pc + 7) = .ok (.invokespecial ic, 3) ∧ decode b (pc + 10) = .ok (.athrow, 1)) → W p l e R s m args below meth c s.heap [] 0 0 Q (F0 m pc ls [])) →
      W p l e R s m args below meth c s.heap [] 0 0 Q (F0 m 0 ls [])) : qT l Z D ty y b n ret fr lo av W0 E := by
  intro sz
  refine vx_ofW (cc := b) (maxL := n) (ret := ret) hy rfl ?_
  intro p e s m args below meth c s₁ B hml htab hv
  obtain ⟨rfl, hsz, hP, hK, hD0, hZ⟩ := hv
  subst hsz
  have hts := atoms_spec (ws := (.code y b n ret :: gW)) B.pre
  rw [lg_entry_eq]
  have hlocks := B.notSynchronized
  have hwg : ∀ w ∈ gW, w.before av.toArray s = true := fun w h => hts w (List.mem_cons_of_mem _ h)
  have hown := findClass_of_methodNamed B.named
  obtain ⟨hU, hN⟩ := hzU _ _ _ hZ
  have hXw : ∀ w ∈ xW, w.before av.toArray s = true := fun w h => va_tabs (xW_ot w h) rfl (hzX _ _ _ hZ w h)
  have hns : ∀ x ∈ exN, Bundle.fit x = true := by decide +kernel
  have hXC : ∀ t : State, s.vm.Alike t.vm → s.heap.size ≤ t.heap.size → (∀ q : Nat, q < s.heap.size → t.heap[q]? = s.heap[q]?) → vx_X (S := Unit) (fun _ => True) (fun E' _ _ => E' = E) (fun q => s.heap.size ≤ q) E s t := fun t _ h2 h3 => ⟨(), trivial, rfl, h2, fun q hq _ => h3 q hq⟩
  refine body p e _ s m _ below meth c _ _ ⟨B.exec, B.bytes, hml, hown, hwg, hK⟩ rfl hP hZ (lv_entry av hn) (fun pc ls text ik is ic sa hls hk hr hat d0 d3 dd => ?_)
  have hgood : ∀ w ∈ Cond.classLink y.cls ik E :: Cond.initialized E :: vx_atS y.cls ic E exN, vx_ot w = true := fun w hw => by
    rcases List.mem_cons.mp hw with h | h
    · rw [h]; exact gW_ot hk
    · rcases List.mem_cons.mp h with h | h
      · rw [h]; exact gW_ot hini
      · rcases hat w h with g | g
        · exact gW_ot g
        · unfold vx_ot; rw [xW_ot w g, Bool.true_or]
  have hat2 : ∀ w ∈ vx_atS y.cls ic E exN, w.before av.toArray s = true := fun w hw => (hat w hw).elim (hwg w) (hXw w)
  rcases dd with ⟨d4, d6, d9⟩ | ⟨d4, d7, d10⟩
  · exact vx_throwS (A := va_A W0 s.heap.size) B.exec B.bytes hst hown hE hns (hwg _ hk) (hwg _ hini) hr hat2 hgood hU hN va_S.rf (hls.trans hml.symm) d0 d3 d4 d6 d9 (fun x hx => (htab x hx).elim) (show 2 + 3 < fr by omega) (show 0 + (13 * (2 + 1) + 43) ≤ lo by omega) (show 0 + 1 ≤ 1 by omega) (show 0 + 6 ≤ 6 by omega) hlocks hXC (fun z hz => by cases hz) (by omega) (by omega)
  · exact vx_throwSW (A := va_A W0 s.heap.size) B.exec B.bytes hst hown hE hns (hwg _ hk) (hwg _ hini) hr hat2 hgood hU hN va_S.rf (hls.trans hml.symm) d0 d3 d4 d7 d10 (fun x hx => (htab x hx).elim) (show 2 + 3 < fr by omega) (show 0 + (13 * (2 + 1) + 43) ≤ lo by omega) (show 0 + 1 ≤ 1 by omega) (show 0 + 6 ≤ 6 by omega) hlocks hXC (fun z hz => by cases hz) (by omega) (by omega)
theorem zy_U (z : Nat → Nat) : ∀ (A : Nat → Prop) (U : State) (H : Heap), ZY z A U H → vx_Zq Bundle.tN "UNASSIGNED_STACK" Bundle.steD A U H ∧ vx_Zq Bundle.tN "SUPPRESSED_SENTINEL" Bundle.listD A U H := fun _ _ _ h => ⟨h.1.2.2.2.2.2.1, h.1.2.2.2.2.2.2⟩
theorem zy_X (z : Nat → Nat) : ∀ (A : Nat → Prop) (U : State) (H : Heap), ZY z A U H → ∀ w ∈ xW, va_Nw w U := fun _ _ _ h => h.2.1

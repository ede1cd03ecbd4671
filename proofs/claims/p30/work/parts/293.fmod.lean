/-! Math.floorMod of a number that is not negative -/
theorem xor_nn {x y : Int32} (hx : 0 ≤ x.toInt) (hy : 0 ≤ y.toInt) : 0 ≤ (x ^^^ y).toInt := by
  have h1 : x.toBitVec.msb = false := by rw [BitVec.msb_eq_toInt]; exact decide_eq_false (Int.not_lt.mpr hx)
  have h2 : y.toBitVec.msb = false := by rw [BitVec.msb_eq_toInt]; exact decide_eq_false (Int.not_lt.mpr hy)
  have h3 : (x ^^^ y).toBitVec.msb = false := by rw [Int32.toBitVec_xor, BitVec.msb_xor, h1, h2]; rfl
  rw [BitVec.msb_eq_toInt] at h3
  exact Int.not_lt.mp (of_decide_eq_false h3)
/-- a method of a class that has natives, itself none (the kit's entry asks for a class without) -/
theorem met_ofF {l : Launch} {y : MethodName} {ws ws' : List Cond} {rm : Room} {Pc : Array Value → State → Prop} {Qc : Array Value → State → Outcome → State → Prop} {mc ms : Nat} {free : Addr → Prop} {cc : ByteArray} {maxL : Nat} {ret : Option FieldType}
    (hy : plainFor y = true) (hw : ws = Cond.code y cc maxL ret :: ws')
    (body : ∀ p e s m args below meth c s₁, BodyLoose p l y (headSpec ws rm) cc maxL ret e s m args below meth c s₁ → c.maxLocals = maxL → Pc args s →
      W p l e (headSpec ws rm).room s m args below meth c s.heap [] 0 0 (MQ below Qc args s mc ms free) (entryFrame m args maxL)) : Met l y ws rm Pc Qc mc ms free := by
  refine MetFree.of_bodySF (code := cc) (maxLocals := maxL) (ret := ret) hy ?_ ?_
  · intro args s m h hn
    obtain ⟨meth, c, h1, h2, h3, h4, h5, h6, -, -⟩ := Cond.code_spec hn (atoms_spec (ws := ws) h _ (by rw [hw]; exact List.mem_cons_self))
    exact ⟨meth, c, h1, h2, h3, h4, h5, h6⟩
  · intro p e s m args below meth c s₁ B hml hP _
    have hh0 : s₁.heap = s.heap := by rw [B.state]; rfl
    obtain ⟨t, a1, o, b1, b2, b3⟩ := body p e s m args below meth c s₁ B hml hP s₁ hh0 (Stand.of_body B)
    exact ⟨t, o, a1, b1, b2, ⟨b3.1, b3.2⟩⟩
section FMD
variable {l : Launch} {D : va_G} {cI cB cZ cS cJ : ClassId}
theorem qP_enterF {ty : List (ClassId × FieldType)} {y : MethodName} {b : ByteArray} {n fr lo : Nat} {av : List Value} {W0 : va_W} {rt : FieldType} {v : Int32} (hy : plainFor y = true) (hn : (lg_sl av).length ≤ n) (hnar : narrow rt (.int v) = .int v)
    (body : ∀ (p : Program) (e : Env) (R : Room) (s : State) (m : MethodId) (args : Array Value) (below : List Frame) (meth : Method) (c : Code) (Q : State → Prop) (ls : Array Slot), qX p s m args c b n y.cls D ty → R = ({ frames := fr, cells := 0, slots := 0, locals := lo } : Room) → va_P D vwCl W0 s.heap → lv_has ls n (lv_args 0 av) →
      (∀ (pc : Nat) (ls : Array Slot), decode b pc = .ok (.ireturn, 1) → W p l e R s m args below meth c s.heap [] 0 0 Q (F0 m pc ls [.int v])) → W p l e R s m args below meth c s.heap [] 0 0 Q (F0 m 0 ls [])) :
    qP l D ty y b n (some rt) fr lo av W0 (some (.int v)) := by
  refine met_ofF (cc := b) (maxL := n) (ret := some rt) hy rfl ?_
  intro p e s m args below meth c s₁ B hml hv
  obtain ⟨rfl, hP, hK⟩ := hv
  have hts := atoms_spec (ws := (.code y b n (some rt) :: gW)) B.pre
  rw [lg_entry_eq]
  have hlocks := B.notSynchronized
  have hr := B.returns
  exact body p e _ s m _ below meth c _ _ ⟨B.exec, B.bytes, hml, findClass_of_methodNamed B.named, fun w h => hts w (List.mem_cons_of_mem _ h), hK⟩ rfl hP (lv_entry av hn) (fun pc ls hdg => W.zret (v := v) B.exec B.bytes hr hnar (fun t ht hW => ⟨rfl, ht⟩) (fun q hq => by cases hq) hdg)
theorem c_J9_floorMod (a b : Int) (ha : 0 ≤ a ∧ a < 2147483648) (hb0 : 0 < b ∧ b < 2147483648) : qP l D (tyG cI cB cZ cS cJ) yJ9_floorMod_7cf53 cJ9_floorMod_7cf53 3 (Option.some FieldType.int) 0 0 [.int (iI a), .int (iI b)] [] (some (.int (iI (a % b)))) := by
  refine qP_enterF (by decide +kernel) (Nat.le_of_ble_eq_true rfl) (nar_i _) (fun p e R s m args below meth c Q ls X hR hP hl hret => ?_)
  obtain ⟨hx, hb, hml, hown, hts, hK⟩ := X
  have hl : lv_has ls 3 [(0, .int (iI a)), (1, .int (iI b))] := hl
  refine lv_iload_n hx hb dJ9_floorMod_7cf53_0 rfl (lv_at hl 0 rfl) ?_
  refine lv_iload_n hx hb dJ9_floorMod_7cf53_1 rfl (lv_at hl 1 rfl) ?_
  refine q_irem hx hb dJ9_floorMod_7cf53_2 ⟨by omega, by omega⟩ ⟨by omega, by omega⟩ (by omega) ?_
  refine q_top (a % b) (Int.tmod_eq_emod_of_nonneg ha.1) ?_
  refine lv_istore_n (lv' := [(2, .int (iI (a % b))), (0, .int (iI a)), (1, .int (iI b))]) hx hb dJ9_floorMod_7cf53_3 rfl hl (by decide) rfl (fun ls hl => ?_)
  refine lv_iload_n hx hb dJ9_floorMod_7cf53_4 rfl (lv_at hl 1 rfl) ?_
  refine lv_iload_n hx hb dJ9_floorMod_7cf53_5 rfl (lv_at hl 2 rfl) ?_
  refine lv_ixor hx hb dJ9_floorMod_7cf53_6 ?_
  have hn : 0 ≤ (iI a ^^^ iI b).toInt := xor_nn (by rw [iI_t ⟨by omega, by omega⟩]; exact ha.1) (by rw [iI_t ⟨by omega, by omega⟩]; exact Int.le_of_lt hb0.1)
  rw [show iI a ^^^ iI b = iI (iI a ^^^ iI b).toInt from (iI_of _).symm]
  refine q_if_ge (tgt := 18) hx hb dJ9_floorMod_7cf53_7 (by decide) (rg_of _) (fun c_7 => ?_) (fun c_7 => absurd hn (Int.not_le.mpr c_7))
  refine lv_iload_n hx hb dJ9_floorMod_7cf53_18 rfl (lv_at hl 0 rfl) ?_
  exact q_ret (hret 19 ls dJ9_floorMod_7cf53_19) rfl
end FMD
/-- how many thicknesses there are, of so many that were added -/
theorem mz_bd {a c : Int} (h0 : 0 ≤ a) (h : minZ a 6 = c) : 0 ≤ c ∧ c ≤ 6 ∧ c ≤ a := by
  unfold minZ at h
  split at h <;> omega
theorem mz_s {a o m : Int} (h0 : 0 ≤ a) (h : o = if m = 1 then a + 1 else a) : minZ o 6 = if m = 1 then (if minZ a 6 < 6 then minZ a 6 + 1 else 6) else minZ a 6 := by
  rw [h]
  unfold minZ
  (repeat' split) <;> omega
theorem mz_l {a : Int} (h : minZ a 6 < 6) : a = minZ a 6 := by
  unfold minZ at h ⊢
  split at h <;> (split <;> omega)
theorem mz_C {T C : Nat → Int → Int} (hC : WC T C) : minZ (C 11 7) 6 = C 11 6 := by
  have q := hC.1
  unfold minZ
  split <;> omega

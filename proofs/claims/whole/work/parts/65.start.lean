/-! the start: what is known of the classes and of the strings -/
theorem arr_of {s : State} {args : Array Value} {ty : FieldType} (h : (Cond.arrayClass ty).before args s = true) : ∃ c : ClassId, ArrOfT s c ty ∧ s.vm.findClass ("[" ++ ty.toString) = some c := by
  obtain ⟨c, k, comp, h1, h2, h3⟩ := Cond.arrayClass_spec h
  exact ⟨c, fun N z => ⟨(fun k h => by cases h), k, h2, comp, h3⟩, h1⟩
theorem arrq_of {s : State} {args : Array Value} {n : String} (h : (Cond.arrayOver (.object n)).before args s = true) : ∃ c : ClassId, ArrOfT s c (.object n) ∧ va_RA s c (.object n) := by
  obtain ⟨comp, c, k, h1, -, h3, h4, h5⟩ := Cond.arrayOver_spec h
  exact ⟨c, fun N z => ⟨(fun k h => by cases h), k, h3, comp, h4⟩, k, comp, h3, h4, h1, h5⟩
theorem nest_tabs : ∀ w ∈ nestW, w.onTables = true := by decide +kernel
theorem start_G {s : State} {args : Array Value} (hts : ∀ w ∈ lw_tbl, w.before args s = true) : ∃ G : GT, KK G s := by
  have ht : ∀ w ∈ lw_all, w.before args s = true := fun w h => hts w (lw_all_tbl w h)
  obtain ⟨c1, i1, k1⟩ := u_known ht inX1 (ht _ q1_162)
  obtain ⟨c2, i2, k2⟩ := u_known ht inX2 (ht _ q1_69)
  obtain ⟨c3, i3, k3⟩ := u_known ht inX3 (ht _ q1_124)
  obtain ⟨c4, i4, k4⟩ := u_known ht inX4 (ht _ q1_36)
  obtain ⟨c5, i5, k5⟩ := u_known ht inX5 (ht _ q1_177)
  obtain ⟨c6, i6, k6⟩ := u_known ht inX6 (ht _ q1_148)
  obtain ⟨c7, i7, k7⟩ := u_known ht inX7 (ht _ q1_189)
  obtain ⟨c8, i8, k8⟩ := u_known ht inX8 (ht _ q1_116)
  obtain ⟨c9, i9, k9⟩ := u_known ht inX9 (ht _ q1_86)
  obtain ⟨c10, i10, k10⟩ := u_known ht inX10 (ht _ q1_30)
  obtain ⟨c11, i11, k11⟩ := u_known ht inX11 (ht _ q1_22)
  obtain ⟨c12, i12, k12⟩ := u_known ht inX12 (ht _ q4_6)
  obtain ⟨aI, aI1, aI2⟩ := arr_of (ht _ q1_51)
  obtain ⟨aJ, aJ1, aJ2⟩ := arr_of (ht _ q1_146)
  obtain ⟨aZ, aZ1, aZ2⟩ := arr_of (ht _ q4_93)
  obtain ⟨aC, aC1, aC2⟩ := arr_of (ht _ q1_114)
  obtain ⟨aR, aR1, aR2⟩ := arrq_of (hts _ q1_122)
  obtain ⟨aW, aW1, aW2⟩ := arrq_of (hts _ q1_75)
  refine ⟨((fun c => match c with | 0 => c1 | 1 => c2 | 2 => c3 | 3 => c4 | 4 => c5 | 5 => c6 | 6 => c7 | 7 => c8 | 8 => c9 | 9 => c10 | 10 => c11 | _ => c12, fun c => match c with | 0 => i1 | 1 => i2 | 2 => i3 | 3 => i4 | 4 => i5 | 5 => i6 | 6 => i7 | 7 => i8 | 8 => i9 | 9 => i10 | 10 => i11 | _ => i12), fun t => match t with | 0 => aI | 1 => aJ | 2 => aZ | 3 => aC | 4 => aR | _ => aW), ⟨fun c q hq => ?_, fun k q hk => ?_⟩, fun w hw => ?_, va_AO.of (hts _ q1_122), va_AO.of (hts _ q1_75)⟩
  · match c, hq with
    | 0, hq => cases hq; exact k1
    | 1, hq => cases hq; exact k2
    | 2, hq => cases hq; exact k3
    | 3, hq => cases hq; exact k4
    | 4, hq => cases hq; exact k5
    | 5, hq => cases hq; exact k6
    | 6, hq => cases hq; exact k7
    | 7, hq => cases hq; exact k8
    | 8, hq => cases hq; exact k9
    | 9, hq => cases hq; exact k10
    | 10, hq => cases hq; exact k11
    | 11, hq => cases hq; exact k12
    | n + 12, hq => cases hq
  · match k, hk with
    | 0, hk => cases hk; exact ⟨aI1, aI2⟩
    | 1, hk => cases hk; exact ⟨aJ1, aJ2⟩
    | 2, hk => cases hk; exact ⟨aZ1, aZ2⟩
    | 3, hk => cases hk; exact ⟨aC1, aC2⟩
    | 4, hk => cases hk; exact ⟨aR1, aR2⟩
    | 5, hk => cases hk; exact ⟨aW1, aW2⟩
    | n + 6, hk => cases hk
  · exact va_Nw.of (nest_tabs w hw) (hts w (nestW_in w hw))
def tmS (i : Nat) : Term := .string "GalleryRays$Parts" (31 + 2 * i)
def preS1 : Cond := Jvm.Cond.and given_1 narrow_1
theorem pS_ex : ∀ i : Fin 5, Cond.exactly (tmS i.val) "java/lang/String" ∈ flatC preS1 := by decide +kernel
theorem pS_co : ∀ i : Fin 5, Cond.eq (.field (tmS i.val) "java/lang/String" "coder" "B") (.int 0) ∈ flatC preS1 := by decide +kernel
theorem pS_ar : ∀ i : Fin 5, Cond.arrayOf (.field (tmS i.val) "java/lang/String" "value" "[B") .byte ∈ flatC preS1 := by decide +kernel
theorem pS_le : ∀ i : Fin 5, Cond.eq (.length (.field (tmS i.val) "java/lang/String" "value" "[B")) (.int (Int32.ofNat (sLen.getD i.val 0))) ∈ flatC preS1 := by decide +kernel
theorem pS_el : ∀ i : Fin 5, ∀ j : Fin 5, j.val < sLen.getD i.val 0 → Cond.eq (.elem (.field (tmS i.val) "java/lang/String" "value" "[B") (.int (Int32.ofNat j.val))) (.int ((sByt.getD i.val []).getD j.val 0)) ∈ flatC preS1 := by decide +kernel
theorem pS_ne : ∀ i j : Fin 5, i ≠ j → Cond.not (Cond.eq (tmS i.val) (tmS j.val)) ∈ flatC preS1 ∨ Cond.not (Cond.eq (tmS j.val) (tmS i.val)) ∈ flatC preS1 := by decide +kernel
theorem pS_5 : ∀ i : Fin 5, sLen.getD i.val 0 < 6 := by decide
theorem start_S {s : State} {args : Array Value} (hts : ∀ w ∈ lw_tbl, w.before args s = true) (hp : preS1.before args s = true) : ∃ ad : AdT, SS ad (fun q => s.heap.size ≤ q) s s.heap := by
  have ht : ∀ w ∈ lw_all, w.before args s = true := fun w h => hts w (lw_all_tbl w h)
  have hs := flat_of_before _ hp
  have hA : ∀ a : Nat, a < s.heap.size → ¬ (s.heap.size ≤ a) := fun a h => by omega
  obtain ⟨adK, adV, hS, hE⟩ := vk_Sof (args := args) (s := s) (N := 5) (tm := tmS) (len := sLen) (byt := sByt) (A := fun q => s.heap.size ≤ q)
    (fun i hi => Nat.lt_trans (pS_5 ⟨i, hi⟩) (by decide)) (fun i hi => hs _ (pS_ex ⟨i, hi⟩)) (fun i hi => hs _ (pS_co ⟨i, hi⟩)) (fun i hi => hs _ (pS_ar ⟨i, hi⟩)) (fun i hi => hs _ (pS_le ⟨i, hi⟩))
    (fun i hi j hj => hs _ (pS_el ⟨i, hi⟩ ⟨j, by have := pS_5 ⟨i, hi⟩; dsimp only at this; omega⟩ hj)) (fun i j hi hj hij => (pS_ne ⟨i, hi⟩ ⟨j, hj⟩ (fun q => hij (Fin.mk.inj q))).imp (fun q => hs _ q) (fun q => hs _ q)) hA
  refine ⟨(adK, adV, 0), hS, va_Zof (hts _ q2_151) (ht _ q1_15) (va_eqt (hs _ (by decide +kernel))) hA, va_Zqof (hts _ q2_171) (ht _ q1_17) (hs _ (by decide +kernel)) hA, ?_, ?_, ?_, ?_, ?_⟩
  · exact vk_R.of (hts _ q2_133) (hE 0 (by decide))
  · exact vk_R.of (hts _ q2_134) (hE 1 (by decide))
  · exact vk_R.of (hts _ q2_135) (hE 2 (by decide))
  · exact vk_R.of (hts _ q2_136) (hE 3 (by decide))
  · exact vk_R.of (hts _ q2_137) (hE 4 (by decide))

/-! THE CLAIM OUT OF ONE WALK OF THE LAW'S BODY. Your part is whole_start (and what it stands on); all else here is the same for every law, but numbers. -/
def R_law : String := "GalleryRaysLaw"
def lw_P (b : Addr) (xs : List Int32) (args : Array Value) (s : State) : Prop := args = #[.ref b] ∧ s.IntsAt b xs ∧ xs.length ≤ 260 ∧ (Jvm.Cond.and given_1 narrow_1).before args s = true
/-- what a walk over the start with the record d0 says of its end, said of the start itself -/
theorem lw_closed {s t : State} {o : Outcome} {d0 : Drawn} {L : List Loc} {k n : Nat} (hd0 : s.drawn.sameBut d0 lw_cs) (hv : ∃ v, o = .returned v) (hW : (s.setDrawn d0).WarmedH t.vm) (hs : (s.setDrawn d0).sameButNew ({ t with vm := s.vm } : State) L k n) : State.butDraws s t lw_cs (fun t1 => Framed s o t1 L k n) := by
  have h2 : t.drawn = d0 := congrArg State.drawn hs.1
  refine ⟨⟨hv, hW, State.sameButNew.setDrawn hs s.drawn⟩, ?_, by decide⟩
  rw [h2]
  exact hd0
def lw_Q (_ : Array Value) (s : State) (o : Outcome) (t : State) : Prop := o = .returned (some (.int 1)) ∧ State.butDraws s t lw_cs (fun t1 => Framed s o t1 [] 600000 7302250)
def lw_Z (below : List Frame) (a : Array Value) (s : State) : State → Prop := fun t => ∃ o, t.status = .running ∧ Ended t below o ∧ lw_Q a s o t
/-- the law's own end, with 1 on the stack, nothing written that was there before, its room as the claim has it; d0: the record of draws at this point (at the entry s.drawn: begin with 'refine W.base ?_' and 'have hd0 := Drawn.sameBut.refl s.drawn lw_cs') -/
theorem lw_ret {p : Program} {l : Launch} {e : Env} {s : State} {m : MethodId} {below : List Frame} {meth : Method} {c : Code} {b : Nat} {d0 : Drawn} (hd0 : s.drawn.sameBut d0 lw_cs) (hx : p.tables.exec = Jvm.exec) (hb : c.code = code) (hr : meth.sig.returnType = ret) (hlocks : meth.locks = false) {pc : Nat} {H : Heap} {ls : Array Slot} (hdg : decode code pc = .ok (.ireturn, 1)) : W p l e room_1 (s.setDrawn d0) m #[Value.ref b] below meth c H [] 600000 7302250 (lw_Z below #[Value.ref b] s) (F0 m pc ls [.int 1]) := by
  intro T hT X
  obtain ⟨fs, hret, hrun, hended, hW, hframe⟩ := X.leave (v := some (.int 1)) (hlocks := hlocks) (fun h => by rw [hr] at h; cases h)
  have hmeth' : T.vm.method? m = some meth := X.method'
  refine ⟨T.setFrames fs, ?_, .returned (some (.int 1)), hrun, hended, rfl, lw_closed hd0 ⟨_, rfl⟩ hW hframe⟩
  jvm_step X.here [X.here.top, hx, hb, hdg, hmeth', hr, ret, narrow_b1]
  (try refine ⟨rfl, ?_⟩); (try refine ⟨rfl, ?_⟩)
  first | (intro acts; rw [hret _ acts rfl rfl rfl]) | rw [hret _ _ rfl rfl rfl]
  exact Steps.refl _
/-- what holds at the law's entry: the machine, the code, the tables' words (any of lw_tbl by 'hts w (by decide +kernel)'), the script of L ints xs at the cell b, what the Statement gives of the start (any of its parts by flat_of_before) -/
def lw_At (p : Program) (s : State) (m : MethodId) (meth : Method) (c : Code) (b L : Nat) (xs : Nat → Int32) : Prop :=
  p.tables.exec = Jvm.exec ∧ c.code = code ∧ meth.sig.returnType = ret ∧ c.maxLocals = 9 ∧ s.vm.findClass R_law = some m.cls ∧ (∀ w ∈ lw_tbl, w.before #[Value.ref b] s = true) ∧ va_X b L xs s s.heap ∧ b < s.heap.size ∧ meth.locks = false ∧ (Jvm.Cond.and given_1 narrow_1).before #[Value.ref b] s = true
-- ===== YOUR PART BEGINS =====
set_option maxHeartbeats 8000000 in
set_option maxRecDepth 100000 in
/-- YOUR PART: from the entry, for every script of at most 260 ints, the law comes to its end with true ('hflags': the launch's flags, for a law that throws: no stack traces) -/
theorem whole_start {p : Program} {e : Env} {s : State} {m : MethodId} {below : List Frame} {meth : Method} {c : Code} (l : Launch) (hflags : l.flags = flags0) {b L : Nat} {xs : Nat → Int32} (hL : L ≤ 260) (C0 : lw_At p s m meth c b L xs) : W p l e room_1 s m #[Value.ref b] below meth c s.heap [] 0 0 (lw_Z below #[Value.ref b] s) (entryFrame m ([Value.ref b] : List Value).toArray 9) := by
  obtain ⟨hx, hb, hr, hml, hown, hts, hX, hbl, hlocks, hgv⟩ := C0
  obtain ⟨G, hKK⟩ := start_G hts
  have hd0 := Drawn.sameBut.refl s.drawn lw_cs
  have hLn : (L : Int) ≤ 260 := by omega
  obtain ⟨K, hKe⟩ : ∃ K : KT, K = ((p, l, e, room_1), (s, m, #[Value.ref b], below), (meth, c), lw_Z below #[Value.ref b] s, G, fun q => s.heap.size ≤ q) := ⟨_, rfl⟩
  have h : Good l G RL meth.name cL_law 9 room_1 K := by
    rw [hKe]
    exact ⟨hx, hb, hml, hown, fun w h => hts w (lw_all_tbl w h), hKK, fun q h => h, rfl, rfl, rfl, rfl⟩
  obtain ⟨sc, hsce⟩ : ∃ sc : Int → Int, sc = fun j => (xs j.toNat).toInt := ⟨_, rfl⟩
  have hsc : ∀ j, R32 (sc j) := fun j => by rw [hsce]; exact iZ_R _
  have hSc : ScrK b L sc K := by
    rw [hKe, hsce]
    refine ⟨?_, hbl, fun q => by dsimp only at q; omega⟩
    have e : (fun j : Nat => iZ ((fun j : Int => (xs j.toNat).toInt) (j : Int))) = xs := by
      funext j
      exact iZ_of _
    rw [e]
    exact hX
  have hEnd : ∀ cs : Nat × Nat, cs.1 ≤ 600000 → cs.2 ≤ 7302250 → ∀ (lv : List (Option Value)) (ws : va_W), V K cs 553 lv [.int (iZ 1)] ws := by
    intro cs h1 h2 lv ws
    rw [hKe]
    intro H locs ls hP hD hS hL
    refine va_forget (fun q hq => hS.2.2 q hq) ?_
    refine W.widen h1 h2 ?_
    refine W.base ?_
    exact lw_ret hd0 hx hb hr hlocks (dk dd_L_law_5 25 rfl)
  have hV : V K (0, 0) 0 [some (.ref b), none, none, none, none, none, none, none, none] [] [] := by
    refine V_new h nw_L_10 (⟨Nat.le_of_ble_eq_true rfl, Nat.le_of_ble_eq_true rfl⟩) (dk dd_L_law_0 0 rfl) (fun n0 => ?_)
    refine V_dup h (dk dd_L_law_0 1 rfl) rfl ?_
    refine V_callI h st1 (Or.inl ci_L_96) (pk_c get0 pk_n) rfl (m_X11_init l G _ ) rfl rfl (Nat.le_of_ble_eq_true rfl) (by decide) (⟨Nat.le_of_ble_eq_true rfl, Nat.le_of_ble_eq_true rfl⟩) (dk dd_L_law_0 2 rfl) ?_
    rintro _ _ ⟨q4, rfl, rfl⟩
    refine ⟨[(n0, .inr (10, [.ref (q4 0), .ref (q4 1), .ref (q4 2), .ref (q4 3)]))], (((q4 0), .inr (9, [.ref (q4 4), .int (iZ 10), .int (iZ 1000)])) :: ((q4 4), .inr (3, [.ref (q4 5), .int (iZ 0)])) :: ((q4 5), .inl (G.2 0, 48, .inl (iF z0))) :: ((q4 1), .inr (1, [.ref (q4 6), .int (iZ 0)])) :: ((q4 6), .inl (G.2 5, 5, .inr (.inr (.inr (.inr (arr5 (fun i => ([(q4 7), (q4 10), (q4 13), (q4 16), (q4 19)] : List Nat).getD i 0))))))) :: ((q4 7), .inr (9, [.ref (q4 8), .int (iZ 10), .int (iZ 1000)])) :: ((q4 8), .inr (3, [.ref (q4 9), .int (iZ 0)])) :: ((q4 9), .inl (G.2 0, 48, .inl (iF z0))) :: ((q4 10), .inr (9, [.ref (q4 11), .int (iZ 10), .int (iZ 1000)])) :: ((q4 11), .inr (3, [.ref (q4 12), .int (iZ 0)])) :: ((q4 12), .inl (G.2 0, 48, .inl (iF z0))) :: ((q4 13), .inr (9, [.ref (q4 14), .int (iZ 10), .int (iZ 1000)])) :: ((q4 14), .inr (3, [.ref (q4 15), .int (iZ 0)])) :: ((q4 15), .inl (G.2 0, 48, .inl (iF z0))) :: ((q4 16), .inr (9, [.ref (q4 17), .int (iZ 10), .int (iZ 1000)])) :: ((q4 17), .inr (3, [.ref (q4 18), .int (iZ 0)])) :: ((q4 18), .inl (G.2 0, 48, .inl (iF z0))) :: ((q4 19), .inr (9, [.ref (q4 20), .int (iZ 10), .int (iZ 1000)])) :: ((q4 20), .inr (3, [.ref (q4 21), .int (iZ 0)])) :: ((q4 21), .inl (G.2 0, 48, .inl (iF z0))) :: ((q4 2), .inr (8, [.ref (q4 22), .ref (q4 23), .int (iZ 0), .int (iZ 0), .int (iZ 0), .int (iZ 0)])) :: ((q4 22), .inl (G.2 3, 60, .inl (iF z0))) :: ((q4 23), .inr (3, [.ref (q4 24), .int (iZ 0)])) :: ((q4 24), .inl (G.2 0, 48, .inl (iF z0))) :: ((q4 3), .inr (7, [.ref (q4 25), .ref (q4 26), .ref (q4 29), .ref (q4 31), .ref (q4 33), .int (iZ 0)])) :: ((q4 25), .inl (G.2 4, 100, .inr (.inr (.inr (.inr (rayA (fun j : Int => q4 (100 + j.toNat)))))))) :: ((q4 26), .inr (2, [.ref (q4 27), .ref (q4 28), .int (iZ 0), .int (iZ 0), .long (lZ 0)])) :: ((q4 27), .inl (G.2 1, 3000, .inr (.inl (lF z0)))) :: ((q4 28), .inl (G.2 0, 600, .inl (iF z0))) :: ((q4 29), .inr (5, [.ref (q4 30), .int (iZ 0)])) :: ((q4 30), .inl (G.2 1, 434, .inr (.inl (lF z0)))) :: ((q4 31), .inr (0, [.ref (q4 32)])) :: ((q4 32), .inl (G.2 1, 48, .inr (.inl (lF (ear0 z0 12))))) :: ((q4 33), .inr (4, [.ref (q4 34), .int (iZ 0)])) :: ((q4 34), .inl (G.2 0, 201, .inl (iF z0))) :: raysW (fun j : Int => q4 (100 + j.toNat)) (fun _ => 0) (fun _ => 0) (fun _ => 0) (fun _ => 0) (fun _ => 0)), _, rfl, rfl, (sm_c set0 sm_n), ?_⟩
    simp only [List.cons_append, List.nil_append]
    refine V_permT (pre := [(n0, .inr (10, [.ref (q4 0), .ref (q4 1), .ref (q4 2), .ref (q4 3)])), ((q4 0), .inr (9, [.ref (q4 4), .int (iZ 10), .int (iZ 1000)])), ((q4 4), .inr (3, [.ref (q4 5), .int (iZ 0)])), ((q4 5), .inl (G.2 0, 48, .inl (iF z0))), ((q4 1), .inr (1, [.ref (q4 6), .int (iZ 0)])), ((q4 6), .inl (G.2 5, 5, .inr (.inr (.inr (.inr (arr5 (fun i => ([(q4 7), (q4 10), (q4 13), (q4 16), (q4 19)] : List Nat).getD i 0))))))), ((q4 7), .inr (9, [.ref (q4 8), .int (iZ 10), .int (iZ 1000)])), ((q4 8), .inr (3, [.ref (q4 9), .int (iZ 0)])), ((q4 9), .inl (G.2 0, 48, .inl (iF z0))), ((q4 10), .inr (9, [.ref (q4 11), .int (iZ 10), .int (iZ 1000)])), ((q4 11), .inr (3, [.ref (q4 12), .int (iZ 0)])), ((q4 12), .inl (G.2 0, 48, .inl (iF z0))), ((q4 13), .inr (9, [.ref (q4 14), .int (iZ 10), .int (iZ 1000)])), ((q4 14), .inr (3, [.ref (q4 15), .int (iZ 0)])), ((q4 15), .inl (G.2 0, 48, .inl (iF z0))), ((q4 16), .inr (9, [.ref (q4 17), .int (iZ 10), .int (iZ 1000)])), ((q4 17), .inr (3, [.ref (q4 18), .int (iZ 0)])), ((q4 18), .inl (G.2 0, 48, .inl (iF z0))), ((q4 19), .inr (9, [.ref (q4 20), .int (iZ 10), .int (iZ 1000)])), ((q4 20), .inr (3, [.ref (q4 21), .int (iZ 0)])), ((q4 21), .inl (G.2 0, 48, .inl (iF z0))), ((q4 2), .inr (8, [.ref (q4 22), .ref (q4 23), .int (iZ 0), .int (iZ 0), .int (iZ 0), .int (iZ 0)])), ((q4 22), .inl (G.2 3, 60, .inl (iF z0))), ((q4 23), .inr (3, [.ref (q4 24), .int (iZ 0)])), ((q4 24), .inl (G.2 0, 48, .inl (iF z0))), ((q4 3), .inr (7, [.ref (q4 25), .ref (q4 26), .ref (q4 29), .ref (q4 31), .ref (q4 33), .int (iZ 0)])), ((q4 25), .inl (G.2 4, 100, .inr (.inr (.inr (.inr (rayA (fun j : Int => q4 (100 + j.toNat)))))))), ((q4 26), .inr (2, [.ref (q4 27), .ref (q4 28), .int (iZ 0), .int (iZ 0), .long (lZ 0)])), ((q4 27), .inl (G.2 1, 3000, .inr (.inl (lF z0)))), ((q4 28), .inl (G.2 0, 600, .inl (iF z0))), ((q4 29), .inr (5, [.ref (q4 30), .int (iZ 0)])), ((q4 30), .inl (G.2 1, 434, .inr (.inl (lF z0)))), ((q4 31), .inr (0, [.ref (q4 32)])), ((q4 32), .inl (G.2 1, 48, .inr (.inl (lF (ear0 z0 12))))), ((q4 33), .inr (4, [.ref (q4 34), .int (iZ 0)])), ((q4 34), .inl (G.2 0, 201, .inl (iF z0)))]) (is := [0, 1, 2, 3, 4, 5, 6, 7, 8, 9, 10, 11, 12, 13, 14, 15, 16, 17, 18, 19, 20, 21, 22, 23, 24, 25, 26, 27, 28, 29, 30, 31, 32, 33, 34, 35]) (pk_c get0 (pk_c get1 (pk_c get2 (pk_c get3 (pk_c get4 (pk_c get5 (pk_c get6 (pk_c get7 (pk_c get8 (pk_c get9 (pk_c get10 (pk_c get11 (pk_c get12 (pk_c get13 (pk_c get14 (pk_c get15 (pk_c get16 (pk_c get17 (pk_c get18 (pk_c get19 (pk_c get20 (pk_c get21 (pk_c get22 (pk_c get23 (pk_c get24 (pk_c get25 (pk_c get26 (pk_c get27 (pk_c get28 (pk_c get29 (pk_c get30 (pk_c get31 (pk_c get32 (pk_c get33 (pk_c get34 (pk_c get35 pk_n)))))))))))))))))))))))))))))))))))) rfl ?_
    simp only [List.cons_append, List.nil_append]
    refine V_astore_n h (dk dd_L_law_0 3 rfl) rfl (Nat.le_of_ble_eq_true rfl) rfl set1 ?_
    exact law_0 h hSc hsc hLn hEnd (fun i => ([q4 7, q4 10, q4 13, q4 16, q4 19] : List Nat).getD i 0) (fun i => ([q4 8, q4 11, q4 14, q4 17, q4 20] : List Nat).getD i 0) (fun i => ([q4 9, q4 12, q4 15, q4 18, q4 21] : List Nat).getD i 0) (fun _ => 0) (fun _ => 10) (fun _ => 1000) (fun _ => z0) ⟨by decide, by decide⟩
  rw [hKe] at hV
  have hl := lv_entry [Value.ref b] (n := 9) (Nat.le_of_ble_eq_true rfl)
  rw [lg_entry_eq]
  exact hV s.heap [] _ (fun k q hq => by simp at hq) ⟨fun i j p q hi _ _ => by simp at hi, fun k q hq => by simp at hq⟩ va_S.rf (hasL.of hl rfl (fun i v hv => by
    match i, hv with
    | 0, hv => cases hv; exact List.mem_cons_self
    | 1, hv => cases hv
    | 2, hv => cases hv
    | 3, hv => cases hv
    | 4, hv => cases hv
    | 5, hv => cases hv
    | 6, hv => cases hv
    | 7, hv => cases hv
    | 8, hv => cases hv
    | n + 9, hv => cases hv))
-- ===== YOUR PART ENDS =====
set_option maxHeartbeats 4000000 in
theorem lw_walk (l : Launch) (hflags : l.flags = flags0) (b : Addr) (xs : List Int32) : MetFree l x (headSpec (Jvm.Cond.code x code maxLocals ret :: tables_1) room_1) (lw_P b xs) (fun _ _ _ _ _ => True) lw_Q := by
  refine MetFree.of_bodyS (code := code) (maxLocals := maxLocals) (ret := ret) (by decide) ?_ ?_
  · intro args s m h hn
    obtain ⟨meth, c, h1, h2, h3, h4, h5, h6, -, -⟩ := Cond.code_spec hn (atoms_spec (ws := Jvm.Cond.code x code maxLocals ret :: tables_1) h _ List.mem_cons_self)
    exact ⟨meth, c, h1, h2, h3, h4, h5, h6⟩
  · intro p e s m args below meth c s₁ B hml0 hP _
    obtain ⟨rfl, hx, hbd, hgv⟩ := hP
    obtain ⟨scr, harrAt, hlist, hof, hsmall⟩ := hx
    obtain ⟨hcb, hkn, -, -⟩ := State.arrayAt?_spec harrAt
    have hown : s.vm.findClass R_law = some m.cls := findClass_of_methodNamed B.named
    have hts0 : ∀ c ∈ (Jvm.Cond.code x code maxLocals ret :: tables_1), c.before #[Value.ref b] s = true := atoms_spec (ws := Jvm.Cond.code x code maxLocals ret :: tables_1) B.pre
    have hts : ∀ w ∈ lw_tbl, w.before #[Value.ref b] s = true := k2_hts_sels lw_privs (fun w hw => hts0 w (List.mem_cons_of_mem _ hw)) lw_privs_ok
    have hml : c.maxLocals = 9 := B.maxLocals_eq (hts0 _ List.mem_cons_self)
    have X₀ : Stand p l e room_1 s m #[Value.ref b] below meth c s₁ [] 0 0 := Stand.of_body B
    have hh0 : s₁.heap = s.heap := by rw [B.state]; rfl
    have hsz : scr.slots.size = xs.length := by rw [← Array.length_toList, hlist, List.length_map]
    have hval : ∀ j : Nat, j < xs.length → scr.slots[j]? = some (.int (xs.getD j 0)) := fun j hj => by
      rw [← Array.getElem?_toList, hlist]
      simp [hj]
    have hbl : b < s.heap.size := (Array.getElem?_eq_some_iff.mp hcb).1
    have hX : va_X b xs.length (fun j => xs.getD j 0) s s.heap := ⟨scr, hcb, hof, hkn, hsz, hval⟩
    have K : W p l e room_1 s m #[Value.ref b] below meth c s₁.heap [] 0 0 (lw_Z below #[Value.ref b] s) (entryFrame m ([Value.ref b] : List Value).toArray 9) := by
      rw [hh0]
      exact whole_start l hflags hbd ⟨B.exec, B.bytes, B.returns, hml, hown, hts, hX, hbl, B.notSynchronized, hgv⟩
    obtain ⟨t, a1, o, b1, b2, b3⟩ := K s₁ rfl X₀
    exact ⟨t, o, a1, b1, b2, b3⟩
theorem lw_pre_spec {args : Array Value} {s : State} (h : (Jvm.Cond.and given_1 narrow_1).before args s = true) (hr : rest_1_c.before args s = true) : ∃ (b : Addr) (xs : List Int32), lw_P b xs args s := by
  have hs := flat_of_before _ h
  have hq := flat_of_before _ hr
  have hc : (Cond.count 1).before args s = true := hs _ (by decide +kernel)
  have harr : (Cond.arrayOf (.arg 0) .int).before args s = true := hs _ (by decide +kernel)
  have hle : (Cond.le (.length (.arg 0)) (.int 260)).before args s = true := hs _ (by decide +kernel)
  have hlen : (Cond.isInt (.length (.arg 0))).before args s = true := hq _ (by decide +kernel)
  have hall : (Cond.all (.arg 0) (.isInt (.elem (.arg 0) (.index 0)))).before args s = true := hq _ (by decide +kernel)
  obtain ⟨b, xs, hb, hx⟩ := State.ints_of_pre rfl harr hlen hall
  have hsm : xs.length < 2 ^ 31 := hx.choose_spec.2.2.2
  have hev : (Term.length (.arg 0)).eval args s none [] s = some (.int xs.length.toInt32) := hx.length_eval hb
  have hv := Cond.le_ints hev (show (Term.int 260).eval args s none [] s = some (.int 260) from rfl)
  have hd : xs.length.toInt32 ≤ 260 := by
    simpa [Cond.before, Cond.holds, hv] using hle
  have hN : xs.length ≤ 260 := (Int32.ofNat_le_ofNat hsm (by decide)).mp (show Int32.ofNat xs.length ≤ Int32.ofNat 260 from hd)
  exact ⟨b, xs, Cond.one_arg hc (show args[0]? = some (.ref b) from hb), hx, hN, h⟩
theorem lw_comes (l : Launch) (hflags : l.flags = flags0) : Comes l x (Jvm.Cond.code x code maxLocals ret :: tables_1) room_1 (fun tb e args s => Calls_1 tb e args s ∧ rest_1 tb e args s ∧ Pre_1 tb e args s)
    (fun _ _ args s o t => lw_Q args s o t) := by
  intro p e ha hc hk s m args below hf hfit hheap happ hpre
  obtain ⟨b, xs, hP⟩ := lw_pre_spec hpre.2.2 hpre.2.1
  obtain ⟨k, o, h1, h2, h3, hQ⟩ := lw_walk l hflags b xs p e ha hc hk s m args below hf ((Spec.applies_iff_loose hf).mp happ).1 hP trivial
  exact ⟨k, o, h1, h2, h3, hQ⟩
theorem lw_frame {s t : State} {o : Outcome} {args : Array Value} (h : State.butDraws s t lw_cs (fun t1 => Framed s o t1 [] 600000 7302250)) :
    State.butDraws s t [Jvm.Choice.named "NaN.bits"] (fun t1 => Framed s o t1 (fieldLocs frame_1_writes args s ++ arrayLocs frame_1_arrays args s ++ staticLocs frame_1_statics s) 600000 7302250) := h
theorem lw_limb (L : Cond) (hL : ∀ (args : Array Value) (s t : State), L.after args s (.returned (some (.int 1))) t = true) :
    ArmFor flags0 classFile x code maxLocals ret World_1 tables_1 room_1 Calls_1 rest_1 Pre_1
      (fun tb e a s o t => postC L tb e a s o t ∧ State.butDraws s t [Jvm.Choice.named "NaN.bits"] (fun t1 => Framed s o t1 (fieldLocs frame_1_writes a s ++ arrayLocs frame_1_arrays a s ++ staticLocs frame_1_statics s) 600000 7302250)) := by
  intro l hflags _ _ p e ha hc hk s m args below hf hfit hheap happ hpre
  obtain ⟨k, o, h1, h2, h3, rfl, hF⟩ := lw_comes l hflags p e ha hc hk s m args below hf hfit hheap happ hpre
  exact ⟨k, _, h1, h2, h3, hL args s _, lw_frame hF⟩
theorem i_vc : Claimed_1_1 ∧ Claimed_1_2 := ⟨lw_limb limb_1_1 (fun args s t => by simp [limb_1_1, Cond.after, Cond.holds, Cond.value]), lw_limb limb_1_2 (fun args s t => Cond.after_iff.mpr (by
  first | (rw [show limb_1_2 = Cond.eq .result (.int 1) from rfl, Cond.eq_ints (x := 1) (y := 1) rfl rfl]; simp; done) | (simp [limb_1_2, Cond.value, Term.eval]; done)))⟩

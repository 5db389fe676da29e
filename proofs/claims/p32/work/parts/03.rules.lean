/-! ===== the judgement: from here the method comes to its end ===== -/
abbrev zT : Type := Program × Launch × Env × Room × State × MethodId × Array Value × List Frame × Method × Code × zZ × (Nat → Nat) × Nat
def zA (Z : zZ) : Nat → Prop := fun q => Z.1.heap.size ≤ q
def zOK (μ : zMem) : Prop := ∀ a j r, a < zN μ → zP μ a j = some r → r < zN μ
def zH (Z : zZ) (ad : Nat → Nat) (μ : zMem) (H : Heap) : Prop := va_P Z.2.1 vwCl (zws Z.2.2 ad μ) H ∧ va_D (zA Z) (zws Z.2.2 ad μ) ∧ zOK μ
def zB (Z : zZ) (H : Heap) : Prop := Z.1.heap.size ≤ H.size ∧ ∀ q : Nat, q < Z.1.heap.size → H[q]? = Z.1.heap[q]?
def zfr (k : Nat) : Nat := 8 * k + 40
def zlo (k : Nat) : Nat := 100 * k + 500
def zrm (k mc ms : Nat) : Room := { frames := zfr k, cells := mc, slots := ms, locals := zlo k }
/-- the good words of the tables -/
def ztb : List Cond := lw_tbl.filter goodWord
def zws1 (m : zM) : List Cond := .code m.1 m.2.1 m.2.2.1 m.2.2.2 :: ztb
theorem ztb_good : ∀ w ∈ ztb, w ∈ lw_tbl ∧ goodWord w = true := fun _ h => List.mem_filter.mp h
theorem ztb_in {w : Cond} (h : w ∈ lw_tbl) (hg : goodWord w = true) : w ∈ ztb := List.mem_filter.mpr ⟨h, hg⟩
theorem zc1 {w : Cond} (h : w ∈ tables_1_1) : w ∈ lw_tbl := List.mem_append_right _ (List.mem_append_left _ h)
theorem zc2 {w : Cond} (h : w ∈ tables_1_2) : w ∈ lw_tbl := List.mem_append_right _ (List.mem_append_right _ (List.mem_append_left _ h))
theorem zc3 {w : Cond} (h : w ∈ tables_1_3) : w ∈ lw_tbl := List.mem_append_right _ (List.mem_append_right _ (List.mem_append_right _ (List.mem_append_left _ h)))
theorem zc4 {w : Cond} (h : w ∈ tables_1_4) : w ∈ lw_tbl := List.mem_append_right _ (List.mem_append_right _ (List.mem_append_right _ (List.mem_append_right _ (List.mem_append_left _ h))))
theorem zc5 {w : Cond} (h : w ∈ tables_1_5) : w ∈ lw_tbl := List.mem_append_right _ (List.mem_append_right _ (List.mem_append_right _ (List.mem_append_right _ (List.mem_append_right _ h))))
theorem zsel {w : Cond} (h : w ∈ k2_sels lw_privs) : w ∈ lw_tbl := List.mem_append_left _ h
theorem ztb_pay {m : zM} {m' : zM} (h : Cond.code m'.1 m'.2.1 m'.2.2.1 m'.2.2.2 ∈ ztb) : GoodIn (zws1 m) (zws1 m') := by
  intro w hw
  rcases List.mem_cons.mp hw with rfl | hw
  · exact ⟨List.mem_cons_of_mem _ h, good_of_word (ztb_good _ h).2⟩
  · exact ⟨List.mem_cons_of_mem _ hw, good_of_word (ztb_good _ hw).2⟩
/-- what the start gives: the tables' words, the classes -/
def zSt (l : Launch) (Z : zZ) : Prop := (∀ w ∈ lw_tbl, w.onTables = true → va_Nw w Z.1) ∧ va_K Z.2.1 vwCl (ztys Z.2.2) Z.1 ∧ l.stackTraces = false ∧ (∀ C, (C = RX0 ∨ C = RX3 ∨ C = RX4 ∨ C = RX5) → va_AO C Z.1)
/-- a method's frame: p l e R s m args below meth c Z ad n -/
def zCx (τ : zT) (M : zM) (k mc ms : Nat) : Prop :=
  τ.1.tables.exec = Jvm.exec ∧ τ.2.2.2.2.2.2.2.2.2.1.code = M.2.1 ∧ τ.2.2.2.2.2.2.2.2.2.1.maxLocals = M.2.2.1 ∧ τ.2.2.2.2.2.2.2.2.1.sig.returnType = M.2.2.2 ∧ τ.2.2.2.2.1.vm.findClass M.1.cls = some τ.2.2.2.2.2.1.cls ∧ (∀ w ∈ ztb, w.before τ.2.2.2.2.2.2.1 τ.2.2.2.2.1 = true) ∧ τ.2.2.2.2.2.2.2.2.1.locks = false ∧ τ.2.2.2.2.2.2.2.2.1.name = M.1.name ∧ zSt τ.2.1 τ.2.2.2.2.2.2.2.2.2.2.1 ∧ τ.2.2.2.2.2.2.2.2.2.2.1.1.WarmedH τ.2.2.2.2.1.vm ∧ zB τ.2.2.2.2.2.2.2.2.2.2.1 τ.2.2.2.2.1.heap ∧ zfr k ≤ τ.2.2.2.1.frames ∧ zlo k ≤ τ.2.2.2.1.locals ∧ mc ≤ τ.2.2.2.1.cells ∧ ms ≤ τ.2.2.2.1.slots
def zHS (τ : zT) (ad : Nat → Nat) (μ : zMem) (H : Heap) (locs : List Loc) : Prop := zH τ.2.2.2.2.2.2.2.2.2.2.1 ad μ H ∧ va_S (zA τ.2.2.2.2.2.2.2.2.2.2.1) τ.2.2.2.2.1.heap H locs ∧ (∀ a, a < τ.2.2.2.2.2.2.2.2.2.2.2.2 → ad a = τ.2.2.2.2.2.2.2.2.2.2.2.1 a) ∧ τ.2.2.2.2.2.2.2.2.2.2.2.2 ≤ zN μ
abbrev zW (τ : zT) (H : Heap) (locs : List Loc) (c k : Nat) (F : State → Prop) (g : JFrame) : Prop := W τ.1 τ.2.1 τ.2.2.1 τ.2.2.2.1 τ.2.2.2.2.1 τ.2.2.2.2.2.1 τ.2.2.2.2.2.2.1 τ.2.2.2.2.2.2.2.1 τ.2.2.2.2.2.2.2.2.1 τ.2.2.2.2.2.2.2.2.2.1 H locs c k F g
abbrev zF0 (τ : zT) (pc : Nat) (ls : Array Slot) (st : List Value) : JFrame := F0 τ.2.2.2.2.2.1 pc ls st
def zJ (τ : zT) (F : State → Prop) (pc : Nat) (L : List (Option Value)) (st : List Value) (μ : zMem) (c k : Nat) : Prop :=
  ∀ (ad : Nat → Nat) (H : Heap) (locs : List Loc) (ls : Array Slot), zHS τ ad μ H locs → zLo ad (zN μ) L ls → zoks (zN μ) st → zW τ H locs c k F (zF0 τ pc ls (st.map (ztv ad)))
section ZR
variable {τ : zT} {M : zM} {kk mc ms : Nat} {F : State → Prop} {pc : Nat} {L : List (Option Value)} {st : List Value} {μ : zMem} {c k : Nat}
theorem J_L {L' : List (Option Value)} (hs : zsub L L') (h : zJ τ F pc L' st μ c k) : zJ τ F pc L st μ c k := fun ad H locs ls hw hL hst => h ad H locs ls hw (zLo_sub hL hs) hst
theorem J_st {st' : List Value} (h : zJ τ F pc L st' μ c k) (e : st = st') : zJ τ F pc L st μ c k := e ▸ h
theorem J_mu {μ' : zMem} (e : μ = μ') (h : zJ τ F pc L st μ' c k) : zJ τ F pc L st μ c k := e ▸ h
theorem J_pc {pc' : Nat} (e : pc = pc') (h : zJ τ F pc' L st μ c k) : zJ τ F pc L st μ c k := e ▸ h
theorem J_topi {x : Int32} (h : ∀ y : Int32, y = x → zJ τ F pc L (.int y :: st) μ c k) : zJ τ F pc L (.int x :: st) μ c k := h x rfl
theorem J_topil {x y : Int32} (e : x = y) (h : zJ τ F pc L (.int y :: st) μ c k) : zJ τ F pc L (.int x :: st) μ c k := e ▸ h

theorem J_iconst (hT : zCx τ M kk mc ms) {n : Int} {v : Int32} (hd : decode M.2.1 pc = .ok (.iconst n, 1)) (hv : Int32.ofInt n = v) (h : zJ τ F (pc + 1) L (.int v :: st) μ c k) : zJ τ F pc L (st) μ c k := by
  intro ad H locs ls hw hL hst
  refine lv_iconst hT.1 hT.2.1 hd hv ?_
  exact h ad H locs ls hw hL (zoks_cons (zok_int _ _) hst)

theorem J_bipush (hT : zCx τ M kk mc ms) {n : Int} {v : Int32} (hd : decode M.2.1 pc = .ok (.bipush n, 2)) (hv : (Int8.ofInt n).toInt32 = v) (h : zJ τ F (pc + 2) L (.int v :: st) μ c k) : zJ τ F pc L (st) μ c k := by
  intro ad H locs ls hw hL hst
  refine lv_bipush hT.1 hT.2.1 hd hv ?_
  exact h ad H locs ls hw hL (zoks_cons (zok_int _ _) hst)

theorem J_sipush (hT : zCx τ M kk mc ms) {n : Int} {v : Int32} (hd : decode M.2.1 pc = .ok (.sipush n, 3)) (hv : (Int16.ofInt n).toInt32 = v) (h : zJ τ F (pc + 3) L (.int v :: st) μ c k) : zJ τ F pc L (st) μ c k := by
  intro ad H locs ls hw hL hst
  refine lv_sipush hT.1 hT.2.1 hd hv ?_
  exact h ad H locs ls hw hL (zoks_cons (zok_int _ _) hst)

theorem J_lconst (hT : zCx τ M kk mc ms) {n : Fin 2} {v : Int64} (hd : decode M.2.1 pc = .ok (.lconst n, 1)) (hv : Int64.ofNat (n : Nat) = v) (h : zJ τ F (pc + 1) L (.long v :: st) μ c k) : zJ τ F pc L (st) μ c k := by
  intro ad H locs ls hw hL hst
  refine lv_lconst hT.1 hT.2.1 hd hv ?_
  exact h ad H locs ls hw hL (zoks_cons (zok_long _ _) hst)

theorem J_null (hT : zCx τ M kk mc ms) (hd : decode M.2.1 pc = .ok (.aconst_null, 1)) (h : zJ τ F (pc + 1) L (.null :: st) μ c k) : zJ τ F pc L (st) μ c k := by
  intro ad H locs ls hw hL hst
  refine lv_null hT.1 hT.2.1 hd ?_
  exact h ad H locs ls hw hL (zoks_cons (zok_null _) hst)

theorem J_iadd (hT : zCx τ M kk mc ms) {x y : Int32} (hd : decode M.2.1 pc = .ok (.iadd, 1)) (h : zJ τ F (pc + 1) L (.int (x + y) :: st) μ c k) : zJ τ F pc L (.int y :: .int x :: st) μ c k := by
  intro ad H locs ls hw hL hst
  refine lv_iadd hT.1 hT.2.1 hd ?_
  have hst := zoks_tl hst
  have hst := zoks_tl hst
  exact h ad H locs ls hw hL (zoks_cons (zok_int _ _) hst)

theorem J_isub (hT : zCx τ M kk mc ms) {x y : Int32} (hd : decode M.2.1 pc = .ok (.isub, 1)) (h : zJ τ F (pc + 1) L (.int (x - y) :: st) μ c k) : zJ τ F pc L (.int y :: .int x :: st) μ c k := by
  intro ad H locs ls hw hL hst
  refine lv_isub hT.1 hT.2.1 hd ?_
  have hst := zoks_tl hst
  have hst := zoks_tl hst
  exact h ad H locs ls hw hL (zoks_cons (zok_int _ _) hst)

theorem J_imul (hT : zCx τ M kk mc ms) {x y : Int32} (hd : decode M.2.1 pc = .ok (.imul, 1)) (h : zJ τ F (pc + 1) L (.int (x * y) :: st) μ c k) : zJ τ F pc L (.int y :: .int x :: st) μ c k := by
  intro ad H locs ls hw hL hst
  refine lv_imul hT.1 hT.2.1 hd ?_
  have hst := zoks_tl hst
  have hst := zoks_tl hst
  exact h ad H locs ls hw hL (zoks_cons (zok_int _ _) hst)

theorem J_iand (hT : zCx τ M kk mc ms) {x y : Int32} (hd : decode M.2.1 pc = .ok (.iand, 1)) (h : zJ τ F (pc + 1) L (.int (x &&& y) :: st) μ c k) : zJ τ F pc L (.int y :: .int x :: st) μ c k := by
  intro ad H locs ls hw hL hst
  refine lv_iand hT.1 hT.2.1 hd ?_
  have hst := zoks_tl hst
  have hst := zoks_tl hst
  exact h ad H locs ls hw hL (zoks_cons (zok_int _ _) hst)

theorem J_ior (hT : zCx τ M kk mc ms) {x y : Int32} (hd : decode M.2.1 pc = .ok (.ior, 1)) (h : zJ τ F (pc + 1) L (.int (x ||| y) :: st) μ c k) : zJ τ F pc L (.int y :: .int x :: st) μ c k := by
  intro ad H locs ls hw hL hst
  refine lv_ior hT.1 hT.2.1 hd ?_
  have hst := zoks_tl hst
  have hst := zoks_tl hst
  exact h ad H locs ls hw hL (zoks_cons (zok_int _ _) hst)

theorem J_ixor (hT : zCx τ M kk mc ms) {x y : Int32} (hd : decode M.2.1 pc = .ok (.ixor, 1)) (h : zJ τ F (pc + 1) L (.int (x ^^^ y) :: st) μ c k) : zJ τ F pc L (.int y :: .int x :: st) μ c k := by
  intro ad H locs ls hw hL hst
  refine lv_ixor hT.1 hT.2.1 hd ?_
  have hst := zoks_tl hst
  have hst := zoks_tl hst
  exact h ad H locs ls hw hL (zoks_cons (zok_int _ _) hst)

theorem J_ladd (hT : zCx τ M kk mc ms) {x y : Int64} (hd : decode M.2.1 pc = .ok (.ladd, 1)) (h : zJ τ F (pc + 1) L (.long (x + y) :: st) μ c k) : zJ τ F pc L (.long y :: .long x :: st) μ c k := by
  intro ad H locs ls hw hL hst
  refine lv_ladd hT.1 hT.2.1 hd ?_
  have hst := zoks_tl hst
  have hst := zoks_tl hst
  exact h ad H locs ls hw hL (zoks_cons (zok_long _ _) hst)

theorem J_lsub (hT : zCx τ M kk mc ms) {x y : Int64} (hd : decode M.2.1 pc = .ok (.lsub, 1)) (h : zJ τ F (pc + 1) L (.long (x - y) :: st) μ c k) : zJ τ F pc L (.long y :: .long x :: st) μ c k := by
  intro ad H locs ls hw hL hst
  refine lv_lsub hT.1 hT.2.1 hd ?_
  have hst := zoks_tl hst
  have hst := zoks_tl hst
  exact h ad H locs ls hw hL (zoks_cons (zok_long _ _) hst)

theorem J_lmul (hT : zCx τ M kk mc ms) {x y : Int64} (hd : decode M.2.1 pc = .ok (.lmul, 1)) (h : zJ τ F (pc + 1) L (.long (x * y) :: st) μ c k) : zJ τ F pc L (.long y :: .long x :: st) μ c k := by
  intro ad H locs ls hw hL hst
  refine lv_lmul hT.1 hT.2.1 hd ?_
  have hst := zoks_tl hst
  have hst := zoks_tl hst
  exact h ad H locs ls hw hL (zoks_cons (zok_long _ _) hst)

theorem J_ineg (hT : zCx τ M kk mc ms) {x : Int32} (hd : decode M.2.1 pc = .ok (.ineg, 1)) (h : zJ τ F (pc + 1) L (.int (-x) :: st) μ c k) : zJ τ F pc L (.int x :: st) μ c k := by
  intro ad H locs ls hw hL hst
  refine lv_ineg hT.1 hT.2.1 hd ?_
  have hst := zoks_tl hst
  exact h ad H locs ls hw hL (zoks_cons (zok_int _ _) hst)

theorem J_lneg (hT : zCx τ M kk mc ms) {x : Int64} (hd : decode M.2.1 pc = .ok (.lneg, 1)) (h : zJ τ F (pc + 1) L (.long (-x) :: st) μ c k) : zJ τ F pc L (.long x :: st) μ c k := by
  intro ad H locs ls hw hL hst
  refine lv_lneg hT.1 hT.2.1 hd ?_
  have hst := zoks_tl hst
  exact h ad H locs ls hw hL (zoks_cons (zok_long _ _) hst)

theorem J_i2l (hT : zCx τ M kk mc ms) {x : Int32} (hd : decode M.2.1 pc = .ok (.i2l, 1)) (h : zJ τ F (pc + 1) L (.long x.toInt64 :: st) μ c k) : zJ τ F pc L (.int x :: st) μ c k := by
  intro ad H locs ls hw hL hst
  refine lv_i2l hT.1 hT.2.1 hd rfl ?_
  have hst := zoks_tl hst
  exact h ad H locs ls hw hL (zoks_cons (zok_long _ _) hst)

theorem J_l2i (hT : zCx τ M kk mc ms) {x : Int64} (hd : decode M.2.1 pc = .ok (.l2i, 1)) (h : zJ τ F (pc + 1) L (.int x.toInt32 :: st) μ c k) : zJ τ F pc L (.long x :: st) μ c k := by
  intro ad H locs ls hw hL hst
  refine lv_l2i hT.1 hT.2.1 hd rfl ?_
  have hst := zoks_tl hst
  exact h ad H locs ls hw hL (zoks_cons (zok_int _ _) hst)

theorem J_i2c (hT : zCx τ M kk mc ms) {x : Int32} (hd : decode M.2.1 pc = .ok (.i2c, 1)) (h : zJ τ F (pc + 1) L (.int (x.toUInt32 % 65536).toInt32 :: st) μ c k) : zJ τ F pc L (.int x :: st) μ c k := by
  intro ad H locs ls hw hL hst
  refine lv_i2c hT.1 hT.2.1 hd rfl ?_
  have hst := zoks_tl hst
  exact h ad H locs ls hw hL (zoks_cons (zok_int _ _) hst)

theorem J_lcmp (hT : zCx τ M kk mc ms) {x y : Int64} (hd : decode M.2.1 pc = .ok (.lcmp, 1)) (h : zJ τ F (pc + 1) L (.int (lg_cmp x y) :: st) μ c k) : zJ τ F pc L (.long y :: .long x :: st) μ c k := by
  intro ad H locs ls hw hL hst
  refine W.lcmp hT.1 hT.2.1 hd ?_
  have hst := zoks_tl hst
  have hst := zoks_tl hst
  exact h ad H locs ls hw hL (zoks_cons (zok_int _ _) hst)

theorem J_if_eq (hT : zCx τ M kk mc ms) {x : Int32} {off : Int} {tgt : Nat} (hd : decode M.2.1 pc = .ok (.ifCond .eq off, 3)) (ht : (pc : Int) + off = (tgt : Int)) (h1 : x = 0 → zJ τ F tgt L st μ c k) (h2 : ¬ (x = 0) → zJ τ F (pc + 3) L st μ c k) : zJ τ F pc L (.int x :: st) μ c k := by
  intro ad H locs ls hw hL hst
  exact lv_if_eq hT.1 hT.2.1 hd ht (fun q => h1 q ad H locs ls hw hL (zoks_tl hst)) (fun q => h2 q ad H locs ls hw hL (zoks_tl hst))

theorem J_icmp_eq (hT : zCx τ M kk mc ms) {x y : Int32} {off : Int} {tgt : Nat} (hd : decode M.2.1 pc = .ok (.if_icmp .eq off, 3)) (ht : (pc : Int) + off = (tgt : Int)) (h1 : x = y → zJ τ F tgt L st μ c k) (h2 : ¬ (x = y) → zJ τ F (pc + 3) L st μ c k) : zJ τ F pc L (.int y :: .int x :: st) μ c k := by
  intro ad H locs ls hw hL hst
  exact lv_icmp_eq hT.1 hT.2.1 hd ht (fun q => h1 q ad H locs ls hw hL (zoks_tl (zoks_tl hst))) (fun q => h2 q ad H locs ls hw hL (zoks_tl (zoks_tl hst)))

theorem J_if_ne (hT : zCx τ M kk mc ms) {x : Int32} {off : Int} {tgt : Nat} (hd : decode M.2.1 pc = .ok (.ifCond .ne off, 3)) (ht : (pc : Int) + off = (tgt : Int)) (h1 : ¬ x = 0 → zJ τ F tgt L st μ c k) (h2 : x = 0 → zJ τ F (pc + 3) L st μ c k) : zJ τ F pc L (.int x :: st) μ c k := by
  intro ad H locs ls hw hL hst
  exact lv_if_ne hT.1 hT.2.1 hd ht (fun q => h1 q ad H locs ls hw hL (zoks_tl hst)) (fun q => h2 q ad H locs ls hw hL (zoks_tl hst))

theorem J_icmp_ne (hT : zCx τ M kk mc ms) {x y : Int32} {off : Int} {tgt : Nat} (hd : decode M.2.1 pc = .ok (.if_icmp .ne off, 3)) (ht : (pc : Int) + off = (tgt : Int)) (h1 : ¬ x = y → zJ τ F tgt L st μ c k) (h2 : x = y → zJ τ F (pc + 3) L st μ c k) : zJ τ F pc L (.int y :: .int x :: st) μ c k := by
  intro ad H locs ls hw hL hst
  exact lv_icmp_ne hT.1 hT.2.1 hd ht (fun q => h1 q ad H locs ls hw hL (zoks_tl (zoks_tl hst))) (fun q => h2 q ad H locs ls hw hL (zoks_tl (zoks_tl hst)))

theorem J_if_lt (hT : zCx τ M kk mc ms) {x : Int32} {off : Int} {tgt : Nat} (hd : decode M.2.1 pc = .ok (.ifCond .lt off, 3)) (ht : (pc : Int) + off = (tgt : Int)) (h1 : x < 0 → zJ τ F tgt L st μ c k) (h2 : ¬ (x < 0) → zJ τ F (pc + 3) L st μ c k) : zJ τ F pc L (.int x :: st) μ c k := by
  intro ad H locs ls hw hL hst
  exact lv_if_lt hT.1 hT.2.1 hd ht (fun q => h1 q ad H locs ls hw hL (zoks_tl hst)) (fun q => h2 q ad H locs ls hw hL (zoks_tl hst))

theorem J_icmp_lt (hT : zCx τ M kk mc ms) {x y : Int32} {off : Int} {tgt : Nat} (hd : decode M.2.1 pc = .ok (.if_icmp .lt off, 3)) (ht : (pc : Int) + off = (tgt : Int)) (h1 : x < y → zJ τ F tgt L st μ c k) (h2 : ¬ (x < y) → zJ τ F (pc + 3) L st μ c k) : zJ τ F pc L (.int y :: .int x :: st) μ c k := by
  intro ad H locs ls hw hL hst
  exact lv_icmp_lt hT.1 hT.2.1 hd ht (fun q => h1 q ad H locs ls hw hL (zoks_tl (zoks_tl hst))) (fun q => h2 q ad H locs ls hw hL (zoks_tl (zoks_tl hst)))

theorem J_if_ge (hT : zCx τ M kk mc ms) {x : Int32} {off : Int} {tgt : Nat} (hd : decode M.2.1 pc = .ok (.ifCond .ge off, 3)) (ht : (pc : Int) + off = (tgt : Int)) (h1 : x ≥ 0 → zJ τ F tgt L st μ c k) (h2 : ¬ (x ≥ 0) → zJ τ F (pc + 3) L st μ c k) : zJ τ F pc L (.int x :: st) μ c k := by
  intro ad H locs ls hw hL hst
  exact lv_if_ge hT.1 hT.2.1 hd ht (fun q => h1 q ad H locs ls hw hL (zoks_tl hst)) (fun q => h2 q ad H locs ls hw hL (zoks_tl hst))

theorem J_icmp_ge (hT : zCx τ M kk mc ms) {x y : Int32} {off : Int} {tgt : Nat} (hd : decode M.2.1 pc = .ok (.if_icmp .ge off, 3)) (ht : (pc : Int) + off = (tgt : Int)) (h1 : x ≥ y → zJ τ F tgt L st μ c k) (h2 : ¬ (x ≥ y) → zJ τ F (pc + 3) L st μ c k) : zJ τ F pc L (.int y :: .int x :: st) μ c k := by
  intro ad H locs ls hw hL hst
  exact lv_icmp_ge hT.1 hT.2.1 hd ht (fun q => h1 q ad H locs ls hw hL (zoks_tl (zoks_tl hst))) (fun q => h2 q ad H locs ls hw hL (zoks_tl (zoks_tl hst)))

theorem J_if_gt (hT : zCx τ M kk mc ms) {x : Int32} {off : Int} {tgt : Nat} (hd : decode M.2.1 pc = .ok (.ifCond .gt off, 3)) (ht : (pc : Int) + off = (tgt : Int)) (h1 : x > 0 → zJ τ F tgt L st μ c k) (h2 : ¬ (x > 0) → zJ τ F (pc + 3) L st μ c k) : zJ τ F pc L (.int x :: st) μ c k := by
  intro ad H locs ls hw hL hst
  exact lv_if_gt hT.1 hT.2.1 hd ht (fun q => h1 q ad H locs ls hw hL (zoks_tl hst)) (fun q => h2 q ad H locs ls hw hL (zoks_tl hst))

theorem J_icmp_gt (hT : zCx τ M kk mc ms) {x y : Int32} {off : Int} {tgt : Nat} (hd : decode M.2.1 pc = .ok (.if_icmp .gt off, 3)) (ht : (pc : Int) + off = (tgt : Int)) (h1 : x > y → zJ τ F tgt L st μ c k) (h2 : ¬ (x > y) → zJ τ F (pc + 3) L st μ c k) : zJ τ F pc L (.int y :: .int x :: st) μ c k := by
  intro ad H locs ls hw hL hst
  exact lv_icmp_gt hT.1 hT.2.1 hd ht (fun q => h1 q ad H locs ls hw hL (zoks_tl (zoks_tl hst))) (fun q => h2 q ad H locs ls hw hL (zoks_tl (zoks_tl hst)))

theorem J_if_le (hT : zCx τ M kk mc ms) {x : Int32} {off : Int} {tgt : Nat} (hd : decode M.2.1 pc = .ok (.ifCond .le off, 3)) (ht : (pc : Int) + off = (tgt : Int)) (h1 : x ≤ 0 → zJ τ F tgt L st μ c k) (h2 : ¬ (x ≤ 0) → zJ τ F (pc + 3) L st μ c k) : zJ τ F pc L (.int x :: st) μ c k := by
  intro ad H locs ls hw hL hst
  exact lv_if_le hT.1 hT.2.1 hd ht (fun q => h1 q ad H locs ls hw hL (zoks_tl hst)) (fun q => h2 q ad H locs ls hw hL (zoks_tl hst))

theorem J_icmp_le (hT : zCx τ M kk mc ms) {x y : Int32} {off : Int} {tgt : Nat} (hd : decode M.2.1 pc = .ok (.if_icmp .le off, 3)) (ht : (pc : Int) + off = (tgt : Int)) (h1 : x ≤ y → zJ τ F tgt L st μ c k) (h2 : ¬ (x ≤ y) → zJ τ F (pc + 3) L st μ c k) : zJ τ F pc L (.int y :: .int x :: st) μ c k := by
  intro ad H locs ls hw hL hst
  exact lv_icmp_le hT.1 hT.2.1 hd ht (fun q => h1 q ad H locs ls hw hL (zoks_tl (zoks_tl hst))) (fun q => h2 q ad H locs ls hw hL (zoks_tl (zoks_tl hst)))

theorem J_goto (hT : zCx τ M kk mc ms) {off : Int} {tgt : Nat} (hd : decode M.2.1 pc = .ok (.goto off, 3)) (ht : (pc : Int) + off = (tgt : Int)) (h : zJ τ F tgt L st μ c k) : zJ τ F pc L st μ c k := by
  intro ad H locs ls hw hL hst
  exact lv_goto hT.1 hT.2.1 hd ht (h ad H locs ls hw hL hst)
theorem J_ishl (hT : zCx τ M kk mc ms) {x y : Int32} (hd : decode M.2.1 pc = .ok (.ishl, 1)) (h : zJ τ F (pc + 1) L (.int (x <<< (y &&& 31)) :: st) μ c k) : zJ τ F pc L (.int y :: .int x :: st) μ c k := by
  intro ad H locs ls hw hL hst
  refine lv_ishl hT.1 hT.2.1 hd ?_
  exact h ad H locs ls hw hL (zoks_cons (zok_int _ _) (zoks_tl (zoks_tl hst)))
theorem J_ishr (hT : zCx τ M kk mc ms) {x y : Int32} (hd : decode M.2.1 pc = .ok (.ishr, 1)) (h : zJ τ F (pc + 1) L (.int (x >>> (y &&& 31)) :: st) μ c k) : zJ τ F pc L (.int y :: .int x :: st) μ c k := by
  intro ad H locs ls hw hL hst
  refine lv_ishr hT.1 hT.2.1 hd ?_
  exact h ad H locs ls hw hL (zoks_cons (zok_int _ _) (zoks_tl (zoks_tl hst)))
theorem J_dup (hT : zCx τ M kk mc ms) {v : Value} (hd : decode M.2.1 pc = .ok (.dup, 1)) (hv : v.category = 1) (h : zJ τ F (pc + 1) L (v :: v :: st) μ c k) : zJ τ F pc L (v :: st) μ c k := by
  intro ad H locs ls hw hL hst
  exact lv_dup hT.1 hT.2.1 hd (by rw [ztv_cat]; exact hv) (h ad H locs ls hw hL (zoks_cons (zoks_hd hst) hst))
theorem J_dup2 (hT : zCx τ M kk mc ms) {v w : Value} (hd : decode M.2.1 pc = .ok (.dup2, 1)) (hv : v.category = 1) (hw' : w.category = 1) (h : zJ τ F (pc + 1) L (v :: w :: v :: w :: st) μ c k) : zJ τ F pc L (v :: w :: st) μ c k := by
  intro ad H locs ls hw hL hst
  exact lv_dup2_11 hT.1 hT.2.1 hd (by rw [ztv_cat]; exact hv) (by rw [ztv_cat]; exact hw') (h ad H locs ls hw hL (zoks_cons (zoks_hd hst) (zoks_cons (zoks_hd (zoks_tl hst)) hst)))
theorem J_pop (hT : zCx τ M kk mc ms) {v : Value} (hd : decode M.2.1 pc = .ok (.pop, 1)) (hv : v.category = 1) (h : zJ τ F (pc + 1) L st μ c k) : zJ τ F pc L (v :: st) μ c k := by
  intro ad H locs ls hw hL hst
  exact lv_pop hT.1 hT.2.1 hd (by rw [ztv_cat]; exact hv) (h ad H locs ls hw hL (zoks_tl hst))
theorem J_ifnonnull (hT : zCx τ M kk mc ms) {a : Nat} {off : Int} {tgt : Nat} (hd : decode M.2.1 pc = .ok (.ifnonnull off, 3)) (ht : (pc : Int) + off = (tgt : Int)) (h : zJ τ F tgt L st μ c k) : zJ τ F pc L (.ref a :: st) μ c k := by
  intro ad H locs ls hw hL hst
  exact lv_ifnonnull hT.1 hT.2.1 hd ht (h ad H locs ls hw hL (zoks_tl hst))
theorem J_ifnull (hT : zCx τ M kk mc ms) {a : Nat} {off : Int} (hd : decode M.2.1 pc = .ok (.ifnull off, 3)) (h : zJ τ F (pc + 3) L st μ c k) : zJ τ F pc L (.ref a :: st) μ c k := by
  intro ad H locs ls hw hL hst
  exact lv_ifnull hT.1 hT.2.1 hd (h ad H locs ls hw hL (zoks_tl hst))
theorem J_ifnullN (hT : zCx τ M kk mc ms) {off : Int} {tgt : Nat} (hd : decode M.2.1 pc = .ok (.ifnull off, 3)) (ht : (pc : Int) + off = (tgt : Int)) (h : zJ τ F tgt L st μ c k) : zJ τ F pc L (.null :: st) μ c k := by
  intro ad H locs ls hw hL hst
  exact lv_ifnullN hT.1 hT.2.1 hd ht (h ad H locs ls hw hL (zoks_tl hst))
theorem J_ifnonnullN (hT : zCx τ M kk mc ms) {off : Int} (hd : decode M.2.1 pc = .ok (.ifnonnull off, 3)) (h : zJ τ F (pc + 3) L st μ c k) : zJ τ F pc L (.null :: st) μ c k := by
  intro ad H locs ls hw hL hst
  exact lv_ifnonnullN hT.1 hT.2.1 hd (h ad H locs ls hw hL (zoks_tl hst))
theorem J_tableIn (hT : zCx τ M kk mc ms) {dflt lo hi : Int} {offs : Array Int} {len : Nat} {x : Int32} {off : Int} {tgt : Nat} (hd : decode M.2.1 pc = .ok (.tableswitch dflt lo hi offs, len)) (h1 : ¬ x.toInt < lo) (h2 : ¬ hi < x.toInt) (ho : offs[(x.toInt - lo).toNat]? = some off) (ht : (pc : Int) + off = (tgt : Int)) (h : zJ τ F tgt L st μ c k) : zJ τ F pc L (.int x :: st) μ c k := by
  intro ad H locs ls hw hL hst
  exact lv_tableIn hT.1 hT.2.1 hd h1 h2 ho ht (h ad H locs ls hw hL (zoks_tl hst))
theorem J_tableOut (hT : zCx τ M kk mc ms) {dflt lo hi : Int} {offs : Array Int} {len : Nat} {x : Int32} {tgt : Nat} (hd : decode M.2.1 pc = .ok (.tableswitch dflt lo hi offs, len)) (h1 : x.toInt < lo ∨ hi < x.toInt) (ht : (pc : Int) + dflt = (tgt : Int)) (h : zJ τ F tgt L st μ c k) : zJ τ F pc L (.int x :: st) μ c k := by
  intro ad H locs ls hw hL hst
  exact lv_tableOut hT.1 hT.2.1 hd h1 ht (h ad H locs ls hw hL (zoks_tl hst))
theorem J_lookup (hT : zCx τ M kk mc ms) {dflt : Int} {ps : Array (Int × Int)} {len : Nat} {x : Int32} {off : Int} {tgt : Nat} (hd : decode M.2.1 pc = .ok (.lookupswitch dflt ps, len)) (hp : (ps.toList.zip (ps.toList.drop 1)).all (fun (a, next) => a.1 < next.1) = true) (ho : Op.lookupswitch.offset ps.toList dflt x.toInt = off) (ht : (pc : Int) + off = (tgt : Int)) (h : zJ τ F tgt L st μ c k) : zJ τ F pc L (.int x :: st) μ c k := by
  intro ad H locs ls hw hL hst
  exact lv_lookup hT.1 hT.2.1 hd hp ho ht (h ad H locs ls hw hL (zoks_tl hst))

theorem J_iload_n (hT : zCx τ M kk mc ms) {q : Fin 4} {i : Nat} {x : Int32} (hd : decode M.2.1 pc = .ok (.iload_n q, 1)) (hi : (q : Nat) = i) (hl : L[i]? = some (some (.int x))) (h : zJ τ F (pc + 1) L (.int x :: st) μ c k) : zJ τ F pc L st μ c k := by
  intro ad H locs ls hw hL hst
  exact lv_iload_n hT.1 hT.2.1 hd hi (hL.2.2 i _ hl).1 (h ad H locs ls hw hL (zoks_cons (hL.2.2 i _ hl).2 hst))

theorem J_iload (hT : zCx τ M kk mc ms) {i : Nat} {x : Int32} (hd : decode M.2.1 pc = .ok (.iload i, 2)) (hl : L[i]? = some (some (.int x))) (h : zJ τ F (pc + 2) L (.int x :: st) μ c k) : zJ τ F pc L st μ c k := by
  intro ad H locs ls hw hL hst
  exact lv_iload hT.1 hT.2.1 hd (hL.2.2 i _ hl).1 (h ad H locs ls hw hL (zoks_cons (hL.2.2 i _ hl).2 hst))

theorem J_lload_n (hT : zCx τ M kk mc ms) {q : Fin 4} {i : Nat} {x : Int64} (hd : decode M.2.1 pc = .ok (.lload_n q, 1)) (hi : (q : Nat) = i) (hl : L[i]? = some (some (.long x))) (h : zJ τ F (pc + 1) L (.long x :: st) μ c k) : zJ τ F pc L st μ c k := by
  intro ad H locs ls hw hL hst
  exact lv_lload_n hT.1 hT.2.1 hd hi (hL.2.2 i _ hl).1 (h ad H locs ls hw hL (zoks_cons (hL.2.2 i _ hl).2 hst))

theorem J_lload (hT : zCx τ M kk mc ms) {i : Nat} {x : Int64} (hd : decode M.2.1 pc = .ok (.lload i, 2)) (hl : L[i]? = some (some (.long x))) (h : zJ τ F (pc + 2) L (.long x :: st) μ c k) : zJ τ F pc L st μ c k := by
  intro ad H locs ls hw hL hst
  exact lv_lload hT.1 hT.2.1 hd (hL.2.2 i _ hl).1 (h ad H locs ls hw hL (zoks_cons (hL.2.2 i _ hl).2 hst))

theorem J_aload_n (hT : zCx τ M kk mc ms) {q : Fin 4} {i : Nat} {x : Nat} (hd : decode M.2.1 pc = .ok (.aload_n q, 1)) (hi : (q : Nat) = i) (hl : L[i]? = some (some (.ref x))) (h : zJ τ F (pc + 1) L (.ref x :: st) μ c k) : zJ τ F pc L st μ c k := by
  intro ad H locs ls hw hL hst
  exact lv_aload_n hT.1 hT.2.1 hd hi (hL.2.2 i _ hl).1 (h ad H locs ls hw hL (zoks_cons (hL.2.2 i _ hl).2 hst))

theorem J_aload (hT : zCx τ M kk mc ms) {i : Nat} {x : Nat} (hd : decode M.2.1 pc = .ok (.aload i, 2)) (hl : L[i]? = some (some (.ref x))) (h : zJ τ F (pc + 2) L (.ref x :: st) μ c k) : zJ τ F pc L st μ c k := by
  intro ad H locs ls hw hL hst
  exact lv_aload hT.1 hT.2.1 hd (hL.2.2 i _ hl).1 (h ad H locs ls hw hL (zoks_cons (hL.2.2 i _ hl).2 hst))

theorem J_aload_nN (hT : zCx τ M kk mc ms) {q : Fin 4} {i : Nat} (hd : decode M.2.1 pc = .ok (.aload_n q, 1)) (hi : (q : Nat) = i) (hl : L[i]? = some (some .null)) (h : zJ τ F (pc + 1) L (.null :: st) μ c k) : zJ τ F pc L st μ c k := by
  intro ad H locs ls hw hL hst
  exact lv_aload_nN hT.1 hT.2.1 hd hi (hL.2.2 i _ hl).1 (h ad H locs ls hw hL (zoks_cons (hL.2.2 i _ hl).2 hst))

theorem J_aloadN (hT : zCx τ M kk mc ms) {i : Nat} (hd : decode M.2.1 pc = .ok (.aload i, 2)) (hl : L[i]? = some (some .null)) (h : zJ τ F (pc + 2) L (.null :: st) μ c k) : zJ τ F pc L st μ c k := by
  intro ad H locs ls hw hL hst
  exact lv_aloadN hT.1 hT.2.1 hd (hL.2.2 i _ hl).1 (h ad H locs ls hw hL (zoks_cons (hL.2.2 i _ hl).2 hst))

theorem J_istore_n (hT : zCx τ M kk mc ms) {q : Fin 4} {i : Nat} {x : Int32} (hd : decode M.2.1 pc = .ok (.istore_n q, 1)) (hi : (q : Nat) = i) (hl : (i + 0 < L.length)) (h : zJ τ F (pc + 1) (zst1 L i (.int x)) st μ c k) : zJ τ F pc L (.int x :: st) μ c k := by
  intro ad H locs ls hw hL hst
  exact lv_istore_n (lv := zlv ad L) hT.1 hT.2.1 hd hi (zLo_has hL) hl rfl (fun ls' h' => h ad H locs ls' hw (zLo_st1 (v := .int x) hL (zoks_hd hst) h') (zoks_tl hst))

theorem J_istore (hT : zCx τ M kk mc ms) {i : Nat} {x : Int32} (hd : decode M.2.1 pc = .ok (.istore i, 2)) (hl : (i + 0 < L.length)) (h : zJ τ F (pc + 2) (zst1 L i (.int x)) st μ c k) : zJ τ F pc L (.int x :: st) μ c k := by
  intro ad H locs ls hw hL hst
  exact lv_istore (lv := zlv ad L) hT.1 hT.2.1 hd (zLo_has hL) hl rfl (fun ls' h' => h ad H locs ls' hw (zLo_st1 (v := .int x) hL (zoks_hd hst) h') (zoks_tl hst))

theorem J_lstore_n (hT : zCx τ M kk mc ms) {q : Fin 4} {i : Nat} {x : Int64} (hd : decode M.2.1 pc = .ok (.lstore_n q, 1)) (hi : (q : Nat) = i) (hl : (i + 1 < L.length)) (h : zJ τ F (pc + 1) (zst2 L i (.long x)) st μ c k) : zJ τ F pc L (.long x :: st) μ c k := by
  intro ad H locs ls hw hL hst
  exact lv_lstore_n (lv := zlv ad L) hT.1 hT.2.1 hd hi (zLo_has hL) hl rfl (fun ls' h' => h ad H locs ls' hw (zLo_st2 (v := .long x) hL (zoks_hd hst) h') (zoks_tl hst))

theorem J_lstore (hT : zCx τ M kk mc ms) {i : Nat} {x : Int64} (hd : decode M.2.1 pc = .ok (.lstore i, 2)) (hl : (i + 1 < L.length)) (h : zJ τ F (pc + 2) (zst2 L i (.long x)) st μ c k) : zJ τ F pc L (.long x :: st) μ c k := by
  intro ad H locs ls hw hL hst
  exact lv_lstore (lv := zlv ad L) hT.1 hT.2.1 hd (zLo_has hL) hl rfl (fun ls' h' => h ad H locs ls' hw (zLo_st2 (v := .long x) hL (zoks_hd hst) h') (zoks_tl hst))

theorem J_astore_n (hT : zCx τ M kk mc ms) {q : Fin 4} {i : Nat} {x : Nat} (hd : decode M.2.1 pc = .ok (.astore_n q, 1)) (hi : (q : Nat) = i) (hl : (i + 0 < L.length)) (h : zJ τ F (pc + 1) (zst1 L i (.ref x)) st μ c k) : zJ τ F pc L (.ref x :: st) μ c k := by
  intro ad H locs ls hw hL hst
  exact lv_astore_n (lv := zlv ad L) hT.1 hT.2.1 hd hi (zLo_has hL) hl rfl (fun ls' h' => h ad H locs ls' hw (zLo_st1 (v := .ref x) hL (zoks_hd hst) h') (zoks_tl hst))

theorem J_astore (hT : zCx τ M kk mc ms) {i : Nat} {x : Nat} (hd : decode M.2.1 pc = .ok (.astore i, 2)) (hl : (i + 0 < L.length)) (h : zJ τ F (pc + 2) (zst1 L i (.ref x)) st μ c k) : zJ τ F pc L (.ref x :: st) μ c k := by
  intro ad H locs ls hw hL hst
  exact lv_astore (lv := zlv ad L) hT.1 hT.2.1 hd (zLo_has hL) hl rfl (fun ls' h' => h ad H locs ls' hw (zLo_st1 (v := .ref x) hL (zoks_hd hst) h') (zoks_tl hst))

theorem J_astore_nN (hT : zCx τ M kk mc ms) {q : Fin 4} {i : Nat} (hd : decode M.2.1 pc = .ok (.astore_n q, 1)) (hi : (q : Nat) = i) (hl : (i + 0 < L.length)) (h : zJ τ F (pc + 1) (zst1 L i (.null)) st μ c k) : zJ τ F pc L (.null :: st) μ c k := by
  intro ad H locs ls hw hL hst
  exact lv_astore_nN (lv := zlv ad L) hT.1 hT.2.1 hd hi (zLo_has hL) hl rfl (fun ls' h' => h ad H locs ls' hw (zLo_st1 (v := .null) hL (zoks_hd hst) h') (zoks_tl hst))

theorem J_astoreN (hT : zCx τ M kk mc ms) {i : Nat} (hd : decode M.2.1 pc = .ok (.astore i, 2)) (hl : (i + 0 < L.length)) (h : zJ τ F (pc + 2) (zst1 L i (.null)) st μ c k) : zJ τ F pc L (.null :: st) μ c k := by
  intro ad H locs ls hw hL hst
  exact lv_astoreN (lv := zlv ad L) hT.1 hT.2.1 hd (zLo_has hL) hl rfl (fun ls' h' => h ad H locs ls' hw (zLo_st1 (v := .null) hL (zoks_hd hst) h') (zoks_tl hst))

theorem J_iinc (hT : zCx τ M kk mc ms) {i : Nat} {n : Int} {x v : Int32} (hd : decode M.2.1 pc = .ok (.iinc i n, 3)) (hl : L[i]? = some (some (.int x))) (hv : x + Int32.ofInt n = v) (h : zJ τ F (pc + 3) (zst1 L i (.int v)) st μ c k) : zJ τ F pc L st μ c k := by
  intro ad H locs ls hw hL hst
  obtain ⟨j, hj⟩ := List.getElem?_of_mem (zlv_mem (ad := ad) hl)
  exact lv_iinc (lv := zlv ad L) hT.1 hT.2.1 hd (zLo_has hL) hj hv (List.getElem?_eq_some_iff.mp hl).1 rfl (fun ls' h' => h ad H locs ls' hw (zLo_st1 (v := .int v) hL (zok_int _ _) h') hst)
end ZR

